set_option maxRecDepth 20000 in
theorem ggL_make_X2_make : GoodIn wsL_make wsX2_make := goodIn_ca (goodIn_ca (goodIn_r _ [7, 8, 9, 10, 11, 12, 13, 14, 15, 16, 17, 18, 6, 19, 20, 21, 22, 23, 24, 25, 26, 27, 28, 29, 30, 31, 32, 33, 34, 35, 36, 37, 38, 39, 40, 41, 42, 43, 44, 45, 46, 47, 48, 49, 50, 51] (by decide +kernel) (by decide +kernel)) (goodIn_sub (fun _ h => List.mem_cons_of_mem _ (List.mem_append_left _ (List.mem_append_right _ h))) (by decide +kernel))) (goodIn_sub (fun _ h => List.mem_cons_of_mem _ (List.mem_append_right _ h)) (by decide +kernel))
set_option maxRecDepth 20000 in
theorem gL_make_X2_make : GoodIn wsL_make (wsV RL 7 RX2 yX2_make wsX2_make) := goodIn_app (goodIn_of _ (by decide +kernel)) ggL_make_X2_make
theorem dL_make_0 : decode cL_make 0 = .ok (.aload 4, 2) := by decide +kernel
theorem dL_make_2 : decode cL_make 2 = .ok (.iconst 0, 1) := by decide +kernel
theorem dL_make_3 : decode cL_make 3 = .ok (.aload_n 0, 1) := by decide +kernel
theorem dL_make_4 : decode cL_make 4 = .ok (.iload_n 1, 1) := by decide +kernel
theorem dL_make_5 : decode cL_make 5 = .ok (.iload_n 2, 1) := by decide +kernel
theorem dL_make_6 : decode cL_make 6 = .ok (.iload_n 3, 1) := by decide +kernel
theorem dL_make_7 : decode cL_make 7 = .ok (.invokevirtual 7, 3) := by decide +kernel
theorem dL_make_10 : decode cL_make 10 = .ok (.i2l, 1) := by decide +kernel
theorem dL_make_11 : decode cL_make 11 = .ok (.lastore, 1) := by decide +kernel
theorem dL_make_12 : decode cL_make 12 = .ok (.goto 11, 3) := by decide +kernel
theorem dL_make_15 : decode cL_make 15 = .ok (.astore 5, 2) := by decide +kernel
theorem dL_make_17 : decode cL_make 17 = .ok (.iconst 1, 1) := by decide +kernel
theorem dL_make_18 : decode cL_make 18 = .ok (.ireturn, 1) := by decide +kernel
theorem dL_make_19 : decode cL_make 19 = .ok (.astore 5, 2) := by decide +kernel
theorem dL_make_21 : decode cL_make 21 = .ok (.iconst 2, 1) := by decide +kernel
theorem dL_make_22 : decode cL_make 22 = .ok (.ireturn, 1) := by decide +kernel
theorem dL_make_23 : decode cL_make 23 = .ok (.iconst 0, 1) := by decide +kernel
theorem dL_make_24 : decode cL_make 24 = .ok (.ireturn, 1) := by decide +kernel
set_option maxRecDepth 20000 in
theorem ggL_hang_X2_hang : GoodIn wsL_hang wsX2_hang := goodIn_ca (goodIn_ca (goodIn_ca (goodIn_r _ [8, 9, 10, 11, 12, 13, 14, 15, 16, 17, 18, 19, 20, 7, 21, 22, 23, 24, 25, 26, 27, 28, 29, 30, 31, 32, 33, 34, 35, 36, 37, 38, 39, 40, 41, 42, 43, 44, 45, 46, 47, 48, 49, 50, 51, 52, 53, 54, 55, 56, 57, 58, 59, 60, 61, 62, 63, 64, 65, 66, 67, 68, 69, 70, 71, 72, 73, 74, 75, 76, 77, 78, 79, 80, 81] (by decide +kernel) (by decide +kernel)) (goodIn_sub (fun _ h => List.mem_cons_of_mem _ (List.mem_append_left _ (List.mem_append_left _ (List.mem_append_right _ h)))) (by decide +kernel))) (goodIn_sub (fun _ h => List.mem_cons_of_mem _ (List.mem_append_left _ (List.mem_append_right _ h))) (by decide +kernel))) (goodIn_sub (fun _ h => List.mem_cons_of_mem _ (List.mem_append_right _ h)) (by decide +kernel))
set_option maxRecDepth 20000 in
theorem gL_hang_X2_hang : GoodIn wsL_hang (wsV RL 17 RX2 yX2_hang wsX2_hang) := goodIn_app (goodIn_of _ (by decide +kernel)) ggL_hang_X2_hang
theorem dL_hang_0 : decode cL_hang 0 = .ok (.aload 4, 2) := by decide +kernel
theorem dL_hang_2 : decode cL_hang 2 = .ok (.iconst 0, 1) := by decide +kernel
theorem dL_hang_3 : decode cL_hang 3 = .ok (.aload_n 0, 1) := by decide +kernel
theorem dL_hang_4 : decode cL_hang 4 = .ok (.iload_n 1, 1) := by decide +kernel
theorem dL_hang_5 : decode cL_hang 5 = .ok (.iload_n 2, 1) := by decide +kernel
theorem dL_hang_6 : decode cL_hang 6 = .ok (.iload_n 3, 1) := by decide +kernel
theorem dL_hang_7 : decode cL_hang 7 = .ok (.invokevirtual 17, 3) := by decide +kernel
theorem dL_hang_10 : decode cL_hang 10 = .ok (.i2l, 1) := by decide +kernel
theorem dL_hang_11 : decode cL_hang 11 = .ok (.lastore, 1) := by decide +kernel
theorem dL_hang_12 : decode cL_hang 12 = .ok (.goto 15, 3) := by decide +kernel
theorem dL_hang_15 : decode cL_hang 15 = .ok (.astore 5, 2) := by decide +kernel
theorem dL_hang_17 : decode cL_hang 17 = .ok (.iconst 1, 1) := by decide +kernel
theorem dL_hang_18 : decode cL_hang 18 = .ok (.ireturn, 1) := by decide +kernel
theorem dL_hang_19 : decode cL_hang 19 = .ok (.astore 5, 2) := by decide +kernel
theorem dL_hang_21 : decode cL_hang 21 = .ok (.iconst 2, 1) := by decide +kernel
theorem dL_hang_22 : decode cL_hang 22 = .ok (.ireturn, 1) := by decide +kernel
theorem dL_hang_23 : decode cL_hang 23 = .ok (.astore 5, 2) := by decide +kernel
theorem dL_hang_25 : decode cL_hang 25 = .ok (.iconst 3, 1) := by decide +kernel
theorem dL_hang_26 : decode cL_hang 26 = .ok (.ireturn, 1) := by decide +kernel
theorem dL_hang_27 : decode cL_hang 27 = .ok (.iconst 0, 1) := by decide +kernel
theorem dL_hang_28 : decode cL_hang 28 = .ok (.ireturn, 1) := by decide +kernel
set_option maxRecDepth 20000 in
theorem ggL_takeDown_X2_takeDown : GoodIn wsL_takeDown wsX2_takeDown := goodIn_ca (goodIn_ca (goodIn_r _ [7, 8, 9, 10, 11, 12, 13, 14, 6, 15, 16, 17, 18, 19, 20, 21, 22, 23, 24, 25, 26, 27, 28, 29, 30, 31, 32, 33, 34, 35, 36, 37, 38, 39, 40, 41, 42, 43, 44, 45, 46, 47, 48, 49, 50, 51, 52, 53, 54, 55, 56, 57, 58, 59, 60, 61] (by decide +kernel) (by decide +kernel)) (goodIn_sub (fun _ h => List.mem_cons_of_mem _ (List.mem_append_left _ (List.mem_append_right _ h))) (by decide +kernel))) (goodIn_sub (fun _ h => List.mem_cons_of_mem _ (List.mem_append_right _ h)) (by decide +kernel))
set_option maxRecDepth 20000 in
theorem gL_takeDown_X2_takeDown : GoodIn wsL_takeDown (wsV RL 22 RX2 yX2_takeDown wsX2_takeDown) := goodIn_app (goodIn_of _ (by decide +kernel)) ggL_takeDown_X2_takeDown
theorem dL_takeDown_0 : decode cL_takeDown 0 = .ok (.aload_n 2, 1) := by decide +kernel
theorem dL_takeDown_1 : decode cL_takeDown 1 = .ok (.iconst 0, 1) := by decide +kernel
theorem dL_takeDown_2 : decode cL_takeDown 2 = .ok (.aload_n 0, 1) := by decide +kernel
theorem dL_takeDown_3 : decode cL_takeDown 3 = .ok (.iload_n 1, 1) := by decide +kernel
theorem dL_takeDown_4 : decode cL_takeDown 4 = .ok (.invokevirtual 22, 3) := by decide +kernel
theorem dL_takeDown_7 : decode cL_takeDown 7 = .ok (.i2l, 1) := by decide +kernel
theorem dL_takeDown_8 : decode cL_takeDown 8 = .ok (.lastore, 1) := by decide +kernel
theorem dL_takeDown_9 : decode cL_takeDown 9 = .ok (.goto 9, 3) := by decide +kernel
theorem dL_takeDown_12 : decode cL_takeDown 12 = .ok (.astore_n 3, 1) := by decide +kernel
theorem dL_takeDown_13 : decode cL_takeDown 13 = .ok (.iconst 1, 1) := by decide +kernel
theorem dL_takeDown_14 : decode cL_takeDown 14 = .ok (.ireturn, 1) := by decide +kernel
theorem dL_takeDown_15 : decode cL_takeDown 15 = .ok (.astore_n 3, 1) := by decide +kernel
theorem dL_takeDown_16 : decode cL_takeDown 16 = .ok (.iconst 2, 1) := by decide +kernel
theorem dL_takeDown_17 : decode cL_takeDown 17 = .ok (.ireturn, 1) := by decide +kernel
theorem dL_takeDown_18 : decode cL_takeDown 18 = .ok (.iconst 0, 1) := by decide +kernel
theorem dL_takeDown_19 : decode cL_takeDown 19 = .ok (.ireturn, 1) := by decide +kernel
set_option maxRecDepth 20000 in
theorem ggL_light_X2_light : GoodIn wsL_light wsX2_light := goodIn_ca (goodIn_ca (goodIn_r _ [7, 8, 9, 10, 11, 12, 13, 14, 6, 15, 16, 17, 18, 19, 20, 21, 22, 23, 24, 25, 26, 27, 28, 29, 30, 31, 32, 33, 34, 35, 36, 37, 38, 39, 40, 41, 42, 43, 44, 45, 46, 47, 48, 49, 50, 51, 52, 53, 54, 55, 56, 57, 58, 59, 60, 61, 62, 63, 64, 65, 66, 67, 68, 69, 70, 71] (by decide +kernel) (by decide +kernel)) (goodIn_sub (fun _ h => List.mem_cons_of_mem _ (List.mem_append_left _ (List.mem_append_right _ h))) (by decide +kernel))) (goodIn_sub (fun _ h => List.mem_cons_of_mem _ (List.mem_append_right _ h)) (by decide +kernel))
set_option maxRecDepth 20000 in
theorem gL_light_X2_light : GoodIn wsL_light (wsV RL 26 RX2 yX2_light wsX2_light) := goodIn_app (goodIn_of _ (by decide +kernel)) ggL_light_X2_light
theorem dL_light_0 : decode cL_light 0 = .ok (.aload_n 2, 1) := by decide +kernel
theorem dL_light_1 : decode cL_light 1 = .ok (.iconst 0, 1) := by decide +kernel
theorem dL_light_2 : decode cL_light 2 = .ok (.aload_n 0, 1) := by decide +kernel
theorem dL_light_3 : decode cL_light 3 = .ok (.iload_n 1, 1) := by decide +kernel
theorem dL_light_4 : decode cL_light 4 = .ok (.invokevirtual 26, 3) := by decide +kernel
theorem dL_light_7 : decode cL_light 7 = .ok (.i2l, 1) := by decide +kernel
theorem dL_light_8 : decode cL_light 8 = .ok (.lastore, 1) := by decide +kernel
theorem dL_light_9 : decode cL_light 9 = .ok (.goto 9, 3) := by decide +kernel
theorem dL_light_12 : decode cL_light 12 = .ok (.astore_n 3, 1) := by decide +kernel
theorem dL_light_13 : decode cL_light 13 = .ok (.iconst 1, 1) := by decide +kernel
theorem dL_light_14 : decode cL_light 14 = .ok (.ireturn, 1) := by decide +kernel
theorem dL_light_15 : decode cL_light 15 = .ok (.astore_n 3, 1) := by decide +kernel
theorem dL_light_16 : decode cL_light 16 = .ok (.iconst 2, 1) := by decide +kernel
theorem dL_light_17 : decode cL_light 17 = .ok (.ireturn, 1) := by decide +kernel
theorem dL_light_18 : decode cL_light 18 = .ok (.iconst 0, 1) := by decide +kernel
theorem dL_light_19 : decode cL_light 19 = .ok (.ireturn, 1) := by decide +kernel
set_option maxRecDepth 20000 in
theorem ggL_putOut_X2_putOut : GoodIn wsL_putOut wsX2_putOut := goodIn_ca (goodIn_ca (goodIn_r _ [7, 8, 9, 10, 11, 12, 13, 14, 6, 15, 16, 17, 18, 19, 20, 21, 22, 23, 24, 25, 26, 27, 28, 29, 30, 31, 32, 33, 34, 35, 36, 37, 38, 39, 40, 41, 42, 43, 44, 45, 46] (by decide +kernel) (by decide +kernel)) (goodIn_sub (fun _ h => List.mem_cons_of_mem _ (List.mem_append_left _ (List.mem_append_right _ h))) (by decide +kernel))) (goodIn_sub (fun _ h => List.mem_cons_of_mem _ (List.mem_append_right _ h)) (by decide +kernel))
set_option maxRecDepth 20000 in
theorem gL_putOut_X2_putOut : GoodIn wsL_putOut (wsV RL 29 RX2 yX2_putOut wsX2_putOut) := goodIn_app (goodIn_of _ (by decide +kernel)) ggL_putOut_X2_putOut
theorem dL_putOut_0 : decode cL_putOut 0 = .ok (.aload_n 2, 1) := by decide +kernel
theorem dL_putOut_1 : decode cL_putOut 1 = .ok (.iconst 0, 1) := by decide +kernel
theorem dL_putOut_2 : decode cL_putOut 2 = .ok (.aload_n 0, 1) := by decide +kernel
theorem dL_putOut_3 : decode cL_putOut 3 = .ok (.iload_n 1, 1) := by decide +kernel
theorem dL_putOut_4 : decode cL_putOut 4 = .ok (.invokevirtual 29, 3) := by decide +kernel
theorem dL_putOut_7 : decode cL_putOut 7 = .ok (.i2l, 1) := by decide +kernel
theorem dL_putOut_8 : decode cL_putOut 8 = .ok (.lastore, 1) := by decide +kernel
theorem dL_putOut_9 : decode cL_putOut 9 = .ok (.goto 9, 3) := by decide +kernel
theorem dL_putOut_12 : decode cL_putOut 12 = .ok (.astore_n 3, 1) := by decide +kernel
theorem dL_putOut_13 : decode cL_putOut 13 = .ok (.iconst 1, 1) := by decide +kernel
theorem dL_putOut_14 : decode cL_putOut 14 = .ok (.ireturn, 1) := by decide +kernel
theorem dL_putOut_15 : decode cL_putOut 15 = .ok (.astore_n 3, 1) := by decide +kernel
theorem dL_putOut_16 : decode cL_putOut 16 = .ok (.iconst 2, 1) := by decide +kernel
theorem dL_putOut_17 : decode cL_putOut 17 = .ok (.ireturn, 1) := by decide +kernel
theorem dL_putOut_18 : decode cL_putOut 18 = .ok (.iconst 0, 1) := by decide +kernel
theorem dL_putOut_19 : decode cL_putOut 19 = .ok (.ireturn, 1) := by decide +kernel
set_option maxRecDepth 20000 in
theorem ggL_build_X2_build : GoodIn wsL_build wsX2_build := goodIn_ca (goodIn_ca (goodIn_r _ [7, 8, 9, 10, 11, 12, 13, 14, 15, 16, 17, 18, 6, 19, 20, 21, 22, 23, 24, 25, 26, 27, 28, 29, 30, 31, 32, 33, 34, 35, 36, 37, 38, 39, 40, 41, 42, 43, 44, 45, 46, 47, 48, 49, 50, 51, 52] (by decide +kernel) (by decide +kernel)) (goodIn_sub (fun _ h => List.mem_cons_of_mem _ (List.mem_append_left _ (List.mem_append_right _ h))) (by decide +kernel))) (goodIn_sub (fun _ h => List.mem_cons_of_mem _ (List.mem_append_right _ h)) (by decide +kernel))
set_option maxRecDepth 20000 in
theorem gL_build_X2_build : GoodIn wsL_build (wsV RL 32 RX2 yX2_build wsX2_build) := goodIn_app (goodIn_of _ (by decide +kernel)) ggL_build_X2_build
theorem dL_build_0 : decode cL_build 0 = .ok (.aload_n 3, 1) := by decide +kernel
theorem dL_build_1 : decode cL_build 1 = .ok (.iconst 0, 1) := by decide +kernel
theorem dL_build_2 : decode cL_build 2 = .ok (.aload_n 0, 1) := by decide +kernel
theorem dL_build_3 : decode cL_build 3 = .ok (.iload_n 1, 1) := by decide +kernel
theorem dL_build_4 : decode cL_build 4 = .ok (.iload_n 2, 1) := by decide +kernel
theorem dL_build_5 : decode cL_build 5 = .ok (.invokevirtual 32, 3) := by decide +kernel
theorem dL_build_8 : decode cL_build 8 = .ok (.i2l, 1) := by decide +kernel
theorem dL_build_9 : decode cL_build 9 = .ok (.lastore, 1) := by decide +kernel
theorem dL_build_10 : decode cL_build 10 = .ok (.goto 11, 3) := by decide +kernel
theorem dL_build_13 : decode cL_build 13 = .ok (.astore 4, 2) := by decide +kernel
theorem dL_build_15 : decode cL_build 15 = .ok (.iconst 1, 1) := by decide +kernel
theorem dL_build_16 : decode cL_build 16 = .ok (.ireturn, 1) := by decide +kernel
theorem dL_build_17 : decode cL_build 17 = .ok (.astore 4, 2) := by decide +kernel
theorem dL_build_19 : decode cL_build 19 = .ok (.iconst 2, 1) := by decide +kernel
theorem dL_build_20 : decode cL_build 20 = .ok (.ireturn, 1) := by decide +kernel
theorem dL_build_21 : decode cL_build 21 = .ok (.iconst 0, 1) := by decide +kernel
theorem dL_build_22 : decode cL_build 22 = .ok (.ireturn, 1) := by decide +kernel
set_option maxRecDepth 20000 in
theorem ggL_launch_X2_launch : GoodIn wsL_launch wsX2_launch := goodIn_ca (goodIn_ca (goodIn_r _ [7, 8, 9, 10, 11, 12, 13, 14, 15, 16, 17, 6, 18, 19, 20, 21, 22, 23, 24, 25, 26, 27, 28, 29, 30, 31, 32, 33, 34, 35, 36, 37, 38, 39, 40, 41, 42, 43, 44, 45, 46, 47, 48, 49, 50, 51, 52, 53, 54, 55, 56, 57, 58] (by decide +kernel) (by decide +kernel)) (goodIn_sub (fun _ h => List.mem_cons_of_mem _ (List.mem_append_left _ (List.mem_append_right _ h))) (by decide +kernel))) (goodIn_sub (fun _ h => List.mem_cons_of_mem _ (List.mem_append_right _ h)) (by decide +kernel))
set_option maxRecDepth 20000 in
theorem gL_launch_X2_launch : GoodIn wsL_launch (wsV RL 36 RX2 yX2_launch wsX2_launch) := goodIn_app (goodIn_of _ (by decide +kernel)) ggL_launch_X2_launch
theorem dL_launch_0 : decode cL_launch 0 = .ok (.aload_n 2, 1) := by decide +kernel
theorem dL_launch_1 : decode cL_launch 1 = .ok (.iconst 0, 1) := by decide +kernel
theorem dL_launch_2 : decode cL_launch 2 = .ok (.aload_n 0, 1) := by decide +kernel
theorem dL_launch_3 : decode cL_launch 3 = .ok (.iload_n 1, 1) := by decide +kernel
theorem dL_launch_4 : decode cL_launch 4 = .ok (.invokevirtual 36, 3) := by decide +kernel
theorem dL_launch_7 : decode cL_launch 7 = .ok (.i2l, 1) := by decide +kernel
theorem dL_launch_8 : decode cL_launch 8 = .ok (.lastore, 1) := by decide +kernel
theorem dL_launch_9 : decode cL_launch 9 = .ok (.goto 9, 3) := by decide +kernel
theorem dL_launch_12 : decode cL_launch 12 = .ok (.astore_n 3, 1) := by decide +kernel
theorem dL_launch_13 : decode cL_launch 13 = .ok (.iconst 1, 1) := by decide +kernel
theorem dL_launch_14 : decode cL_launch 14 = .ok (.ireturn, 1) := by decide +kernel
theorem dL_launch_15 : decode cL_launch 15 = .ok (.astore_n 3, 1) := by decide +kernel
theorem dL_launch_16 : decode cL_launch 16 = .ok (.iconst 2, 1) := by decide +kernel
theorem dL_launch_17 : decode cL_launch 17 = .ok (.ireturn, 1) := by decide +kernel
theorem dL_launch_18 : decode cL_launch 18 = .ok (.iconst 0, 1) := by decide +kernel
theorem dL_launch_19 : decode cL_launch 19 = .ok (.ireturn, 1) := by decide +kernel
set_option maxRecDepth 20000 in
theorem ggL_setRules_X2_setRules : GoodIn wsL_setRules wsX2_setRules := goodIn_ca (goodIn_r _ [6, 7, 8, 9, 10, 11, 12, 5, 13, 14, 15, 16, 17, 18, 19, 20, 21, 22, 23, 24, 25] (by decide +kernel) (by decide +kernel)) (goodIn_sub (fun _ h => List.mem_cons_of_mem _ (List.mem_append_right _ h)) (by decide +kernel))
set_option maxRecDepth 20000 in
theorem gL_setRules_X2_setRules : GoodIn wsL_setRules (wsV RL 39 RX2 yX2_setRules wsX2_setRules) := goodIn_app (goodIn_of _ (by decide +kernel)) ggL_setRules_X2_setRules
theorem dL_setRules_0 : decode cL_setRules 0 = .ok (.aload_n 3, 1) := by decide +kernel
theorem dL_setRules_1 : decode cL_setRules 1 = .ok (.iconst 0, 1) := by decide +kernel
theorem dL_setRules_2 : decode cL_setRules 2 = .ok (.aload_n 0, 1) := by decide +kernel
theorem dL_setRules_3 : decode cL_setRules 3 = .ok (.iload_n 1, 1) := by decide +kernel
theorem dL_setRules_4 : decode cL_setRules 4 = .ok (.iload_n 2, 1) := by decide +kernel
theorem dL_setRules_5 : decode cL_setRules 5 = .ok (.invokevirtual 39, 3) := by decide +kernel
theorem dL_setRules_8 : decode cL_setRules 8 = .ok (.i2l, 1) := by decide +kernel
theorem dL_setRules_9 : decode cL_setRules 9 = .ok (.lastore, 1) := by decide +kernel
theorem dL_setRules_10 : decode cL_setRules 10 = .ok (.goto 7, 3) := by decide +kernel
theorem dL_setRules_13 : decode cL_setRules 13 = .ok (.astore 4, 2) := by decide +kernel
theorem dL_setRules_15 : decode cL_setRules 15 = .ok (.iconst 1, 1) := by decide +kernel
theorem dL_setRules_16 : decode cL_setRules 16 = .ok (.ireturn, 1) := by decide +kernel
theorem dL_setRules_17 : decode cL_setRules 17 = .ok (.iconst 0, 1) := by decide +kernel
theorem dL_setRules_18 : decode cL_setRules 18 = .ok (.ireturn, 1) := by decide +kernel
set_option maxRecDepth 20000 in
theorem ggL_setGust_X2_setGust : GoodIn wsL_setGust wsX2_setGust := goodIn_ca (goodIn_r _ [6, 7, 8, 9, 10, 11, 5, 12, 13, 14, 15, 16, 17, 18, 19, 20, 21, 22, 23, 24] (by decide +kernel) (by decide +kernel)) (goodIn_sub (fun _ h => List.mem_cons_of_mem _ (List.mem_append_right _ h)) (by decide +kernel))
set_option maxRecDepth 20000 in
theorem gL_setGust_X2_setGust : GoodIn wsL_setGust (wsV RL 42 RX2 yX2_setGust wsX2_setGust) := goodIn_app (goodIn_of _ (by decide +kernel)) ggL_setGust_X2_setGust
theorem dL_setGust_0 : decode cL_setGust 0 = .ok (.aload_n 3, 1) := by decide +kernel
theorem dL_setGust_1 : decode cL_setGust 1 = .ok (.iconst 0, 1) := by decide +kernel
theorem dL_setGust_2 : decode cL_setGust 2 = .ok (.aload_n 0, 1) := by decide +kernel
theorem dL_setGust_3 : decode cL_setGust 3 = .ok (.iload_n 1, 1) := by decide +kernel
theorem dL_setGust_4 : decode cL_setGust 4 = .ok (.iload_n 2, 1) := by decide +kernel
theorem dL_setGust_5 : decode cL_setGust 5 = .ok (.invokevirtual 42, 3) := by decide +kernel
theorem dL_setGust_8 : decode cL_setGust 8 = .ok (.i2l, 1) := by decide +kernel
theorem dL_setGust_9 : decode cL_setGust 9 = .ok (.lastore, 1) := by decide +kernel
theorem dL_setGust_10 : decode cL_setGust 10 = .ok (.goto 7, 3) := by decide +kernel
theorem dL_setGust_13 : decode cL_setGust 13 = .ok (.astore 4, 2) := by decide +kernel
theorem dL_setGust_15 : decode cL_setGust 15 = .ok (.iconst 1, 1) := by decide +kernel
theorem dL_setGust_16 : decode cL_setGust 16 = .ok (.ireturn, 1) := by decide +kernel
theorem dL_setGust_17 : decode cL_setGust 17 = .ok (.iconst 0, 1) := by decide +kernel
theorem dL_setGust_18 : decode cL_setGust 18 = .ok (.ireturn, 1) := by decide +kernel
set_option maxRecDepth 20000 in
theorem ggL_pass_X2_pass : GoodIn wsL_pass wsX2_pass := goodIn_ca (goodIn_r _ [6, 7, 8, 9, 10, 5, 11, 12, 13, 14, 15, 16, 17, 18, 19, 20, 21, 22, 23, 24, 25, 26, 27, 28, 29, 30, 31, 32, 33, 34, 35, 36, 37, 38, 39, 40, 41, 42, 43, 44, 45, 46, 47, 48, 49, 50, 51, 52, 53, 54, 55, 56, 57, 58, 59, 60, 61, 62, 63, 64, 65, 66, 67, 68, 69, 70, 71, 72, 73, 74, 75, 76, 77, 78, 79, 80, 81, 82, 83, 84, 85, 86, 87, 88, 89, 90, 91, 92, 93, 94, 95, 96, 97, 98, 99, 100, 101, 102, 103, 104, 105, 106, 107, 108, 109, 110, 111, 112, 113, 114, 115, 116, 117, 118, 119, 120, 121, 122, 123, 124, 125, 126, 127, 128, 129, 130, 131, 132, 133, 134, 135, 136, 137, 138] (by decide +kernel) (by decide +kernel)) (goodIn_sub (fun _ h => List.mem_cons_of_mem _ (List.mem_append_right _ h)) (by decide +kernel))
set_option maxRecDepth 20000 in
theorem gL_pass_X2_pass : GoodIn wsL_pass (wsV RL 45 RX2 yX2_pass wsX2_pass) := goodIn_app (goodIn_of _ (by decide +kernel)) ggL_pass_X2_pass
theorem dL_pass_0 : decode cL_pass 0 = .ok (.aload_n 2, 1) := by decide +kernel
theorem dL_pass_1 : decode cL_pass 1 = .ok (.iconst 0, 1) := by decide +kernel
theorem dL_pass_2 : decode cL_pass 2 = .ok (.aload_n 0, 1) := by decide +kernel
theorem dL_pass_3 : decode cL_pass 3 = .ok (.iload_n 1, 1) := by decide +kernel
theorem dL_pass_4 : decode cL_pass 4 = .ok (.invokevirtual 45, 3) := by decide +kernel
theorem dL_pass_7 : decode cL_pass 7 = .ok (.i2l, 1) := by decide +kernel
theorem dL_pass_8 : decode cL_pass 8 = .ok (.lastore, 1) := by decide +kernel
theorem dL_pass_9 : decode cL_pass 9 = .ok (.goto 6, 3) := by decide +kernel
theorem dL_pass_12 : decode cL_pass 12 = .ok (.astore_n 3, 1) := by decide +kernel
theorem dL_pass_13 : decode cL_pass 13 = .ok (.iconst 1, 1) := by decide +kernel
theorem dL_pass_14 : decode cL_pass 14 = .ok (.ireturn, 1) := by decide +kernel
theorem dL_pass_15 : decode cL_pass 15 = .ok (.iconst 0, 1) := by decide +kernel
theorem dL_pass_16 : decode cL_pass 16 = .ok (.ireturn, 1) := by decide +kernel
set_option maxRecDepth 20000 in
theorem ggL_stateOf_X2_stateOf : GoodIn wsL_stateOf wsX2_stateOf := goodIn_ca (goodIn_r _ [6, 7, 8, 9, 10, 5, 11, 12, 13, 14, 15, 16, 17, 18, 19, 20, 21, 22, 23, 24, 25, 26, 27, 28, 29, 30, 31, 32, 33, 34, 35, 36] (by decide +kernel) (by decide +kernel)) (goodIn_sub (fun _ h => List.mem_cons_of_mem _ (List.mem_append_right _ h)) (by decide +kernel))
set_option maxRecDepth 20000 in
theorem gL_stateOf_X2_stateOf : GoodIn wsL_stateOf (wsV RL 48 RX2 yX2_stateOf wsX2_stateOf) := goodIn_app (goodIn_of _ (by decide +kernel)) ggL_stateOf_X2_stateOf
theorem dL_stateOf_0 : decode cL_stateOf 0 = .ok (.aload_n 2, 1) := by decide +kernel
theorem dL_stateOf_1 : decode cL_stateOf 1 = .ok (.iconst 0, 1) := by decide +kernel
theorem dL_stateOf_2 : decode cL_stateOf 2 = .ok (.aload_n 0, 1) := by decide +kernel
theorem dL_stateOf_3 : decode cL_stateOf 3 = .ok (.iload_n 1, 1) := by decide +kernel
theorem dL_stateOf_4 : decode cL_stateOf 4 = .ok (.invokevirtual 48, 3) := by decide +kernel
theorem dL_stateOf_7 : decode cL_stateOf 7 = .ok (.i2l, 1) := by decide +kernel
theorem dL_stateOf_8 : decode cL_stateOf 8 = .ok (.lastore, 1) := by decide +kernel
theorem dL_stateOf_9 : decode cL_stateOf 9 = .ok (.goto 6, 3) := by decide +kernel
theorem dL_stateOf_12 : decode cL_stateOf 12 = .ok (.astore_n 3, 1) := by decide +kernel
theorem dL_stateOf_13 : decode cL_stateOf 13 = .ok (.iconst 1, 1) := by decide +kernel
theorem dL_stateOf_14 : decode cL_stateOf 14 = .ok (.ireturn, 1) := by decide +kernel
theorem dL_stateOf_15 : decode cL_stateOf 15 = .ok (.iconst 0, 1) := by decide +kernel
theorem dL_stateOf_16 : decode cL_stateOf 16 = .ok (.ireturn, 1) := by decide +kernel
set_option maxRecDepth 20000 in
theorem ggL_left_X2_left : GoodIn wsL_left wsX2_left := goodIn_ca (goodIn_r _ [6, 7, 8, 9, 10, 5, 11, 12, 13, 14, 15, 16, 17, 18, 19, 20, 21, 22, 23, 24, 25, 26, 27, 28, 29, 30, 31, 32, 33, 34, 35, 36] (by decide +kernel) (by decide +kernel)) (goodIn_sub (fun _ h => List.mem_cons_of_mem _ (List.mem_append_right _ h)) (by decide +kernel))
set_option maxRecDepth 20000 in
theorem gL_left_X2_left : GoodIn wsL_left (wsV RL 51 RX2 yX2_left wsX2_left) := goodIn_app (goodIn_of _ (by decide +kernel)) ggL_left_X2_left
theorem dL_left_0 : decode cL_left 0 = .ok (.aload_n 2, 1) := by decide +kernel
theorem dL_left_1 : decode cL_left 1 = .ok (.iconst 0, 1) := by decide +kernel
theorem dL_left_2 : decode cL_left 2 = .ok (.aload_n 0, 1) := by decide +kernel
theorem dL_left_3 : decode cL_left 3 = .ok (.iload_n 1, 1) := by decide +kernel
theorem dL_left_4 : decode cL_left 4 = .ok (.invokevirtual 51, 3) := by decide +kernel
theorem dL_left_7 : decode cL_left 7 = .ok (.i2l, 1) := by decide +kernel
theorem dL_left_8 : decode cL_left 8 = .ok (.lastore, 1) := by decide +kernel
theorem dL_left_9 : decode cL_left 9 = .ok (.goto 6, 3) := by decide +kernel
theorem dL_left_12 : decode cL_left 12 = .ok (.astore_n 3, 1) := by decide +kernel
theorem dL_left_13 : decode cL_left 13 = .ok (.iconst 1, 1) := by decide +kernel
theorem dL_left_14 : decode cL_left 14 = .ok (.ireturn, 1) := by decide +kernel
theorem dL_left_15 : decode cL_left 15 = .ok (.iconst 0, 1) := by decide +kernel
theorem dL_left_16 : decode cL_left 16 = .ok (.ireturn, 1) := by decide +kernel
set_option maxRecDepth 20000 in
theorem ggL_placeOf_X2_placeOf : GoodIn wsL_placeOf wsX2_placeOf := goodIn_ca (goodIn_r _ [6, 7, 8, 9, 5, 10, 11, 12, 13, 14, 15, 16, 17, 18, 19, 20, 21, 22, 23, 24, 25, 26, 27, 28, 29, 30, 31, 32, 33, 34, 35, 36, 37, 38, 39, 40, 41, 42, 43, 44, 45, 46, 47, 48, 49, 50, 51] (by decide +kernel) (by decide +kernel)) (goodIn_sub (fun _ h => List.mem_cons_of_mem _ (List.mem_append_right _ h)) (by decide +kernel))
set_option maxRecDepth 20000 in
theorem gL_placeOf_X2_placeOf : GoodIn wsL_placeOf (wsV RL 54 RX2 yX2_placeOf wsX2_placeOf) := goodIn_app (goodIn_of _ (by decide +kernel)) ggL_placeOf_X2_placeOf
theorem dL_placeOf_0 : decode cL_placeOf 0 = .ok (.aload_n 2, 1) := by decide +kernel
theorem dL_placeOf_1 : decode cL_placeOf 1 = .ok (.iconst 0, 1) := by decide +kernel
theorem dL_placeOf_2 : decode cL_placeOf 2 = .ok (.aload_n 0, 1) := by decide +kernel
theorem dL_placeOf_3 : decode cL_placeOf 3 = .ok (.iload_n 1, 1) := by decide +kernel
theorem dL_placeOf_4 : decode cL_placeOf 4 = .ok (.invokevirtual 54, 3) := by decide +kernel
theorem dL_placeOf_7 : decode cL_placeOf 7 = .ok (.i2l, 1) := by decide +kernel
theorem dL_placeOf_8 : decode cL_placeOf 8 = .ok (.lastore, 1) := by decide +kernel
theorem dL_placeOf_9 : decode cL_placeOf 9 = .ok (.goto 6, 3) := by decide +kernel
theorem dL_placeOf_12 : decode cL_placeOf 12 = .ok (.astore_n 3, 1) := by decide +kernel
theorem dL_placeOf_13 : decode cL_placeOf 13 = .ok (.iconst 1, 1) := by decide +kernel
theorem dL_placeOf_14 : decode cL_placeOf 14 = .ok (.ireturn, 1) := by decide +kernel
theorem dL_placeOf_15 : decode cL_placeOf 15 = .ok (.iconst 0, 1) := by decide +kernel
theorem dL_placeOf_16 : decode cL_placeOf 16 = .ok (.ireturn, 1) := by decide +kernel
set_option maxRecDepth 20000 in
theorem ggL_nearest_X2_nearest : GoodIn wsL_nearest wsX2_nearest := goodIn_ca (goodIn_r _ [6, 7, 8, 9, 10, 11, 12, 5, 13, 14, 15, 16, 17, 18, 19, 20, 21, 22, 23, 24, 25, 26, 27, 28, 29, 30, 31, 32, 33, 34, 35, 36, 37, 38, 39, 40, 41, 42, 43, 44, 45, 46, 47, 48, 49, 50, 51, 52, 53, 54, 55, 56, 57, 58, 59, 60, 61, 62, 63, 64, 65, 66, 67, 68, 69, 70, 71, 72, 73, 74, 75, 76, 77, 78, 79, 80, 81, 82, 83, 84] (by decide +kernel) (by decide +kernel)) (goodIn_sub (fun _ h => List.mem_cons_of_mem _ (List.mem_append_right _ h)) (by decide +kernel))
set_option maxRecDepth 20000 in
theorem gL_nearest_X2_nearest : GoodIn wsL_nearest (wsV RL 57 RX2 yX2_nearest wsX2_nearest) := goodIn_app (goodIn_of _ (by decide +kernel)) ggL_nearest_X2_nearest
theorem dL_nearest_0 : decode cL_nearest 0 = .ok (.aload_n 2, 1) := by decide +kernel
theorem dL_nearest_1 : decode cL_nearest 1 = .ok (.iconst 0, 1) := by decide +kernel
theorem dL_nearest_2 : decode cL_nearest 2 = .ok (.aload_n 0, 1) := by decide +kernel
theorem dL_nearest_3 : decode cL_nearest 3 = .ok (.iload_n 1, 1) := by decide +kernel
theorem dL_nearest_4 : decode cL_nearest 4 = .ok (.invokevirtual 57, 3) := by decide +kernel
theorem dL_nearest_7 : decode cL_nearest 7 = .ok (.i2l, 1) := by decide +kernel
theorem dL_nearest_8 : decode cL_nearest 8 = .ok (.lastore, 1) := by decide +kernel
theorem dL_nearest_9 : decode cL_nearest 9 = .ok (.goto 6, 3) := by decide +kernel
theorem dL_nearest_12 : decode cL_nearest 12 = .ok (.astore_n 3, 1) := by decide +kernel
theorem dL_nearest_13 : decode cL_nearest 13 = .ok (.iconst 1, 1) := by decide +kernel
theorem dL_nearest_14 : decode cL_nearest 14 = .ok (.ireturn, 1) := by decide +kernel
theorem dL_nearest_15 : decode cL_nearest 15 = .ok (.iconst 0, 1) := by decide +kernel
theorem dL_nearest_16 : decode cL_nearest 16 = .ok (.ireturn, 1) := by decide +kernel
set_option maxRecDepth 20000 in
theorem ggL_nearestOfAll_X2_nearestOfAll : GoodIn wsL_nearestOfAll wsX2_nearestOfAll := goodIn_ca (goodIn_r _ [6, 7, 8, 9, 10, 11, 5, 12, 13, 14, 15, 16, 17, 18, 19, 20, 21, 22, 23, 24, 25, 26, 27, 28, 29, 30, 31, 32, 33, 34, 35, 36, 37, 38, 39, 40, 41, 42, 43, 44, 45, 46, 47, 48, 49, 50, 51, 52, 53, 54, 55, 56, 57, 58, 59, 60, 61, 62, 63, 64, 65, 66, 67] (by decide +kernel) (by decide +kernel)) (goodIn_sub (fun _ h => List.mem_cons_of_mem _ (List.mem_append_right _ h)) (by decide +kernel))
set_option maxRecDepth 20000 in
theorem gL_nearestOfAll_X2_nearestOfAll : GoodIn wsL_nearestOfAll (wsV RL 60 RX2 yX2_nearestOfAll wsX2_nearestOfAll) := goodIn_app (goodIn_of _ (by decide +kernel)) ggL_nearestOfAll_X2_nearestOfAll
theorem dL_nearestOfAll_0 : decode cL_nearestOfAll 0 = .ok (.aload_n 2, 1) := by decide +kernel
theorem dL_nearestOfAll_1 : decode cL_nearestOfAll 1 = .ok (.iconst 0, 1) := by decide +kernel
theorem dL_nearestOfAll_2 : decode cL_nearestOfAll 2 = .ok (.aload_n 0, 1) := by decide +kernel
theorem dL_nearestOfAll_3 : decode cL_nearestOfAll 3 = .ok (.iload_n 1, 1) := by decide +kernel
theorem dL_nearestOfAll_4 : decode cL_nearestOfAll 4 = .ok (.invokevirtual 60, 3) := by decide +kernel
theorem dL_nearestOfAll_7 : decode cL_nearestOfAll 7 = .ok (.i2l, 1) := by decide +kernel
theorem dL_nearestOfAll_8 : decode cL_nearestOfAll 8 = .ok (.lastore, 1) := by decide +kernel
theorem dL_nearestOfAll_9 : decode cL_nearestOfAll 9 = .ok (.goto 6, 3) := by decide +kernel
theorem dL_nearestOfAll_12 : decode cL_nearestOfAll 12 = .ok (.astore_n 3, 1) := by decide +kernel
theorem dL_nearestOfAll_13 : decode cL_nearestOfAll 13 = .ok (.iconst 1, 1) := by decide +kernel
theorem dL_nearestOfAll_14 : decode cL_nearestOfAll 14 = .ok (.ireturn, 1) := by decide +kernel
theorem dL_nearestOfAll_15 : decode cL_nearestOfAll 15 = .ok (.iconst 0, 1) := by decide +kernel
theorem dL_nearestOfAll_16 : decode cL_nearestOfAll 16 = .ok (.ireturn, 1) := by decide +kernel
set_option maxRecDepth 20000 in
theorem ggL_sortOf_X2_sortOf : GoodIn wsL_sortOf wsX2_sortOf := goodIn_ca (goodIn_r _ [6, 7, 8, 9, 10, 5, 11, 12, 13, 14, 15, 16, 17, 18, 19, 20, 21, 22, 23, 24, 25, 26, 27, 28, 29, 30, 31, 32, 33, 34, 35, 36] (by decide +kernel) (by decide +kernel)) (goodIn_sub (fun _ h => List.mem_cons_of_mem _ (List.mem_append_right _ h)) (by decide +kernel))
set_option maxRecDepth 20000 in
theorem gL_sortOf_X2_sortOf : GoodIn wsL_sortOf (wsV RL 63 RX2 yX2_sortOf wsX2_sortOf) := goodIn_app (goodIn_of _ (by decide +kernel)) ggL_sortOf_X2_sortOf
theorem dL_sortOf_0 : decode cL_sortOf 0 = .ok (.aload_n 2, 1) := by decide +kernel
theorem dL_sortOf_1 : decode cL_sortOf 1 = .ok (.iconst 0, 1) := by decide +kernel
theorem dL_sortOf_2 : decode cL_sortOf 2 = .ok (.aload_n 0, 1) := by decide +kernel
theorem dL_sortOf_3 : decode cL_sortOf 3 = .ok (.iload_n 1, 1) := by decide +kernel
theorem dL_sortOf_4 : decode cL_sortOf 4 = .ok (.invokevirtual 63, 3) := by decide +kernel
theorem dL_sortOf_7 : decode cL_sortOf 7 = .ok (.i2l, 1) := by decide +kernel
theorem dL_sortOf_8 : decode cL_sortOf 8 = .ok (.lastore, 1) := by decide +kernel
theorem dL_sortOf_9 : decode cL_sortOf 9 = .ok (.goto 6, 3) := by decide +kernel
theorem dL_sortOf_12 : decode cL_sortOf 12 = .ok (.astore_n 3, 1) := by decide +kernel
theorem dL_sortOf_13 : decode cL_sortOf 13 = .ok (.iconst 1, 1) := by decide +kernel
theorem dL_sortOf_14 : decode cL_sortOf 14 = .ok (.ireturn, 1) := by decide +kernel
theorem dL_sortOf_15 : decode cL_sortOf 15 = .ok (.iconst 0, 1) := by decide +kernel
theorem dL_sortOf_16 : decode cL_sortOf 16 = .ok (.ireturn, 1) := by decide +kernel
set_option maxRecDepth 20000 in
theorem ggL_front_X2_front : GoodIn wsL_front wsX2_front := goodIn_ca (goodIn_r _ [6, 7, 8, 9, 10, 11, 5, 12, 13, 14, 15, 16, 17, 18, 19, 20, 21, 22, 23, 24, 25, 26, 27, 28, 29, 30, 31, 32, 33, 34, 35, 36, 37] (by decide +kernel) (by decide +kernel)) (goodIn_sub (fun _ h => List.mem_cons_of_mem _ (List.mem_append_right _ h)) (by decide +kernel))
set_option maxRecDepth 20000 in
theorem gL_front_X2_front : GoodIn wsL_front (wsV RL 66 RX2 yX2_front wsX2_front) := goodIn_app (goodIn_of _ (by decide +kernel)) ggL_front_X2_front
theorem dL_front_0 : decode cL_front 0 = .ok (.aload_n 2, 1) := by decide +kernel
theorem dL_front_1 : decode cL_front 1 = .ok (.iconst 0, 1) := by decide +kernel
theorem dL_front_2 : decode cL_front 2 = .ok (.aload_n 0, 1) := by decide +kernel
theorem dL_front_3 : decode cL_front 3 = .ok (.iload_n 1, 1) := by decide +kernel
theorem dL_front_4 : decode cL_front 4 = .ok (.invokevirtual 66, 3) := by decide +kernel
theorem dL_front_7 : decode cL_front 7 = .ok (.i2l, 1) := by decide +kernel
theorem dL_front_8 : decode cL_front 8 = .ok (.lastore, 1) := by decide +kernel
theorem dL_front_9 : decode cL_front 9 = .ok (.goto 6, 3) := by decide +kernel
theorem dL_front_12 : decode cL_front 12 = .ok (.astore_n 3, 1) := by decide +kernel
theorem dL_front_13 : decode cL_front 13 = .ok (.iconst 1, 1) := by decide +kernel
theorem dL_front_14 : decode cL_front 14 = .ok (.ireturn, 1) := by decide +kernel
theorem dL_front_15 : decode cL_front 15 = .ok (.iconst 0, 1) := by decide +kernel
theorem dL_front_16 : decode cL_front 16 = .ok (.ireturn, 1) := by decide +kernel
set_option maxRecDepth 20000 in
theorem ggL_load_X2_load : GoodIn wsL_load wsX2_load := goodIn_ca (goodIn_r _ [6, 7, 8, 9, 5, 10, 11, 12, 13, 14, 15, 16, 17, 18, 19, 20, 21, 22, 23, 24, 25, 26, 27, 28, 29, 30, 31, 32, 33, 34, 35, 36, 37, 38, 39, 40, 41, 42, 43, 44, 45, 46, 47, 48, 49, 50, 51, 52, 53, 54, 55, 56] (by decide +kernel) (by decide +kernel)) (goodIn_sub (fun _ h => List.mem_cons_of_mem _ (List.mem_append_right _ h)) (by decide +kernel))
set_option maxRecDepth 20000 in
theorem gL_load_X2_load : GoodIn wsL_load (wsV RL 69 RX2 yX2_load wsX2_load) := goodIn_app (goodIn_of _ (by decide +kernel)) ggL_load_X2_load
theorem dL_load_0 : decode cL_load 0 = .ok (.aload_n 2, 1) := by decide +kernel
theorem dL_load_1 : decode cL_load 1 = .ok (.iconst 0, 1) := by decide +kernel
theorem dL_load_2 : decode cL_load 2 = .ok (.aload_n 0, 1) := by decide +kernel
theorem dL_load_3 : decode cL_load 3 = .ok (.iload_n 1, 1) := by decide +kernel
theorem dL_load_4 : decode cL_load 4 = .ok (.invokevirtual 69, 3) := by decide +kernel
theorem dL_load_7 : decode cL_load 7 = .ok (.i2l, 1) := by decide +kernel
theorem dL_load_8 : decode cL_load 8 = .ok (.lastore, 1) := by decide +kernel
theorem dL_load_9 : decode cL_load 9 = .ok (.goto 6, 3) := by decide +kernel
theorem dL_load_12 : decode cL_load 12 = .ok (.astore_n 3, 1) := by decide +kernel
theorem dL_load_13 : decode cL_load 13 = .ok (.iconst 1, 1) := by decide +kernel
theorem dL_load_14 : decode cL_load 14 = .ok (.ireturn, 1) := by decide +kernel
theorem dL_load_15 : decode cL_load 15 = .ok (.iconst 0, 1) := by decide +kernel
theorem dL_load_16 : decode cL_load 16 = .ok (.ireturn, 1) := by decide +kernel
set_option maxRecDepth 20000 in
theorem ggL_likeness_X2_likeness : GoodIn wsL_likeness wsX2_likeness := goodIn_ca (goodIn_ca (goodIn_r _ [7, 8, 9, 10, 11, 12, 6, 13, 14, 15, 16, 17, 18, 19, 20, 21, 22, 23, 24, 25, 26, 27, 28, 29, 30, 31, 32, 33, 34, 35, 36, 37, 38, 39, 40, 41, 42, 43, 44, 45, 46, 47, 48, 49, 50, 51, 52] (by decide +kernel) (by decide +kernel)) (goodIn_sub (fun _ h => List.mem_cons_of_mem _ (List.mem_append_left _ (List.mem_append_right _ h))) (by decide +kernel))) (goodIn_sub (fun _ h => List.mem_cons_of_mem _ (List.mem_append_right _ h)) (by decide +kernel))
set_option maxRecDepth 20000 in
theorem gL_likeness_X2_likeness : GoodIn wsL_likeness (wsV RL 72 RX2 yX2_likeness wsX2_likeness) := goodIn_app (goodIn_of _ (by decide +kernel)) ggL_likeness_X2_likeness
theorem dL_likeness_0 : decode cL_likeness 0 = .ok (.aload_n 3, 1) := by decide +kernel
theorem dL_likeness_1 : decode cL_likeness 1 = .ok (.iconst 0, 1) := by decide +kernel
theorem dL_likeness_2 : decode cL_likeness 2 = .ok (.aload_n 0, 1) := by decide +kernel
theorem dL_likeness_3 : decode cL_likeness 3 = .ok (.iload_n 1, 1) := by decide +kernel
theorem dL_likeness_4 : decode cL_likeness 4 = .ok (.iload_n 2, 1) := by decide +kernel
theorem dL_likeness_5 : decode cL_likeness 5 = .ok (.invokevirtual 72, 3) := by decide +kernel
theorem dL_likeness_8 : decode cL_likeness 8 = .ok (.i2l, 1) := by decide +kernel
theorem dL_likeness_9 : decode cL_likeness 9 = .ok (.lastore, 1) := by decide +kernel
theorem dL_likeness_10 : decode cL_likeness 10 = .ok (.goto 11, 3) := by decide +kernel
theorem dL_likeness_13 : decode cL_likeness 13 = .ok (.astore 4, 2) := by decide +kernel
theorem dL_likeness_15 : decode cL_likeness 15 = .ok (.iconst 1, 1) := by decide +kernel
theorem dL_likeness_16 : decode cL_likeness 16 = .ok (.ireturn, 1) := by decide +kernel
theorem dL_likeness_17 : decode cL_likeness 17 = .ok (.astore 4, 2) := by decide +kernel
theorem dL_likeness_19 : decode cL_likeness 19 = .ok (.iconst 2, 1) := by decide +kernel
theorem dL_likeness_20 : decode cL_likeness 20 = .ok (.ireturn, 1) := by decide +kernel
theorem dL_likeness_21 : decode cL_likeness 21 = .ok (.iconst 0, 1) := by decide +kernel
theorem dL_likeness_22 : decode cL_likeness 22 = .ok (.ireturn, 1) := by decide +kernel
set_option maxRecDepth 20000 in
theorem ggL_prize_X2_prize : GoodIn wsL_prize wsX2_prize := goodIn_ca (goodIn_r _ [6, 7, 8, 9, 10, 11, 12, 13, 5, 14, 15, 16, 17, 18, 19, 20, 21, 22, 23, 24, 25, 26, 27, 28, 29, 30, 31, 32, 33, 34, 35, 36, 37, 38, 39, 40, 41, 42, 43, 44, 45, 46, 47] (by decide +kernel) (by decide +kernel)) (goodIn_sub (fun _ h => List.mem_cons_of_mem _ (List.mem_append_right _ h)) (by decide +kernel))
set_option maxRecDepth 20000 in
theorem gL_prize_X2_prize : GoodIn wsL_prize (wsV RL 75 RX2 yX2_prize wsX2_prize) := goodIn_app (goodIn_of _ (by decide +kernel)) ggL_prize_X2_prize
theorem dL_prize_0 : decode cL_prize 0 = .ok (.aload_n 2, 1) := by decide +kernel
theorem dL_prize_1 : decode cL_prize 1 = .ok (.iconst 0, 1) := by decide +kernel
theorem dL_prize_2 : decode cL_prize 2 = .ok (.aload_n 0, 1) := by decide +kernel
theorem dL_prize_3 : decode cL_prize 3 = .ok (.iload_n 1, 1) := by decide +kernel
theorem dL_prize_4 : decode cL_prize 4 = .ok (.invokevirtual 75, 3) := by decide +kernel
theorem dL_prize_7 : decode cL_prize 7 = .ok (.i2l, 1) := by decide +kernel
theorem dL_prize_8 : decode cL_prize 8 = .ok (.lastore, 1) := by decide +kernel
theorem dL_prize_9 : decode cL_prize 9 = .ok (.goto 6, 3) := by decide +kernel
theorem dL_prize_12 : decode cL_prize 12 = .ok (.astore_n 3, 1) := by decide +kernel
theorem dL_prize_13 : decode cL_prize 13 = .ok (.iconst 1, 1) := by decide +kernel
theorem dL_prize_14 : decode cL_prize 14 = .ok (.ireturn, 1) := by decide +kernel
theorem dL_prize_15 : decode cL_prize 15 = .ok (.iconst 0, 1) := by decide +kernel
theorem dL_prize_16 : decode cL_prize 16 = .ok (.ireturn, 1) := by decide +kernel
