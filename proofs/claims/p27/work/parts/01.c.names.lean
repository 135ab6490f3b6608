theorem dX2_init_76 : decode cX2_init 76 = .ok (.iconst 0, 1) := by decide +kernel
theorem dX2_init_77 : decode cX2_init 77 = .ok (.putfield 50, 3) := by decide +kernel
theorem dX2_init_80 : decode cX2_init 80 = .ok (.return_, 1) := by decide +kernel
set_option maxRecDepth 20000 in
theorem ggX2_make_X2_within : GoodIn wsX2_make wsX2_within := goodIn_r _ [13] (by decide +kernel) (by decide +kernel)
set_option maxRecDepth 20000 in
theorem gX2_make_X2_within : GoodIn wsX2_make (va_wsS RX2 53 yX2_within wsX2_within) := goodIn_app (goodIn_of _ (by decide +kernel)) ggX2_make_X2_within
set_option maxRecDepth 20000 in
theorem ggX2_make_X0_init : GoodIn wsX2_make wsX0_init := goodIn_r _ [16, 17, 18, 19, 20, 21, 22, 23, 24, 25, 26, 39, 40, 41, 42, 43, 44, 45] (by decide +kernel) (by decide +kernel)
set_option maxRecDepth 20000 in
theorem gX2_make_X0_init : GoodIn wsX2_make (wsX0_init) := ggX2_make_X0_init
theorem dX2_make_0 : decode cX2_make 0 = .ok (.iload_n 1, 1) := by decide +kernel
theorem dX2_make_1 : decode cX2_make 1 = .ok (.iconst 4, 1) := by decide +kernel
theorem dX2_make_2 : decode cX2_make 2 = .ok (.bipush 12, 2) := by decide +kernel
theorem dX2_make_4 : decode cX2_make 4 = .ok (.invokestatic 53, 3) := by decide +kernel
theorem dX2_make_7 : decode cX2_make 7 = .ok (.ifCond .eq 21, 3) := by decide +kernel
theorem dX2_make_10 : decode cX2_make 10 = .ok (.iload_n 2, 1) := by decide +kernel
theorem dX2_make_11 : decode cX2_make 11 = .ok (.iconst 0, 1) := by decide +kernel
theorem dX2_make_12 : decode cX2_make 12 = .ok (.iconst 3, 1) := by decide +kernel
theorem dX2_make_13 : decode cX2_make 13 = .ok (.invokestatic 53, 3) := by decide +kernel
theorem dX2_make_16 : decode cX2_make 16 = .ok (.ifCond .eq 12, 3) := by decide +kernel
theorem dX2_make_19 : decode cX2_make 19 = .ok (.iload_n 3, 1) := by decide +kernel
theorem dX2_make_20 : decode cX2_make 20 = .ok (.iconst 1, 1) := by decide +kernel
theorem dX2_make_21 : decode cX2_make 21 = .ok (.iconst 4, 1) := by decide +kernel
theorem dX2_make_22 : decode cX2_make 22 = .ok (.invokestatic 53, 3) := by decide +kernel
theorem dX2_make_25 : decode cX2_make 25 = .ok (.ifCond .ne 13, 3) := by decide +kernel
theorem dX2_make_28 : decode cX2_make 28 = .ok (.new 57, 3) := by decide +kernel
theorem dX2_make_31 : decode cX2_make 31 = .ok (.dup, 1) := by decide +kernel
theorem dX2_make_32 : decode cX2_make 32 = .ok (.ldc 59, 2) := by decide +kernel
theorem dX2_make_34 : decode cX2_make 34 = .ok (.invokespecial 61, 3) := by decide +kernel
theorem dX2_make_37 : decode cX2_make 37 = .ok (.athrow, 1) := by decide +kernel
theorem dX2_make_38 : decode cX2_make 38 = .ok (.aload_n 0, 1) := by decide +kernel
theorem dX2_make_39 : decode cX2_make 39 = .ok (.getfield 28, 3) := by decide +kernel
theorem dX2_make_42 : decode cX2_make 42 = .ok (.aload_n 0, 1) := by decide +kernel
theorem dX2_make_43 : decode cX2_make 43 = .ok (.getfield 11, 3) := by decide +kernel
theorem dX2_make_46 : decode cX2_make 46 = .ok (.arraylength, 1) := by decide +kernel
theorem dX2_make_47 : decode cX2_make 47 = .ok (.if_icmp .lt 13, 3) := by decide +kernel
theorem dX2_make_50 : decode cX2_make 50 = .ok (.new 64, 3) := by decide +kernel
theorem dX2_make_53 : decode cX2_make 53 = .ok (.dup, 1) := by decide +kernel
theorem dX2_make_54 : decode cX2_make 54 = .ok (.ldc 66, 2) := by decide +kernel
theorem dX2_make_56 : decode cX2_make 56 = .ok (.invokespecial 68, 3) := by decide +kernel
theorem dX2_make_59 : decode cX2_make 59 = .ok (.athrow, 1) := by decide +kernel
theorem dX2_make_60 : decode cX2_make 60 = .ok (.aload_n 0, 1) := by decide +kernel
theorem dX2_make_61 : decode cX2_make 61 = .ok (.getfield 11, 3) := by decide +kernel
theorem dX2_make_64 : decode cX2_make 64 = .ok (.aload_n 0, 1) := by decide +kernel
theorem dX2_make_65 : decode cX2_make 65 = .ok (.getfield 28, 3) := by decide +kernel
theorem dX2_make_68 : decode cX2_make 68 = .ok (.new 9, 3) := by decide +kernel
theorem dX2_make_71 : decode cX2_make 71 = .ok (.dup, 1) := by decide +kernel
theorem dX2_make_72 : decode cX2_make 72 = .ok (.iload_n 1, 1) := by decide +kernel
theorem dX2_make_73 : decode cX2_make 73 = .ok (.iload_n 2, 1) := by decide +kernel
theorem dX2_make_74 : decode cX2_make 74 = .ok (.iload_n 3, 1) := by decide +kernel
theorem dX2_make_75 : decode cX2_make 75 = .ok (.invokespecial 69, 3) := by decide +kernel
theorem dX2_make_78 : decode cX2_make 78 = .ok (.aastore, 1) := by decide +kernel
theorem dX2_make_79 : decode cX2_make 79 = .ok (.aload_n 0, 1) := by decide +kernel
theorem dX2_make_80 : decode cX2_make 80 = .ok (.dup, 1) := by decide +kernel
theorem dX2_make_81 : decode cX2_make 81 = .ok (.getfield 28, 3) := by decide +kernel
theorem dX2_make_84 : decode cX2_make 84 = .ok (.iconst 1, 1) := by decide +kernel
theorem dX2_make_85 : decode cX2_make 85 = .ok (.iadd, 1) := by decide +kernel
theorem dX2_make_86 : decode cX2_make 86 = .ok (.putfield 28, 3) := by decide +kernel
theorem dX2_make_89 : decode cX2_make 89 = .ok (.aload_n 0, 1) := by decide +kernel
theorem dX2_make_90 : decode cX2_make 90 = .ok (.getfield 28, 3) := by decide +kernel
theorem dX2_make_93 : decode cX2_make 93 = .ok (.iconst 1, 1) := by decide +kernel
theorem dX2_make_94 : decode cX2_make 94 = .ok (.isub, 1) := by decide +kernel
theorem dX2_make_95 : decode cX2_make 95 = .ok (.ireturn, 1) := by decide +kernel
set_option maxRecDepth 20000 in
theorem ggX2_hang_X2_lanternNumbered : GoodIn wsX2_hang wsX2_lanternNumbered := goodIn_ca (goodIn_r _ [14, 1, 2, 15, 16, 17, 13, 18, 63, 64, 65, 66, 67, 68, 69, 70, 71, 72, 73, 74] (by decide +kernel) (by decide +kernel)) (goodIn_sub (fun _ h => List.mem_cons_of_mem _ (List.mem_append_left _ (List.mem_append_left _ (List.mem_append_right _ h)))) (by decide +kernel))
set_option maxRecDepth 20000 in
theorem gX2_hang_X2_lanternNumbered : GoodIn wsX2_hang (wsV RX2 72 RX2 yX2_lanternNumbered wsX2_lanternNumbered) := goodIn_app (goodIn_of _ (by decide +kernel)) ggX2_hang_X2_lanternNumbered
set_option maxRecDepth 20000 in
theorem ggX2_hang_X2_raftNumbered : GoodIn wsX2_hang wsX2_raftNumbered := goodIn_ca (goodIn_r _ [22, 1, 2, 23, 16, 17, 13, 18, 63, 64, 65, 66, 67, 68, 69, 70, 71, 72, 73, 74] (by decide +kernel) (by decide +kernel)) (goodIn_sub (fun _ h => List.mem_cons_of_mem _ (List.mem_append_left _ (List.mem_append_left _ (List.mem_append_right _ h)))) (by decide +kernel))
set_option maxRecDepth 20000 in
theorem gX2_hang_X2_raftNumbered : GoodIn wsX2_hang (wsV RX2 76 RX2 yX2_raftNumbered wsX2_raftNumbered) := goodIn_app (goodIn_of _ (by decide +kernel)) ggX2_hang_X2_raftNumbered
set_option maxRecDepth 20000 in
theorem ggX2_hang_X2_within : GoodIn wsX2_hang wsX2_within := goodIn_r _ [18] (by decide +kernel) (by decide +kernel)
set_option maxRecDepth 20000 in
theorem gX2_hang_X2_within : GoodIn wsX2_hang (va_wsS RX2 53 yX2_within wsX2_within) := goodIn_app (goodIn_of _ (by decide +kernel)) ggX2_hang_X2_within
set_option maxRecDepth 20000 in
theorem ggX2_hang_X1_lanternIn : GoodIn wsX2_hang wsX1_lanternIn := goodIn_r _ [28, 29, 17, 13, 18, 56, 57, 58, 59, 60, 61, 62] (by decide +kernel) (by decide +kernel)
set_option maxRecDepth 20000 in
theorem gX2_hang_X1_lanternIn : GoodIn wsX2_hang (wsV RX2 85 RX1 yX1_lanternIn wsX1_lanternIn) := goodIn_app (goodIn_of _ (by decide +kernel)) ggX2_hang_X1_lanternIn
set_option maxRecDepth 20000 in
theorem ggX2_hang_X1_weight : GoodIn wsX2_hang wsX1_weight := goodIn_r _ [33, 29, 34, 35, 36, 37, 38, 39, 40, 41, 56, 57, 58, 59, 60, 61, 62, 49, 50, 51, 52, 53, 54, 55] (by decide +kernel) (by decide +kernel)
set_option maxRecDepth 20000 in
theorem gX2_hang_X1_weight : GoodIn wsX2_hang (wsV RX2 99 RX1 yX1_weight wsX1_weight) := goodIn_app (goodIn_of _ (by decide +kernel)) ggX2_hang_X1_weight
set_option maxRecDepth 20000 in
theorem ggX2_hang_X0_weight : GoodIn wsX2_hang wsX0_weight := goodIn_r _ [38, 39, 40, 41, 49, 50, 51, 52, 53, 54, 55] (by decide +kernel) (by decide +kernel)
set_option maxRecDepth 20000 in
theorem gX2_hang_X0_weight : GoodIn wsX2_hang (wsV RX2 103 RX0 yX0_weight wsX0_weight) := goodIn_app (goodIn_of _ (by decide +kernel)) ggX2_hang_X0_weight
set_option maxRecDepth 20000 in
theorem ggX2_hang_X1_put : GoodIn wsX2_hang wsX1_put := goodIn_r _ [46, 29, 47, 48, 17, 13, 18, 56, 57, 58, 59, 60, 61, 62, 49, 50, 51, 52, 53, 54, 55] (by decide +kernel) (by decide +kernel)
set_option maxRecDepth 20000 in
theorem gX2_hang_X1_put : GoodIn wsX2_hang (wsV RX2 109 RX1 yX1_put wsX1_put) := goodIn_app (goodIn_of _ (by decide +kernel)) ggX2_hang_X1_put
theorem dX2_hang_0 : decode cX2_hang 0 = .ok (.aload_n 0, 1) := by decide +kernel
theorem dX2_hang_1 : decode cX2_hang 1 = .ok (.iload_n 1, 1) := by decide +kernel
theorem dX2_hang_2 : decode cX2_hang 2 = .ok (.invokevirtual 72, 3) := by decide +kernel
theorem dX2_hang_5 : decode cX2_hang 5 = .ok (.astore 4, 2) := by decide +kernel
theorem dX2_hang_7 : decode cX2_hang 7 = .ok (.aload_n 0, 1) := by decide +kernel
theorem dX2_hang_8 : decode cX2_hang 8 = .ok (.iload_n 2, 1) := by decide +kernel
theorem dX2_hang_9 : decode cX2_hang 9 = .ok (.invokevirtual 76, 3) := by decide +kernel
theorem dX2_hang_12 : decode cX2_hang 12 = .ok (.astore 5, 2) := by decide +kernel
theorem dX2_hang_14 : decode cX2_hang 14 = .ok (.iload_n 3, 1) := by decide +kernel
theorem dX2_hang_15 : decode cX2_hang 15 = .ok (.iconst 0, 1) := by decide +kernel
theorem dX2_hang_16 : decode cX2_hang 16 = .ok (.bipush 9, 2) := by decide +kernel
theorem dX2_hang_18 : decode cX2_hang 18 = .ok (.invokestatic 53, 3) := by decide +kernel
theorem dX2_hang_21 : decode cX2_hang 21 = .ok (.ifCond .ne 13, 3) := by decide +kernel
theorem dX2_hang_24 : decode cX2_hang 24 = .ok (.new 80, 3) := by decide +kernel
theorem dX2_hang_27 : decode cX2_hang 27 = .ok (.dup, 1) := by decide +kernel
theorem dX2_hang_28 : decode cX2_hang 28 = .ok (.ldc 82, 2) := by decide +kernel
theorem dX2_hang_30 : decode cX2_hang 30 = .ok (.invokespecial 84, 3) := by decide +kernel
theorem dX2_hang_33 : decode cX2_hang 33 = .ok (.athrow, 1) := by decide +kernel
theorem dX2_hang_34 : decode cX2_hang 34 = .ok (.aload 5, 2) := by decide +kernel
theorem dX2_hang_36 : decode cX2_hang 36 = .ok (.iload_n 3, 1) := by decide +kernel
theorem dX2_hang_37 : decode cX2_hang 37 = .ok (.invokevirtual 85, 3) := by decide +kernel
theorem dX2_hang_40 : decode cX2_hang 40 = .ok (.ifnull 13, 3) := by decide +kernel
theorem dX2_hang_43 : decode cX2_hang 43 = .ok (.new 57, 3) := by decide +kernel
theorem dX2_hang_46 : decode cX2_hang 46 = .ok (.dup, 1) := by decide +kernel
theorem dX2_hang_47 : decode cX2_hang 47 = .ok (.ldc 88, 2) := by decide +kernel
theorem dX2_hang_49 : decode cX2_hang 49 = .ok (.invokespecial 61, 3) := by decide +kernel
theorem dX2_hang_52 : decode cX2_hang 52 = .ok (.athrow, 1) := by decide +kernel
theorem dX2_hang_53 : decode cX2_hang 53 = .ok (.aload 4, 2) := by decide +kernel
theorem dX2_hang_55 : decode cX2_hang 55 = .ok (.getfield 90, 3) := by decide +kernel
theorem dX2_hang_58 : decode cX2_hang 58 = .ok (.ifnonnull 12, 3) := by decide +kernel
theorem dX2_hang_61 : decode cX2_hang 61 = .ok (.aload 5, 2) := by decide +kernel
theorem dX2_hang_63 : decode cX2_hang 63 = .ok (.getfield 94, 3) := by decide +kernel
theorem dX2_hang_66 : decode cX2_hang 66 = .ok (.iconst 2, 1) := by decide +kernel
theorem dX2_hang_67 : decode cX2_hang 67 = .ok (.if_icmp .ne 13, 3) := by decide +kernel
theorem dX2_hang_70 : decode cX2_hang 70 = .ok (.new 64, 3) := by decide +kernel
theorem dX2_hang_73 : decode cX2_hang 73 = .ok (.dup, 1) := by decide +kernel
theorem dX2_hang_74 : decode cX2_hang 74 = .ok (.ldc 97, 2) := by decide +kernel
theorem dX2_hang_76 : decode cX2_hang 76 = .ok (.invokespecial 68, 3) := by decide +kernel
theorem dX2_hang_79 : decode cX2_hang 79 = .ok (.athrow, 1) := by decide +kernel
theorem dX2_hang_80 : decode cX2_hang 80 = .ok (.aload 5, 2) := by decide +kernel
theorem dX2_hang_82 : decode cX2_hang 82 = .ok (.invokevirtual 99, 3) := by decide +kernel
theorem dX2_hang_85 : decode cX2_hang 85 = .ok (.aload 4, 2) := by decide +kernel
theorem dX2_hang_87 : decode cX2_hang 87 = .ok (.invokevirtual 103, 3) := by decide +kernel
theorem dX2_hang_90 : decode cX2_hang 90 = .ok (.iadd, 1) := by decide +kernel
theorem dX2_hang_91 : decode cX2_hang 91 = .ok (.aload 5, 2) := by decide +kernel
theorem dX2_hang_93 : decode cX2_hang 93 = .ok (.getfield 104, 3) := by decide +kernel
theorem dX2_hang_96 : decode cX2_hang 96 = .ok (.if_icmp .le 13, 3) := by decide +kernel
theorem dX2_hang_99 : decode cX2_hang 99 = .ok (.new 64, 3) := by decide +kernel
theorem dX2_hang_102 : decode cX2_hang 102 = .ok (.dup, 1) := by decide +kernel
theorem dX2_hang_103 : decode cX2_hang 103 = .ok (.ldc 107, 2) := by decide +kernel
theorem dX2_hang_105 : decode cX2_hang 105 = .ok (.invokespecial 68, 3) := by decide +kernel
theorem dX2_hang_108 : decode cX2_hang 108 = .ok (.athrow, 1) := by decide +kernel
theorem dX2_hang_109 : decode cX2_hang 109 = .ok (.aload 5, 2) := by decide +kernel
theorem dX2_hang_111 : decode cX2_hang 111 = .ok (.aload 4, 2) := by decide +kernel
theorem dX2_hang_113 : decode cX2_hang 113 = .ok (.iload_n 3, 1) := by decide +kernel
theorem dX2_hang_114 : decode cX2_hang 114 = .ok (.invokevirtual 109, 3) := by decide +kernel
theorem dX2_hang_117 : decode cX2_hang 117 = .ok (.aload 5, 2) := by decide +kernel
theorem dX2_hang_119 : decode cX2_hang 119 = .ok (.invokevirtual 99, 3) := by decide +kernel
theorem dX2_hang_122 : decode cX2_hang 122 = .ok (.ireturn, 1) := by decide +kernel
set_option maxRecDepth 20000 in
theorem ggX2_takeDown_X2_lanternNumbered : GoodIn wsX2_takeDown wsX2_lanternNumbered := goodIn_ca (goodIn_r _ [9, 10, 11, 12, 13, 14, 8, 15, 44, 45, 46, 47, 48, 49, 50, 51, 52, 53, 54, 55] (by decide +kernel) (by decide +kernel)) (goodIn_sub (fun _ h => List.mem_cons_of_mem _ (List.mem_append_right _ h)) (by decide +kernel))
set_option maxRecDepth 20000 in
theorem gX2_takeDown_X2_lanternNumbered : GoodIn wsX2_takeDown (wsV RX2 72 RX2 yX2_lanternNumbered wsX2_lanternNumbered) := goodIn_app (goodIn_of _ (by decide +kernel)) ggX2_takeDown_X2_lanternNumbered
set_option maxRecDepth 20000 in
theorem ggX2_takeDown_X1_free : GoodIn wsX2_takeDown wsX1_free := goodIn_r _ [20, 21, 22, 23, 37, 38, 39, 40, 41, 42, 43, 30, 31, 32, 33, 34, 35, 36] (by decide +kernel) (by decide +kernel)
set_option maxRecDepth 20000 in
theorem gX2_takeDown_X1_free : GoodIn wsX2_takeDown (wsV RX2 115 RX1 yX1_free wsX1_free) := goodIn_app (goodIn_of _ (by decide +kernel)) ggX2_takeDown_X1_free
set_option maxRecDepth 20000 in
theorem ggX2_takeDown_X0_darken : GoodIn wsX2_takeDown wsX0_darken := goodIn_r _ [28, 29, 30, 31, 32, 33, 34, 35, 36] (by decide +kernel) (by decide +kernel)
set_option maxRecDepth 20000 in
theorem gX2_takeDown_X0_darken : GoodIn wsX2_takeDown (wsV RX2 119 RX0 yX0_darken wsX0_darken) := goodIn_app (goodIn_of _ (by decide +kernel)) ggX2_takeDown_X0_darken
theorem dX2_takeDown_0 : decode cX2_takeDown 0 = .ok (.aload_n 0, 1) := by decide +kernel
theorem dX2_takeDown_1 : decode cX2_takeDown 1 = .ok (.iload_n 1, 1) := by decide +kernel
theorem dX2_takeDown_2 : decode cX2_takeDown 2 = .ok (.invokevirtual 72, 3) := by decide +kernel
theorem dX2_takeDown_5 : decode cX2_takeDown 5 = .ok (.astore_n 2, 1) := by decide +kernel
theorem dX2_takeDown_6 : decode cX2_takeDown 6 = .ok (.aload_n 2, 1) := by decide +kernel
theorem dX2_takeDown_7 : decode cX2_takeDown 7 = .ok (.getfield 90, 3) := by decide +kernel
theorem dX2_takeDown_10 : decode cX2_takeDown 10 = .ok (.astore_n 3, 1) := by decide +kernel
theorem dX2_takeDown_11 : decode cX2_takeDown 11 = .ok (.aload_n 3, 1) := by decide +kernel
theorem dX2_takeDown_12 : decode cX2_takeDown 12 = .ok (.ifnonnull 13, 3) := by decide +kernel
theorem dX2_takeDown_15 : decode cX2_takeDown 15 = .ok (.new 64, 3) := by decide +kernel
theorem dX2_takeDown_18 : decode cX2_takeDown 18 = .ok (.dup, 1) := by decide +kernel
theorem dX2_takeDown_19 : decode cX2_takeDown 19 = .ok (.ldc 113, 2) := by decide +kernel
theorem dX2_takeDown_21 : decode cX2_takeDown 21 = .ok (.invokespecial 68, 3) := by decide +kernel
theorem dX2_takeDown_24 : decode cX2_takeDown 24 = .ok (.athrow, 1) := by decide +kernel
theorem dX2_takeDown_25 : decode cX2_takeDown 25 = .ok (.aload_n 3, 1) := by decide +kernel
theorem dX2_takeDown_26 : decode cX2_takeDown 26 = .ok (.aload_n 2, 1) := by decide +kernel
theorem dX2_takeDown_27 : decode cX2_takeDown 27 = .ok (.invokevirtual 115, 3) := by decide +kernel
theorem dX2_takeDown_30 : decode cX2_takeDown 30 = .ok (.aload_n 2, 1) := by decide +kernel
theorem dX2_takeDown_31 : decode cX2_takeDown 31 = .ok (.invokevirtual 119, 3) := by decide +kernel
theorem dX2_takeDown_34 : decode cX2_takeDown 34 = .ok (.aload_n 3, 1) := by decide +kernel
theorem dX2_takeDown_35 : decode cX2_takeDown 35 = .ok (.getfield 122, 3) := by decide +kernel
theorem dX2_takeDown_38 : decode cX2_takeDown 38 = .ok (.ireturn, 1) := by decide +kernel
set_option maxRecDepth 20000 in
theorem ggX2_light_X2_lanternNumbered : GoodIn wsX2_light wsX2_lanternNumbered := goodIn_ca (goodIn_r _ [9, 10, 11, 12, 13, 14, 8, 15, 47, 48, 49, 50, 51, 52, 53, 54, 55, 56, 57, 58] (by decide +kernel) (by decide +kernel)) (goodIn_sub (fun _ h => List.mem_cons_of_mem _ (List.mem_append_right _ h)) (by decide +kernel))
set_option maxRecDepth 20000 in
theorem gX2_light_X2_lanternNumbered : GoodIn wsX2_light (wsV RX2 72 RX2 yX2_lanternNumbered wsX2_lanternNumbered) := goodIn_app (goodIn_of _ (by decide +kernel)) ggX2_light_X2_lanternNumbered
set_option maxRecDepth 20000 in
theorem ggX2_light_X0_place : GoodIn wsX2_light wsX0_place := goodIn_r _ [20, 21, 22, 23, 24, 40, 41, 42, 43, 44, 45, 46, 59, 60, 61, 62, 63, 64, 65] (by decide +kernel) (by decide +kernel)
set_option maxRecDepth 20000 in
theorem gX2_light_X0_place : GoodIn wsX2_light (wsV RX2 128 RX0 yX0_place wsX0_place) := goodIn_app (goodIn_of _ (by decide +kernel)) ggX2_light_X0_place
set_option maxRecDepth 20000 in
theorem ggX2_light_X2_isCrowded : GoodIn wsX2_light wsX2_isCrowded := goodIn_r _ [28, 12, 3, 29, 30, 31, 8, 32, 33, 34, 35, 36, 37, 19, 38, 39, 17, 18, 20, 21, 22, 23, 24, 47, 48, 49, 50, 51, 52, 53, 54, 55, 56, 57, 58, 40, 41, 42, 43, 44, 45, 46, 59, 60, 61, 62, 63, 64, 65] (by decide +kernel) (by decide +kernel)
set_option maxRecDepth 20000 in
theorem gX2_light_X2_isCrowded : GoodIn wsX2_light (wsV RX2 131 RX2 yX2_isCrowded wsX2_isCrowded) := goodIn_app (goodIn_of _ (by decide +kernel)) ggX2_light_X2_isCrowded
theorem dX2_light_0 : decode cX2_light 0 = .ok (.aload_n 0, 1) := by decide +kernel
theorem dX2_light_1 : decode cX2_light 1 = .ok (.iload_n 1, 1) := by decide +kernel
theorem dX2_light_2 : decode cX2_light 2 = .ok (.invokevirtual 72, 3) := by decide +kernel
theorem dX2_light_5 : decode cX2_light 5 = .ok (.astore_n 2, 1) := by decide +kernel
theorem dX2_light_6 : decode cX2_light 6 = .ok (.aload_n 2, 1) := by decide +kernel
theorem dX2_light_7 : decode cX2_light 7 = .ok (.getfield 125, 3) := by decide +kernel
theorem dX2_light_10 : decode cX2_light 10 = .ok (.ifCond .ne 21, 3) := by decide +kernel
theorem dX2_light_13 : decode cX2_light 13 = .ok (.aload_n 2, 1) := by decide +kernel
theorem dX2_light_14 : decode cX2_light 14 = .ok (.invokevirtual 128, 3) := by decide +kernel
theorem dX2_light_17 : decode cX2_light 17 = .ok (.iconst (-1), 1) := by decide +kernel
theorem dX2_light_18 : decode cX2_light 18 = .ok (.if_icmp .eq 13, 3) := by decide +kernel
theorem dX2_light_21 : decode cX2_light 21 = .ok (.aload_n 0, 1) := by decide +kernel
theorem dX2_light_22 : decode cX2_light 22 = .ok (.aload_n 2, 1) := by decide +kernel
theorem dX2_light_23 : decode cX2_light 23 = .ok (.bipush 24, 2) := by decide +kernel
theorem dX2_light_25 : decode cX2_light 25 = .ok (.invokevirtual 131, 3) := by decide +kernel
theorem dX2_light_28 : decode cX2_light 28 = .ok (.ifCond .eq 13, 3) := by decide +kernel
theorem dX2_light_31 : decode cX2_light 31 = .ok (.new 64, 3) := by decide +kernel
theorem dX2_light_34 : decode cX2_light 34 = .ok (.dup, 1) := by decide +kernel
theorem dX2_light_35 : decode cX2_light 35 = .ok (.ldc 135, 2) := by decide +kernel
theorem dX2_light_37 : decode cX2_light 37 = .ok (.invokespecial 68, 3) := by decide +kernel
theorem dX2_light_40 : decode cX2_light 40 = .ok (.athrow, 1) := by decide +kernel
theorem dX2_light_41 : decode cX2_light 41 = .ok (.aload_n 2, 1) := by decide +kernel
theorem dX2_light_42 : decode cX2_light 42 = .ok (.iconst 1, 1) := by decide +kernel
theorem dX2_light_43 : decode cX2_light 43 = .ok (.putfield 125, 3) := by decide +kernel
theorem dX2_light_46 : decode cX2_light 46 = .ok (.aload_n 2, 1) := by decide +kernel
theorem dX2_light_47 : decode cX2_light 47 = .ok (.getfield 137, 3) := by decide +kernel
theorem dX2_light_50 : decode cX2_light 50 = .ok (.ireturn, 1) := by decide +kernel
set_option maxRecDepth 20000 in
theorem ggX2_putOut_X2_lanternNumbered : GoodIn wsX2_putOut wsX2_lanternNumbered := goodIn_ca (goodIn_r _ [9, 10, 11, 12, 13, 14, 8, 15, 29, 30, 31, 32, 33, 34, 35, 36, 37, 38, 39, 40] (by decide +kernel) (by decide +kernel)) (goodIn_sub (fun _ h => List.mem_cons_of_mem _ (List.mem_append_right _ h)) (by decide +kernel))
set_option maxRecDepth 20000 in
theorem gX2_putOut_X2_lanternNumbered : GoodIn wsX2_putOut (wsV RX2 72 RX2 yX2_lanternNumbered wsX2_lanternNumbered) := goodIn_app (goodIn_of _ (by decide +kernel)) ggX2_putOut_X2_lanternNumbered
set_option maxRecDepth 20000 in
theorem ggX2_putOut_X0_darken : GoodIn wsX2_putOut wsX0_darken := goodIn_r _ [20, 21, 22, 23, 24, 25, 26, 27, 28] (by decide +kernel) (by decide +kernel)
set_option maxRecDepth 20000 in
theorem gX2_putOut_X0_darken : GoodIn wsX2_putOut (wsV RX2 119 RX0 yX0_darken wsX0_darken) := goodIn_app (goodIn_of _ (by decide +kernel)) ggX2_putOut_X0_darken
theorem dX2_putOut_0 : decode cX2_putOut 0 = .ok (.aload_n 0, 1) := by decide +kernel
theorem dX2_putOut_1 : decode cX2_putOut 1 = .ok (.iload_n 1, 1) := by decide +kernel
theorem dX2_putOut_2 : decode cX2_putOut 2 = .ok (.invokevirtual 72, 3) := by decide +kernel
theorem dX2_putOut_5 : decode cX2_putOut 5 = .ok (.astore_n 2, 1) := by decide +kernel
theorem dX2_putOut_6 : decode cX2_putOut 6 = .ok (.aload_n 2, 1) := by decide +kernel
theorem dX2_putOut_7 : decode cX2_putOut 7 = .ok (.getfield 125, 3) := by decide +kernel
theorem dX2_putOut_10 : decode cX2_putOut 10 = .ok (.iconst 1, 1) := by decide +kernel
theorem dX2_putOut_11 : decode cX2_putOut 11 = .ok (.if_icmp .eq 13, 3) := by decide +kernel
theorem dX2_putOut_14 : decode cX2_putOut 14 = .ok (.new 64, 3) := by decide +kernel
theorem dX2_putOut_17 : decode cX2_putOut 17 = .ok (.dup, 1) := by decide +kernel
theorem dX2_putOut_18 : decode cX2_putOut 18 = .ok (.ldc 140, 2) := by decide +kernel
theorem dX2_putOut_20 : decode cX2_putOut 20 = .ok (.invokespecial 68, 3) := by decide +kernel
theorem dX2_putOut_23 : decode cX2_putOut 23 = .ok (.athrow, 1) := by decide +kernel
theorem dX2_putOut_24 : decode cX2_putOut 24 = .ok (.aload_n 2, 1) := by decide +kernel
theorem dX2_putOut_25 : decode cX2_putOut 25 = .ok (.invokevirtual 119, 3) := by decide +kernel
theorem dX2_putOut_28 : decode cX2_putOut 28 = .ok (.aload_n 2, 1) := by decide +kernel
theorem dX2_putOut_29 : decode cX2_putOut 29 = .ok (.getfield 137, 3) := by decide +kernel
theorem dX2_putOut_32 : decode cX2_putOut 32 = .ok (.ireturn, 1) := by decide +kernel
set_option maxRecDepth 20000 in
theorem ggX2_build_X2_within : GoodIn wsX2_build wsX2_within := goodIn_r _ [13] (by decide +kernel) (by decide +kernel)
set_option maxRecDepth 20000 in
theorem gX2_build_X2_within : GoodIn wsX2_build (va_wsS RX2 53 yX2_within wsX2_within) := goodIn_app (goodIn_of _ (by decide +kernel)) ggX2_build_X2_within
set_option maxRecDepth 20000 in
theorem ggX2_build_X1_init : GoodIn wsX2_build wsX1_init := goodIn_r _ [16, 17, 18, 19, 20, 21, 22, 23, 24, 25, 26, 27, 40, 41, 42, 43, 44, 45, 46] (by decide +kernel) (by decide +kernel)
set_option maxRecDepth 20000 in
theorem gX2_build_X1_init : GoodIn wsX2_build (wsX1_init) := ggX2_build_X1_init
theorem dX2_build_0 : decode cX2_build 0 = .ok (.iload_n 1, 1) := by decide +kernel
theorem dX2_build_1 : decode cX2_build 1 = .ok (.iconst 1, 1) := by decide +kernel
theorem dX2_build_2 : decode cX2_build 2 = .ok (.bipush 9, 2) := by decide +kernel
theorem dX2_build_4 : decode cX2_build 4 = .ok (.invokestatic 53, 3) := by decide +kernel
theorem dX2_build_7 : decode cX2_build 7 = .ok (.ifCond .eq 15, 3) := by decide +kernel
theorem dX2_build_10 : decode cX2_build 10 = .ok (.iload_n 2, 1) := by decide +kernel
theorem dX2_build_11 : decode cX2_build 11 = .ok (.bipush 100, 2) := by decide +kernel
theorem dX2_build_13 : decode cX2_build 13 = .ok (.sipush 9999, 3) := by decide +kernel
theorem dX2_build_16 : decode cX2_build 16 = .ok (.invokestatic 53, 3) := by decide +kernel
theorem dX2_build_19 : decode cX2_build 19 = .ok (.ifCond .ne 13, 3) := by decide +kernel
theorem dX2_build_22 : decode cX2_build 22 = .ok (.new 57, 3) := by decide +kernel
theorem dX2_build_25 : decode cX2_build 25 = .ok (.dup, 1) := by decide +kernel
theorem dX2_build_26 : decode cX2_build 26 = .ok (.ldc 142, 2) := by decide +kernel
theorem dX2_build_28 : decode cX2_build 28 = .ok (.invokespecial 61, 3) := by decide +kernel
theorem dX2_build_31 : decode cX2_build 31 = .ok (.athrow, 1) := by decide +kernel
theorem dX2_build_32 : decode cX2_build 32 = .ok (.aload_n 0, 1) := by decide +kernel
theorem dX2_build_33 : decode cX2_build 33 = .ok (.getfield 32, 3) := by decide +kernel
theorem dX2_build_36 : decode cX2_build 36 = .ok (.aload_n 0, 1) := by decide +kernel
theorem dX2_build_37 : decode cX2_build 37 = .ok (.getfield 17, 3) := by decide +kernel
theorem dX2_build_40 : decode cX2_build 40 = .ok (.arraylength, 1) := by decide +kernel
theorem dX2_build_41 : decode cX2_build 41 = .ok (.if_icmp .lt 13, 3) := by decide +kernel
theorem dX2_build_44 : decode cX2_build 44 = .ok (.new 64, 3) := by decide +kernel
theorem dX2_build_47 : decode cX2_build 47 = .ok (.dup, 1) := by decide +kernel
theorem dX2_build_48 : decode cX2_build 48 = .ok (.ldc 144, 2) := by decide +kernel
theorem dX2_build_50 : decode cX2_build 50 = .ok (.invokespecial 68, 3) := by decide +kernel
theorem dX2_build_53 : decode cX2_build 53 = .ok (.athrow, 1) := by decide +kernel
theorem dX2_build_54 : decode cX2_build 54 = .ok (.aload_n 0, 1) := by decide +kernel
theorem dX2_build_55 : decode cX2_build 55 = .ok (.getfield 17, 3) := by decide +kernel
theorem dX2_build_58 : decode cX2_build 58 = .ok (.aload_n 0, 1) := by decide +kernel
theorem dX2_build_59 : decode cX2_build 59 = .ok (.getfield 32, 3) := by decide +kernel
theorem dX2_build_62 : decode cX2_build 62 = .ok (.new 15, 3) := by decide +kernel
theorem dX2_build_65 : decode cX2_build 65 = .ok (.dup, 1) := by decide +kernel
theorem dX2_build_66 : decode cX2_build 66 = .ok (.aload_n 0, 1) := by decide +kernel
theorem dX2_build_67 : decode cX2_build 67 = .ok (.getfield 32, 3) := by decide +kernel
theorem dX2_build_70 : decode cX2_build 70 = .ok (.iload_n 1, 1) := by decide +kernel
theorem dX2_build_71 : decode cX2_build 71 = .ok (.iload_n 2, 1) := by decide +kernel
theorem dX2_build_72 : decode cX2_build 72 = .ok (.invokespecial 146, 3) := by decide +kernel
theorem dX2_build_75 : decode cX2_build 75 = .ok (.aastore, 1) := by decide +kernel
theorem dX2_build_76 : decode cX2_build 76 = .ok (.aload_n 0, 1) := by decide +kernel
theorem dX2_build_77 : decode cX2_build 77 = .ok (.dup, 1) := by decide +kernel
theorem dX2_build_78 : decode cX2_build 78 = .ok (.getfield 32, 3) := by decide +kernel
theorem dX2_build_81 : decode cX2_build 81 = .ok (.iconst 1, 1) := by decide +kernel
theorem dX2_build_82 : decode cX2_build 82 = .ok (.iadd, 1) := by decide +kernel
theorem dX2_build_83 : decode cX2_build 83 = .ok (.putfield 32, 3) := by decide +kernel
theorem dX2_build_86 : decode cX2_build 86 = .ok (.aload_n 0, 1) := by decide +kernel
theorem dX2_build_87 : decode cX2_build 87 = .ok (.getfield 32, 3) := by decide +kernel
theorem dX2_build_90 : decode cX2_build 90 = .ok (.iconst 1, 1) := by decide +kernel
theorem dX2_build_91 : decode cX2_build 91 = .ok (.isub, 1) := by decide +kernel
theorem dX2_build_92 : decode cX2_build 92 = .ok (.ireturn, 1) := by decide +kernel
set_option maxRecDepth 20000 in
theorem ggX2_launch_X2_raftNumbered : GoodIn wsX2_launch wsX2_raftNumbered := goodIn_ca (goodIn_r _ [12, 13, 14, 15, 16, 17, 11, 18, 41, 42, 43, 44, 45, 46, 47, 48, 49, 50, 51, 52] (by decide +kernel) (by decide +kernel)) (goodIn_sub (fun _ h => List.mem_cons_of_mem _ (List.mem_append_right _ h)) (by decide +kernel))
set_option maxRecDepth 20000 in
theorem gX2_launch_X2_raftNumbered : GoodIn wsX2_launch (wsV RX2 76 RX2 yX2_raftNumbered wsX2_raftNumbered) := goodIn_app (goodIn_of _ (by decide +kernel)) ggX2_launch_X2_raftNumbered
set_option maxRecDepth 20000 in
theorem ggX2_launch_X2_hasRoomToLaunch : GoodIn wsX2_launch wsX2_hasRoomToLaunch := goodIn_r _ [22, 5, 3, 23, 24, 25, 26, 27, 28, 29, 41, 42, 43, 44, 45, 46, 47, 48, 49, 50, 51, 52, 34, 35, 36, 37, 38, 39, 40] (by decide +kernel) (by decide +kernel)
set_option maxRecDepth 20000 in
theorem gX2_launch_X2_hasRoomToLaunch : GoodIn wsX2_launch (wsV RX2 147 RX2 yX2_hasRoomToLaunch wsX2_hasRoomToLaunch) := goodIn_app (goodIn_of _ (by decide +kernel)) ggX2_launch_X2_hasRoomToLaunch
set_option maxRecDepth 20000 in
theorem ggX2_launch_X2_raftsOnRiver : GoodIn wsX2_launch wsX2_raftsOnRiver := goodIn_r _ [33, 5, 3, 41, 42, 43, 44, 45, 46, 47, 48, 49, 50, 51, 52, 34, 35, 36, 37, 38, 39, 40] (by decide +kernel) (by decide +kernel)
set_option maxRecDepth 20000 in
theorem gX2_launch_X2_raftsOnRiver : GoodIn wsX2_launch (wsV RX2 159 RX2 yX2_raftsOnRiver wsX2_raftsOnRiver) := goodIn_app (goodIn_of _ (by decide +kernel)) ggX2_launch_X2_raftsOnRiver
theorem dX2_launch_0 : decode cX2_launch 0 = .ok (.aload_n 0, 1) := by decide +kernel
theorem dX2_launch_1 : decode cX2_launch 1 = .ok (.iload_n 1, 1) := by decide +kernel
theorem dX2_launch_2 : decode cX2_launch 2 = .ok (.invokevirtual 76, 3) := by decide +kernel
theorem dX2_launch_5 : decode cX2_launch 5 = .ok (.astore_n 2, 1) := by decide +kernel
theorem dX2_launch_6 : decode cX2_launch 6 = .ok (.aload_n 2, 1) := by decide +kernel
theorem dX2_launch_7 : decode cX2_launch 7 = .ok (.getfield 94, 3) := by decide +kernel
theorem dX2_launch_10 : decode cX2_launch 10 = .ok (.ifCond .ne 22, 3) := by decide +kernel
theorem dX2_launch_13 : decode cX2_launch 13 = .ok (.aload_n 0, 1) := by decide +kernel
theorem dX2_launch_14 : decode cX2_launch 14 = .ok (.invokevirtual 147, 3) := by decide +kernel
theorem dX2_launch_17 : decode cX2_launch 17 = .ok (.ifCond .eq 15, 3) := by decide +kernel
theorem dX2_launch_20 : decode cX2_launch 20 = .ok (.aload_n 0, 1) := by decide +kernel
theorem dX2_launch_21 : decode cX2_launch 21 = .ok (.getfield 35, 3) := by decide +kernel
theorem dX2_launch_24 : decode cX2_launch 24 = .ok (.aload_n 0, 1) := by decide +kernel
theorem dX2_launch_25 : decode cX2_launch 25 = .ok (.getfield 21, 3) := by decide +kernel
theorem dX2_launch_28 : decode cX2_launch 28 = .ok (.arraylength, 1) := by decide +kernel
theorem dX2_launch_29 : decode cX2_launch 29 = .ok (.if_icmp .lt 13, 3) := by decide +kernel
theorem dX2_launch_32 : decode cX2_launch 32 = .ok (.new 64, 3) := by decide +kernel
theorem dX2_launch_35 : decode cX2_launch 35 = .ok (.dup, 1) := by decide +kernel
theorem dX2_launch_36 : decode cX2_launch 36 = .ok (.ldc 151, 2) := by decide +kernel
theorem dX2_launch_38 : decode cX2_launch 38 = .ok (.invokespecial 68, 3) := by decide +kernel
theorem dX2_launch_41 : decode cX2_launch 41 = .ok (.athrow, 1) := by decide +kernel
theorem dX2_launch_42 : decode cX2_launch 42 = .ok (.aload_n 2, 1) := by decide +kernel
theorem dX2_launch_43 : decode cX2_launch 43 = .ok (.iconst 1, 1) := by decide +kernel
theorem dX2_launch_44 : decode cX2_launch 44 = .ok (.putfield 94, 3) := by decide +kernel
theorem dX2_launch_47 : decode cX2_launch 47 = .ok (.aload_n 2, 1) := by decide +kernel
theorem dX2_launch_48 : decode cX2_launch 48 = .ok (.bipush 9, 2) := by decide +kernel
theorem dX2_launch_50 : decode cX2_launch 50 = .ok (.putfield 153, 3) := by decide +kernel
theorem dX2_launch_53 : decode cX2_launch 53 = .ok (.aload_n 2, 1) := by decide +kernel
theorem dX2_launch_54 : decode cX2_launch 54 = .ok (.aload_n 0, 1) := by decide +kernel
theorem dX2_launch_55 : decode cX2_launch 55 = .ok (.getfield 35, 3) := by decide +kernel
theorem dX2_launch_58 : decode cX2_launch 58 = .ok (.putfield 156, 3) := by decide +kernel
theorem dX2_launch_61 : decode cX2_launch 61 = .ok (.aload_n 0, 1) := by decide +kernel
theorem dX2_launch_62 : decode cX2_launch 62 = .ok (.getfield 21, 3) := by decide +kernel
theorem dX2_launch_65 : decode cX2_launch 65 = .ok (.aload_n 0, 1) := by decide +kernel
theorem dX2_launch_66 : decode cX2_launch 66 = .ok (.getfield 35, 3) := by decide +kernel
theorem dX2_launch_69 : decode cX2_launch 69 = .ok (.aload_n 2, 1) := by decide +kernel
theorem dX2_launch_70 : decode cX2_launch 70 = .ok (.aastore, 1) := by decide +kernel
theorem dX2_launch_71 : decode cX2_launch 71 = .ok (.aload_n 0, 1) := by decide +kernel
theorem dX2_launch_72 : decode cX2_launch 72 = .ok (.dup, 1) := by decide +kernel
theorem dX2_launch_73 : decode cX2_launch 73 = .ok (.getfield 35, 3) := by decide +kernel
theorem dX2_launch_76 : decode cX2_launch 76 = .ok (.iconst 1, 1) := by decide +kernel
theorem dX2_launch_77 : decode cX2_launch 77 = .ok (.iadd, 1) := by decide +kernel
theorem dX2_launch_78 : decode cX2_launch 78 = .ok (.putfield 35, 3) := by decide +kernel
theorem dX2_launch_81 : decode cX2_launch 81 = .ok (.aload_n 0, 1) := by decide +kernel
theorem dX2_launch_82 : decode cX2_launch 82 = .ok (.invokevirtual 159, 3) := by decide +kernel
theorem dX2_launch_85 : decode cX2_launch 85 = .ok (.ireturn, 1) := by decide +kernel
set_option maxRecDepth 20000 in
theorem ggX2_setRules_X2_within : GoodIn wsX2_setRules wsX2_within := goodIn_r _ [8] (by decide +kernel) (by decide +kernel)
set_option maxRecDepth 20000 in
theorem gX2_setRules_X2_within : GoodIn wsX2_setRules (va_wsS RX2 53 yX2_within wsX2_within) := goodIn_app (goodIn_of _ (by decide +kernel)) ggX2_setRules_X2_within
theorem dX2_setRules_0 : decode cX2_setRules 0 = .ok (.iload_n 1, 1) := by decide +kernel
theorem dX2_setRules_1 : decode cX2_setRules 1 = .ok (.iconst 1, 1) := by decide +kernel
theorem dX2_setRules_2 : decode cX2_setRules 2 = .ok (.bipush 20, 2) := by decide +kernel
theorem dX2_setRules_4 : decode cX2_setRules 4 = .ok (.invokestatic 53, 3) := by decide +kernel
theorem dX2_setRules_7 : decode cX2_setRules 7 = .ok (.ifCond .eq 13, 3) := by decide +kernel
theorem dX2_setRules_10 : decode cX2_setRules 10 = .ok (.iload_n 2, 1) := by decide +kernel
theorem dX2_setRules_11 : decode cX2_setRules 11 = .ok (.iconst 0, 1) := by decide +kernel
theorem dX2_setRules_12 : decode cX2_setRules 12 = .ok (.bipush 9, 2) := by decide +kernel
theorem dX2_setRules_14 : decode cX2_setRules 14 = .ok (.invokestatic 53, 3) := by decide +kernel
theorem dX2_setRules_17 : decode cX2_setRules 17 = .ok (.ifCond .ne 13, 3) := by decide +kernel
theorem dX2_setRules_20 : decode cX2_setRules 20 = .ok (.new 57, 3) := by decide +kernel
theorem dX2_setRules_23 : decode cX2_setRules 23 = .ok (.dup, 1) := by decide +kernel
theorem dX2_setRules_24 : decode cX2_setRules 24 = .ok (.ldc 162, 2) := by decide +kernel
theorem dX2_setRules_26 : decode cX2_setRules 26 = .ok (.invokespecial 61, 3) := by decide +kernel
theorem dX2_setRules_29 : decode cX2_setRules 29 = .ok (.athrow, 1) := by decide +kernel
theorem dX2_setRules_30 : decode cX2_setRules 30 = .ok (.aload_n 0, 1) := by decide +kernel
theorem dX2_setRules_31 : decode cX2_setRules 31 = .ok (.getfield 41, 3) := by decide +kernel
theorem dX2_setRules_34 : decode cX2_setRules 34 = .ok (.istore_n 3, 1) := by decide +kernel
theorem dX2_setRules_35 : decode cX2_setRules 35 = .ok (.aload_n 0, 1) := by decide +kernel
theorem dX2_setRules_36 : decode cX2_setRules 36 = .ok (.iload_n 1, 1) := by decide +kernel
theorem dX2_setRules_37 : decode cX2_setRules 37 = .ok (.putfield 41, 3) := by decide +kernel
theorem dX2_setRules_40 : decode cX2_setRules 40 = .ok (.aload_n 0, 1) := by decide +kernel
theorem dX2_setRules_41 : decode cX2_setRules 41 = .ok (.iload_n 2, 1) := by decide +kernel
theorem dX2_setRules_42 : decode cX2_setRules 42 = .ok (.putfield 44, 3) := by decide +kernel
theorem dX2_setRules_45 : decode cX2_setRules 45 = .ok (.iload_n 3, 1) := by decide +kernel
theorem dX2_setRules_46 : decode cX2_setRules 46 = .ok (.ireturn, 1) := by decide +kernel
set_option maxRecDepth 20000 in
theorem ggX2_setGust_X2_within : GoodIn wsX2_setGust wsX2_within := goodIn_r _ [7] (by decide +kernel) (by decide +kernel)
set_option maxRecDepth 20000 in
theorem gX2_setGust_X2_within : GoodIn wsX2_setGust (va_wsS RX2 53 yX2_within wsX2_within) := goodIn_app (goodIn_of _ (by decide +kernel)) ggX2_setGust_X2_within
theorem dX2_setGust_0 : decode cX2_setGust 0 = .ok (.iload_n 1, 1) := by decide +kernel
theorem dX2_setGust_1 : decode cX2_setGust 1 = .ok (.iconst 1, 1) := by decide +kernel
theorem dX2_setGust_2 : decode cX2_setGust 2 = .ok (.sipush 400, 3) := by decide +kernel
theorem dX2_setGust_5 : decode cX2_setGust 5 = .ok (.invokestatic 53, 3) := by decide +kernel
theorem dX2_setGust_8 : decode cX2_setGust 8 = .ok (.ifCond .eq 13, 3) := by decide +kernel
theorem dX2_setGust_11 : decode cX2_setGust 11 = .ok (.iload_n 2, 1) := by decide +kernel
theorem dX2_setGust_12 : decode cX2_setGust 12 = .ok (.iconst 0, 1) := by decide +kernel
theorem dX2_setGust_13 : decode cX2_setGust 13 = .ok (.bipush 9, 2) := by decide +kernel
theorem dX2_setGust_15 : decode cX2_setGust 15 = .ok (.invokestatic 53, 3) := by decide +kernel
theorem dX2_setGust_18 : decode cX2_setGust 18 = .ok (.ifCond .ne 13, 3) := by decide +kernel
theorem dX2_setGust_21 : decode cX2_setGust 21 = .ok (.new 57, 3) := by decide +kernel
theorem dX2_setGust_24 : decode cX2_setGust 24 = .ok (.dup, 1) := by decide +kernel
theorem dX2_setGust_25 : decode cX2_setGust 25 = .ok (.ldc 164, 2) := by decide +kernel
theorem dX2_setGust_27 : decode cX2_setGust 27 = .ok (.invokespecial 61, 3) := by decide +kernel
theorem dX2_setGust_30 : decode cX2_setGust 30 = .ok (.athrow, 1) := by decide +kernel
theorem dX2_setGust_31 : decode cX2_setGust 31 = .ok (.aload_n 0, 1) := by decide +kernel
theorem dX2_setGust_32 : decode cX2_setGust 32 = .ok (.getfield 24, 3) := by decide +kernel
theorem dX2_setGust_35 : decode cX2_setGust 35 = .ok (.iload_n 1, 1) := by decide +kernel
theorem dX2_setGust_36 : decode cX2_setGust 36 = .ok (.iaload, 1) := by decide +kernel
theorem dX2_setGust_37 : decode cX2_setGust 37 = .ok (.istore_n 3, 1) := by decide +kernel
theorem dX2_setGust_38 : decode cX2_setGust 38 = .ok (.aload_n 0, 1) := by decide +kernel
theorem dX2_setGust_39 : decode cX2_setGust 39 = .ok (.getfield 24, 3) := by decide +kernel
theorem dX2_setGust_42 : decode cX2_setGust 42 = .ok (.iload_n 1, 1) := by decide +kernel
theorem dX2_setGust_43 : decode cX2_setGust 43 = .ok (.iload_n 2, 1) := by decide +kernel
theorem dX2_setGust_44 : decode cX2_setGust 44 = .ok (.iastore, 1) := by decide +kernel
theorem dX2_setGust_45 : decode cX2_setGust 45 = .ok (.iload_n 3, 1) := by decide +kernel
theorem dX2_setGust_46 : decode cX2_setGust 46 = .ok (.ireturn, 1) := by decide +kernel
set_option maxRecDepth 20000 in
theorem ggX2_pass_X2_within : GoodIn wsX2_pass wsX2_within := goodIn_r _ [6] (by decide +kernel) (by decide +kernel)
set_option maxRecDepth 20000 in
theorem gX2_pass_X2_within : GoodIn wsX2_pass (va_wsS RX2 53 yX2_within wsX2_within) := goodIn_app (goodIn_of _ (by decide +kernel)) ggX2_pass_X2_within
set_option maxRecDepth 20000 in
theorem ggX2_pass_X2_litLanterns : GoodIn wsX2_pass wsX2_litLanterns := goodIn_r _ [10, 11, 12, 108, 109, 110, 111, 112, 113, 114, 115, 116, 117, 118, 119, 120, 121, 122, 123, 124, 125, 126] (by decide +kernel) (by decide +kernel)
set_option maxRecDepth 20000 in
theorem gX2_pass_X2_litLanterns : GoodIn wsX2_pass (wsV RX2 168 RX2 yX2_litLanterns wsX2_litLanterns) := goodIn_app (goodIn_of _ (by decide +kernel)) ggX2_pass_X2_litLanterns
set_option maxRecDepth 20000 in
theorem ggX2_pass_X2_passOne : GoodIn wsX2_pass wsX2_passOne := goodIn_r _ [16, 17, 18, 19, 20, 5, 21, 22, 23, 24, 25, 26, 27, 28, 29, 30, 31, 32, 33, 34, 35, 36, 37, 38, 39, 40, 41, 42, 43, 44, 45, 46, 47, 48, 49, 50, 51, 52, 53, 54, 55, 56, 57, 58, 59, 60, 61, 62, 63, 11, 12, 64, 3, 4, 6, 65, 66, 67, 68, 69, 70, 71, 72, 73, 74, 75, 76, 77, 78, 79, 80, 81, 82, 83, 84, 85, 86, 87, 88, 89, 90, 91, 92, 93, 94, 95, 96, 97, 98, 99, 100, 101, 102, 103, 104, 105, 106, 107, 108, 109, 110, 111, 112, 113, 114, 115, 116, 117, 118, 119, 127, 128, 129, 130, 131, 132, 133, 120, 121, 122, 123, 124, 125, 126] (by decide +kernel) (by decide +kernel)
set_option maxRecDepth 20000 in
theorem gX2_pass_X2_passOne : GoodIn wsX2_pass (wsV RX2 171 RX2 yX2_passOne wsX2_passOne) := goodIn_app (goodIn_of _ (by decide +kernel)) ggX2_pass_X2_passOne
theorem dX2_pass_0 : decode cX2_pass 0 = .ok (.iload_n 1, 1) := by decide +kernel
theorem dX2_pass_1 : decode cX2_pass 1 = .ok (.iconst 1, 1) := by decide +kernel
theorem dX2_pass_2 : decode cX2_pass 2 = .ok (.bipush 60, 2) := by decide +kernel
theorem dX2_pass_4 : decode cX2_pass 4 = .ok (.invokestatic 53, 3) := by decide +kernel
theorem dX2_pass_7 : decode cX2_pass 7 = .ok (.ifCond .ne 13, 3) := by decide +kernel
theorem dX2_pass_10 : decode cX2_pass 10 = .ok (.new 57, 3) := by decide +kernel
theorem dX2_pass_13 : decode cX2_pass 13 = .ok (.dup, 1) := by decide +kernel
theorem dX2_pass_14 : decode cX2_pass 14 = .ok (.ldc 166, 2) := by decide +kernel
theorem dX2_pass_16 : decode cX2_pass 16 = .ok (.invokespecial 61, 3) := by decide +kernel
theorem dX2_pass_19 : decode cX2_pass 19 = .ok (.athrow, 1) := by decide +kernel
theorem dX2_pass_20 : decode cX2_pass 20 = .ok (.aload_n 0, 1) := by decide +kernel
theorem dX2_pass_21 : decode cX2_pass 21 = .ok (.invokevirtual 168, 3) := by decide +kernel
theorem dX2_pass_24 : decode cX2_pass 24 = .ok (.istore_n 2, 1) := by decide +kernel
theorem dX2_pass_25 : decode cX2_pass 25 = .ok (.iconst 0, 1) := by decide +kernel
theorem dX2_pass_26 : decode cX2_pass 26 = .ok (.istore_n 3, 1) := by decide +kernel
theorem dX2_pass_27 : decode cX2_pass 27 = .ok (.iload_n 3, 1) := by decide +kernel
theorem dX2_pass_28 : decode cX2_pass 28 = .ok (.iload_n 1, 1) := by decide +kernel
theorem dX2_pass_29 : decode cX2_pass 29 = .ok (.if_icmp .ge 13, 3) := by decide +kernel
theorem dX2_pass_32 : decode cX2_pass 32 = .ok (.aload_n 0, 1) := by decide +kernel
theorem dX2_pass_33 : decode cX2_pass 33 = .ok (.invokevirtual 171, 3) := by decide +kernel
theorem dX2_pass_36 : decode cX2_pass 36 = .ok (.iinc 3 1, 3) := by decide +kernel
theorem dX2_pass_39 : decode cX2_pass 39 = .ok (.goto (-12), 3) := by decide +kernel
theorem dX2_pass_42 : decode cX2_pass 42 = .ok (.iload_n 2, 1) := by decide +kernel
theorem dX2_pass_43 : decode cX2_pass 43 = .ok (.aload_n 0, 1) := by decide +kernel
theorem dX2_pass_44 : decode cX2_pass 44 = .ok (.invokevirtual 168, 3) := by decide +kernel
theorem dX2_pass_47 : decode cX2_pass 47 = .ok (.isub, 1) := by decide +kernel
theorem dX2_pass_48 : decode cX2_pass 48 = .ok (.ireturn, 1) := by decide +kernel
theorem dX2_time_0 : decode cX2_time 0 = .ok (.aload_n 0, 1) := by decide +kernel
theorem dX2_time_1 : decode cX2_time 1 = .ok (.getfield 38, 3) := by decide +kernel
theorem dX2_time_4 : decode cX2_time 4 = .ok (.ireturn, 1) := by decide +kernel
theorem dX2_lanterns_0 : decode cX2_lanterns 0 = .ok (.aload_n 0, 1) := by decide +kernel
theorem dX2_lanterns_1 : decode cX2_lanterns 1 = .ok (.getfield 28, 3) := by decide +kernel
theorem dX2_lanterns_4 : decode cX2_lanterns 4 = .ok (.ireturn, 1) := by decide +kernel
set_option maxRecDepth 20000 in
theorem ggX2_stateOf_X2_lanternNumbered : GoodIn wsX2_stateOf wsX2_lanternNumbered := goodIn_ca (goodIn_r _ [6, 7, 8, 9, 10, 11, 5, 12, 20, 21, 22, 23, 24, 25, 26, 27, 28, 29, 30, 31] (by decide +kernel) (by decide +kernel)) (goodIn_sub (fun _ h => List.mem_cons_of_mem _ (List.mem_append_right _ h)) (by decide +kernel))
set_option maxRecDepth 20000 in
theorem gX2_stateOf_X2_lanternNumbered : GoodIn wsX2_stateOf (wsV RX2 72 RX2 yX2_lanternNumbered wsX2_lanternNumbered) := goodIn_app (goodIn_of _ (by decide +kernel)) ggX2_stateOf_X2_lanternNumbered
theorem dX2_stateOf_0 : decode cX2_stateOf 0 = .ok (.aload_n 0, 1) := by decide +kernel
theorem dX2_stateOf_1 : decode cX2_stateOf 1 = .ok (.iload_n 1, 1) := by decide +kernel
theorem dX2_stateOf_2 : decode cX2_stateOf 2 = .ok (.invokevirtual 72, 3) := by decide +kernel
theorem dX2_stateOf_5 : decode cX2_stateOf 5 = .ok (.astore_n 2, 1) := by decide +kernel
theorem dX2_stateOf_6 : decode cX2_stateOf 6 = .ok (.aload_n 2, 1) := by decide +kernel
theorem dX2_stateOf_7 : decode cX2_stateOf 7 = .ok (.getfield 125, 3) := by decide +kernel
theorem dX2_stateOf_10 : decode cX2_stateOf 10 = .ok (.ireturn, 1) := by decide +kernel
set_option maxRecDepth 20000 in
theorem ggX2_left_X2_lanternNumbered : GoodIn wsX2_left wsX2_lanternNumbered := goodIn_ca (goodIn_r _ [6, 7, 8, 9, 10, 11, 5, 12, 20, 21, 22, 23, 24, 25, 26, 27, 28, 29, 30, 31] (by decide +kernel) (by decide +kernel)) (goodIn_sub (fun _ h => List.mem_cons_of_mem _ (List.mem_append_right _ h)) (by decide +kernel))
set_option maxRecDepth 20000 in
theorem gX2_left_X2_lanternNumbered : GoodIn wsX2_left (wsV RX2 72 RX2 yX2_lanternNumbered wsX2_lanternNumbered) := goodIn_app (goodIn_of _ (by decide +kernel)) ggX2_left_X2_lanternNumbered
theorem dX2_left_0 : decode cX2_left 0 = .ok (.aload_n 0, 1) := by decide +kernel
theorem dX2_left_1 : decode cX2_left 1 = .ok (.iload_n 1, 1) := by decide +kernel
theorem dX2_left_2 : decode cX2_left 2 = .ok (.invokevirtual 72, 3) := by decide +kernel
theorem dX2_left_5 : decode cX2_left 5 = .ok (.astore_n 2, 1) := by decide +kernel
theorem dX2_left_6 : decode cX2_left 6 = .ok (.aload_n 2, 1) := by decide +kernel
theorem dX2_left_7 : decode cX2_left 7 = .ok (.getfield 137, 3) := by decide +kernel
theorem dX2_left_10 : decode cX2_left 10 = .ok (.ireturn, 1) := by decide +kernel
set_option maxRecDepth 20000 in
theorem ggX2_placeOf_X2_lanternNumbered : GoodIn wsX2_placeOf wsX2_lanternNumbered := goodIn_ca (goodIn_r _ [5, 6, 7, 8, 9, 10, 4, 11, 21, 22, 23, 24, 25, 26, 27, 28, 29, 30, 31, 32] (by decide +kernel) (by decide +kernel)) (goodIn_sub (fun _ h => List.mem_cons_of_mem _ (List.mem_append_right _ h)) (by decide +kernel))
set_option maxRecDepth 20000 in
theorem gX2_placeOf_X2_lanternNumbered : GoodIn wsX2_placeOf (wsV RX2 72 RX2 yX2_lanternNumbered wsX2_lanternNumbered) := goodIn_app (goodIn_of _ (by decide +kernel)) ggX2_placeOf_X2_lanternNumbered
set_option maxRecDepth 20000 in
theorem ggX2_placeOf_X0_place : GoodIn wsX2_placeOf wsX0_place := goodIn_r _ [16, 17, 18, 19, 20, 33, 34, 35, 36, 37, 38, 39, 40, 41, 42, 43, 44, 45, 46] (by decide +kernel) (by decide +kernel)
set_option maxRecDepth 20000 in
theorem gX2_placeOf_X0_place : GoodIn wsX2_placeOf (wsV RX2 128 RX0 yX0_place wsX0_place) := goodIn_app (goodIn_of _ (by decide +kernel)) ggX2_placeOf_X0_place
theorem dX2_placeOf_0 : decode cX2_placeOf 0 = .ok (.aload_n 0, 1) := by decide +kernel
theorem dX2_placeOf_1 : decode cX2_placeOf 1 = .ok (.iload_n 1, 1) := by decide +kernel
theorem dX2_placeOf_2 : decode cX2_placeOf 2 = .ok (.invokevirtual 72, 3) := by decide +kernel
theorem dX2_placeOf_5 : decode cX2_placeOf 5 = .ok (.astore_n 2, 1) := by decide +kernel
theorem dX2_placeOf_6 : decode cX2_placeOf 6 = .ok (.aload_n 2, 1) := by decide +kernel
theorem dX2_placeOf_7 : decode cX2_placeOf 7 = .ok (.invokevirtual 128, 3) := by decide +kernel
theorem dX2_placeOf_10 : decode cX2_placeOf 10 = .ok (.ireturn, 1) := by decide +kernel
set_option maxRecDepth 20000 in
theorem ggX2_nearest_X2_lanternNumbered : GoodIn wsX2_nearest wsX2_lanternNumbered := goodIn_ca (goodIn_r _ [8, 9, 10, 11, 12, 13, 7, 14, 68, 69, 70, 71, 72, 73, 74, 75, 76, 77, 78, 79] (by decide +kernel) (by decide +kernel)) (goodIn_sub (fun _ h => List.mem_cons_of_mem _ (List.mem_append_right _ h)) (by decide +kernel))
set_option maxRecDepth 20000 in
theorem gX2_nearest_X2_lanternNumbered : GoodIn wsX2_nearest (wsV RX2 72 RX2 yX2_lanternNumbered wsX2_lanternNumbered) := goodIn_app (goodIn_of _ (by decide +kernel)) ggX2_nearest_X2_lanternNumbered
set_option maxRecDepth 20000 in
theorem ggX2_nearest_X1_nearestLit : GoodIn wsX2_nearest wsX1_nearestLit := goodIn_r _ [19, 20, 21, 22, 23, 24, 25, 26, 27, 28, 29, 30, 31, 32, 33, 34, 35, 7, 36, 37, 38, 39, 40, 41, 42, 43, 61, 62, 63, 64, 65, 66, 67, 54, 55, 56, 57, 58, 59, 60] (by decide +kernel) (by decide +kernel)
set_option maxRecDepth 20000 in
theorem gX2_nearest_X1_nearestLit : GoodIn wsX2_nearest (wsV RX2 174 RX1 yX1_nearestLit wsX1_nearestLit) := goodIn_app (goodIn_of _ (by decide +kernel)) ggX2_nearest_X1_nearestLit
set_option maxRecDepth 20000 in
theorem ggX2_nearest_X2_nearestAhead : GoodIn wsX2_nearest wsX2_nearestAhead := goodIn_r _ [47, 48, 41, 42, 39, 43, 15, 16, 17, 18, 19, 20, 21, 22, 23, 24, 25, 26, 27, 28, 29, 30, 31, 32, 33, 34, 35, 7, 36, 37, 38, 40, 68, 69, 70, 71, 72, 73, 74, 75, 76, 77, 78, 79, 61, 62, 63, 64, 65, 66, 67, 54, 55, 56, 57, 58, 59, 60] (by decide +kernel) (by decide +kernel)
set_option maxRecDepth 20000 in
theorem gX2_nearest_X2_nearestAhead : GoodIn wsX2_nearest (wsV RX2 178 RX2 yX2_nearestAhead wsX2_nearestAhead) := goodIn_app (goodIn_of _ (by decide +kernel)) ggX2_nearest_X2_nearestAhead
set_option maxRecDepth 20000 in
theorem ggX2_nearest_X2_nearestBehind : GoodIn wsX2_nearest wsX2_nearestBehind := goodIn_r _ [52, 37, 38, 39, 40, 48, 15, 16, 17, 18, 19, 20, 21, 22, 23, 24, 25, 26, 27, 28, 29, 30, 31, 32, 33, 34, 35, 7, 36, 41, 42, 43, 68, 69, 70, 71, 72, 73, 74, 75, 76, 77, 78, 79, 61, 62, 63, 64, 65, 66, 67, 54, 55, 56, 57, 58, 59, 60] (by decide +kernel) (by decide +kernel)
set_option maxRecDepth 20000 in
theorem gX2_nearest_X2_nearestBehind : GoodIn wsX2_nearest (wsV RX2 182 RX2 yX2_nearestBehind wsX2_nearestBehind) := goodIn_app (goodIn_of _ (by decide +kernel)) ggX2_nearest_X2_nearestBehind
set_option maxRecDepth 20000 in
theorem ggX2_nearest_X2_nearer : GoodIn wsX2_nearest wsX2_nearer := goodIn_r _ [36, 37, 38, 39, 40, 41, 42, 43] (by decide +kernel) (by decide +kernel)
set_option maxRecDepth 20000 in
theorem gX2_nearest_X2_nearer : GoodIn wsX2_nearest (va_wsS RX2 185 yX2_nearer wsX2_nearer) := goodIn_app (goodIn_of _ (by decide +kernel)) ggX2_nearest_X2_nearer
theorem dX2_nearest_0 : decode cX2_nearest 0 = .ok (.aload_n 0, 1) := by decide +kernel
theorem dX2_nearest_1 : decode cX2_nearest 1 = .ok (.iload_n 1, 1) := by decide +kernel
theorem dX2_nearest_2 : decode cX2_nearest 2 = .ok (.invokevirtual 72, 3) := by decide +kernel
theorem dX2_nearest_5 : decode cX2_nearest 5 = .ok (.astore_n 2, 1) := by decide +kernel
theorem dX2_nearest_6 : decode cX2_nearest 6 = .ok (.aload_n 2, 1) := by decide +kernel
theorem dX2_nearest_7 : decode cX2_nearest 7 = .ok (.getfield 90, 3) := by decide +kernel
theorem dX2_nearest_10 : decode cX2_nearest 10 = .ok (.astore_n 3, 1) := by decide +kernel
theorem dX2_nearest_11 : decode cX2_nearest 11 = .ok (.aload_n 3, 1) := by decide +kernel
theorem dX2_nearest_12 : decode cX2_nearest 12 = .ok (.ifnull 11, 3) := by decide +kernel
theorem dX2_nearest_15 : decode cX2_nearest 15 = .ok (.aload_n 3, 1) := by decide +kernel
theorem dX2_nearest_16 : decode cX2_nearest 16 = .ok (.getfield 94, 3) := by decide +kernel
theorem dX2_nearest_19 : decode cX2_nearest 19 = .ok (.iconst 1, 1) := by decide +kernel
theorem dX2_nearest_20 : decode cX2_nearest 20 = .ok (.if_icmp .eq 5, 3) := by decide +kernel
theorem dX2_nearest_23 : decode cX2_nearest 23 = .ok (.iconst (-1), 1) := by decide +kernel
theorem dX2_nearest_24 : decode cX2_nearest 24 = .ok (.ireturn, 1) := by decide +kernel
theorem dX2_nearest_25 : decode cX2_nearest 25 = .ok (.aload_n 3, 1) := by decide +kernel
theorem dX2_nearest_26 : decode cX2_nearest 26 = .ok (.aload_n 2, 1) := by decide +kernel
theorem dX2_nearest_27 : decode cX2_nearest 27 = .ok (.invokevirtual 174, 3) := by decide +kernel
theorem dX2_nearest_30 : decode cX2_nearest 30 = .ok (.istore 4, 2) := by decide +kernel
theorem dX2_nearest_32 : decode cX2_nearest 32 = .ok (.aload_n 0, 1) := by decide +kernel
theorem dX2_nearest_33 : decode cX2_nearest 33 = .ok (.aload_n 2, 1) := by decide +kernel
theorem dX2_nearest_34 : decode cX2_nearest 34 = .ok (.aload_n 3, 1) := by decide +kernel
theorem dX2_nearest_35 : decode cX2_nearest 35 = .ok (.getfield 156, 3) := by decide +kernel
theorem dX2_nearest_38 : decode cX2_nearest 38 = .ok (.invokevirtual 178, 3) := by decide +kernel
theorem dX2_nearest_41 : decode cX2_nearest 41 = .ok (.istore 5, 2) := by decide +kernel
theorem dX2_nearest_43 : decode cX2_nearest 43 = .ok (.aload_n 0, 1) := by decide +kernel
theorem dX2_nearest_44 : decode cX2_nearest 44 = .ok (.aload_n 2, 1) := by decide +kernel
theorem dX2_nearest_45 : decode cX2_nearest 45 = .ok (.aload_n 3, 1) := by decide +kernel
theorem dX2_nearest_46 : decode cX2_nearest 46 = .ok (.getfield 156, 3) := by decide +kernel
theorem dX2_nearest_49 : decode cX2_nearest 49 = .ok (.invokevirtual 182, 3) := by decide +kernel
theorem dX2_nearest_52 : decode cX2_nearest 52 = .ok (.istore 6, 2) := by decide +kernel
theorem dX2_nearest_54 : decode cX2_nearest 54 = .ok (.iload 4, 2) := by decide +kernel
theorem dX2_nearest_56 : decode cX2_nearest 56 = .ok (.iload 5, 2) := by decide +kernel
theorem dX2_nearest_58 : decode cX2_nearest 58 = .ok (.iload 6, 2) := by decide +kernel
theorem dX2_nearest_60 : decode cX2_nearest 60 = .ok (.invokestatic 185, 3) := by decide +kernel
theorem dX2_nearest_63 : decode cX2_nearest 63 = .ok (.invokestatic 185, 3) := by decide +kernel
theorem dX2_nearest_66 : decode cX2_nearest 66 = .ok (.ireturn, 1) := by decide +kernel
set_option maxRecDepth 20000 in
theorem ggX2_nearestOfAll_X2_lanternNumbered : GoodIn wsX2_nearestOfAll wsX2_lanternNumbered := goodIn_ca (goodIn_r _ [7, 8, 9, 1, 10, 11, 6, 12, 37, 38, 39, 40, 41, 42, 43, 44, 45, 46, 47, 48] (by decide +kernel) (by decide +kernel)) (goodIn_sub (fun _ h => List.mem_cons_of_mem _ (List.mem_append_right _ h)) (by decide +kernel))
set_option maxRecDepth 20000 in
theorem gX2_nearestOfAll_X2_lanternNumbered : GoodIn wsX2_nearestOfAll (wsV RX2 72 RX2 yX2_lanternNumbered wsX2_lanternNumbered) := goodIn_app (goodIn_of _ (by decide +kernel)) ggX2_nearestOfAll_X2_lanternNumbered
set_option maxRecDepth 20000 in
theorem ggX2_nearestOfAll_X0_place : GoodIn wsX2_nearestOfAll wsX0_place := goodIn_r _ [17, 18, 19, 20, 21, 49, 50, 51, 52, 53, 54, 55, 56, 57, 58, 59, 60, 61, 62] (by decide +kernel) (by decide +kernel)
set_option maxRecDepth 20000 in
theorem gX2_nearestOfAll_X0_place : GoodIn wsX2_nearestOfAll (wsV RX2 128 RX0 yX0_place wsX0_place) := goodIn_app (goodIn_of _ (by decide +kernel)) ggX2_nearestOfAll_X0_place
set_option maxRecDepth 20000 in
theorem ggX2_nearestOfAll_X0_distanceTo : GoodIn wsX2_nearestOfAll wsX0_distanceTo := goodIn_r _ [25, 26, 14, 15, 16, 17, 18, 19, 20, 21, 49, 50, 51, 52, 53, 54, 55, 56, 57, 58, 59, 60, 61, 62] (by decide +kernel) (by decide +kernel)
set_option maxRecDepth 20000 in
theorem gX2_nearestOfAll_X0_distanceTo : GoodIn wsX2_nearestOfAll (wsV RX2 189 RX0 yX0_distanceTo wsX0_distanceTo) := goodIn_app (goodIn_of _ (by decide +kernel)) ggX2_nearestOfAll_X0_distanceTo
set_option maxRecDepth 20000 in
theorem ggX2_nearestOfAll_X2_nearer : GoodIn wsX2_nearestOfAll wsX2_nearer := goodIn_r _ [29, 30, 31, 32, 33, 34, 35, 36] (by decide +kernel) (by decide +kernel)
set_option maxRecDepth 20000 in
theorem gX2_nearestOfAll_X2_nearer : GoodIn wsX2_nearestOfAll (va_wsS RX2 185 yX2_nearer wsX2_nearer) := goodIn_app (goodIn_of _ (by decide +kernel)) ggX2_nearestOfAll_X2_nearer
theorem dX2_nearestOfAll_0 : decode cX2_nearestOfAll 0 = .ok (.aload_n 0, 1) := by decide +kernel
theorem dX2_nearestOfAll_1 : decode cX2_nearestOfAll 1 = .ok (.iload_n 1, 1) := by decide +kernel
theorem dX2_nearestOfAll_2 : decode cX2_nearestOfAll 2 = .ok (.invokevirtual 72, 3) := by decide +kernel
theorem dX2_nearestOfAll_5 : decode cX2_nearestOfAll 5 = .ok (.astore_n 2, 1) := by decide +kernel
theorem dX2_nearestOfAll_6 : decode cX2_nearestOfAll 6 = .ok (.iconst (-1), 1) := by decide +kernel
theorem dX2_nearestOfAll_7 : decode cX2_nearestOfAll 7 = .ok (.istore_n 3, 1) := by decide +kernel
theorem dX2_nearestOfAll_8 : decode cX2_nearestOfAll 8 = .ok (.aload_n 2, 1) := by decide +kernel
theorem dX2_nearestOfAll_9 : decode cX2_nearestOfAll 9 = .ok (.invokevirtual 128, 3) := by decide +kernel
theorem dX2_nearestOfAll_12 : decode cX2_nearestOfAll 12 = .ok (.iconst (-1), 1) := by decide +kernel
theorem dX2_nearestOfAll_13 : decode cX2_nearestOfAll 13 = .ok (.if_icmp .eq 68, 3) := by decide +kernel
theorem dX2_nearestOfAll_16 : decode cX2_nearestOfAll 16 = .ok (.aload_n 0, 1) := by decide +kernel
theorem dX2_nearestOfAll_17 : decode cX2_nearestOfAll 17 = .ok (.getfield 11, 3) := by decide +kernel
theorem dX2_nearestOfAll_20 : decode cX2_nearestOfAll 20 = .ok (.astore 4, 2) := by decide +kernel
theorem dX2_nearestOfAll_22 : decode cX2_nearestOfAll 22 = .ok (.aload 4, 2) := by decide +kernel
theorem dX2_nearestOfAll_24 : decode cX2_nearestOfAll 24 = .ok (.arraylength, 1) := by decide +kernel
theorem dX2_nearestOfAll_25 : decode cX2_nearestOfAll 25 = .ok (.istore 5, 2) := by decide +kernel
theorem dX2_nearestOfAll_27 : decode cX2_nearestOfAll 27 = .ok (.iconst 0, 1) := by decide +kernel
theorem dX2_nearestOfAll_28 : decode cX2_nearestOfAll 28 = .ok (.istore 6, 2) := by decide +kernel
theorem dX2_nearestOfAll_30 : decode cX2_nearestOfAll 30 = .ok (.iload 6, 2) := by decide +kernel
theorem dX2_nearestOfAll_32 : decode cX2_nearestOfAll 32 = .ok (.iload 5, 2) := by decide +kernel
theorem dX2_nearestOfAll_34 : decode cX2_nearestOfAll 34 = .ok (.if_icmp .ge 47, 3) := by decide +kernel
theorem dX2_nearestOfAll_37 : decode cX2_nearestOfAll 37 = .ok (.aload 4, 2) := by decide +kernel
theorem dX2_nearestOfAll_39 : decode cX2_nearestOfAll 39 = .ok (.iload 6, 2) := by decide +kernel
theorem dX2_nearestOfAll_41 : decode cX2_nearestOfAll 41 = .ok (.aaload, 1) := by decide +kernel
theorem dX2_nearestOfAll_42 : decode cX2_nearestOfAll 42 = .ok (.astore 7, 2) := by decide +kernel
theorem dX2_nearestOfAll_44 : decode cX2_nearestOfAll 44 = .ok (.aload 7, 2) := by decide +kernel
theorem dX2_nearestOfAll_46 : decode cX2_nearestOfAll 46 = .ok (.ifnull 29, 3) := by decide +kernel
theorem dX2_nearestOfAll_49 : decode cX2_nearestOfAll 49 = .ok (.aload 7, 2) := by decide +kernel
theorem dX2_nearestOfAll_51 : decode cX2_nearestOfAll 51 = .ok (.aload_n 2, 1) := by decide +kernel
theorem dX2_nearestOfAll_52 : decode cX2_nearestOfAll 52 = .ok (.if_acmp .eq 23, 3) := by decide +kernel
theorem dX2_nearestOfAll_55 : decode cX2_nearestOfAll 55 = .ok (.aload 7, 2) := by decide +kernel
theorem dX2_nearestOfAll_57 : decode cX2_nearestOfAll 57 = .ok (.getfield 125, 3) := by decide +kernel
theorem dX2_nearestOfAll_60 : decode cX2_nearestOfAll 60 = .ok (.iconst 1, 1) := by decide +kernel
theorem dX2_nearestOfAll_61 : decode cX2_nearestOfAll 61 = .ok (.if_icmp .ne 14, 3) := by decide +kernel
theorem dX2_nearestOfAll_64 : decode cX2_nearestOfAll 64 = .ok (.iload_n 3, 1) := by decide +kernel
theorem dX2_nearestOfAll_65 : decode cX2_nearestOfAll 65 = .ok (.aload_n 2, 1) := by decide +kernel
theorem dX2_nearestOfAll_66 : decode cX2_nearestOfAll 66 = .ok (.aload 7, 2) := by decide +kernel
theorem dX2_nearestOfAll_68 : decode cX2_nearestOfAll 68 = .ok (.invokevirtual 189, 3) := by decide +kernel
theorem dX2_nearestOfAll_71 : decode cX2_nearestOfAll 71 = .ok (.invokestatic 185, 3) := by decide +kernel
theorem dX2_nearestOfAll_74 : decode cX2_nearestOfAll 74 = .ok (.istore_n 3, 1) := by decide +kernel
theorem dX2_nearestOfAll_75 : decode cX2_nearestOfAll 75 = .ok (.iinc 6 1, 3) := by decide +kernel
theorem dX2_nearestOfAll_78 : decode cX2_nearestOfAll 78 = .ok (.goto (-48), 3) := by decide +kernel
theorem dX2_nearestOfAll_81 : decode cX2_nearestOfAll 81 = .ok (.iload_n 3, 1) := by decide +kernel
theorem dX2_nearestOfAll_82 : decode cX2_nearestOfAll 82 = .ok (.ireturn, 1) := by decide +kernel
theorem dX2_blownOut_0 : decode cX2_blownOut 0 = .ok (.aload_n 0, 1) := by decide +kernel
theorem dX2_blownOut_1 : decode cX2_blownOut 1 = .ok (.getfield 47, 3) := by decide +kernel
theorem dX2_blownOut_4 : decode cX2_blownOut 4 = .ok (.ireturn, 1) := by decide +kernel
theorem dX2_ordered_0 : decode cX2_ordered 0 = .ok (.aload_n 0, 1) := by decide +kernel
theorem dX2_ordered_1 : decode cX2_ordered 1 = .ok (.getfield 50, 3) := by decide +kernel
theorem dX2_ordered_4 : decode cX2_ordered 4 = .ok (.ireturn, 1) := by decide +kernel
set_option maxRecDepth 20000 in
theorem ggX2_sortOf_X2_raftNumbered : GoodIn wsX2_sortOf wsX2_raftNumbered := goodIn_ca (goodIn_r _ [6, 7, 8, 9, 10, 11, 5, 12, 20, 21, 22, 23, 24, 25, 26, 27, 28, 29, 30, 31] (by decide +kernel) (by decide +kernel)) (goodIn_sub (fun _ h => List.mem_cons_of_mem _ (List.mem_append_right _ h)) (by decide +kernel))
set_option maxRecDepth 20000 in
theorem gX2_sortOf_X2_raftNumbered : GoodIn wsX2_sortOf (wsV RX2 76 RX2 yX2_raftNumbered wsX2_raftNumbered) := goodIn_app (goodIn_of _ (by decide +kernel)) ggX2_sortOf_X2_raftNumbered
theorem dX2_sortOf_0 : decode cX2_sortOf 0 = .ok (.aload_n 0, 1) := by decide +kernel
theorem dX2_sortOf_1 : decode cX2_sortOf 1 = .ok (.iload_n 1, 1) := by decide +kernel
theorem dX2_sortOf_2 : decode cX2_sortOf 2 = .ok (.invokevirtual 76, 3) := by decide +kernel
theorem dX2_sortOf_5 : decode cX2_sortOf 5 = .ok (.astore_n 2, 1) := by decide +kernel
theorem dX2_sortOf_6 : decode cX2_sortOf 6 = .ok (.aload_n 2, 1) := by decide +kernel
theorem dX2_sortOf_7 : decode cX2_sortOf 7 = .ok (.getfield 94, 3) := by decide +kernel
theorem dX2_sortOf_10 : decode cX2_sortOf 10 = .ok (.ireturn, 1) := by decide +kernel
set_option maxRecDepth 20000 in
theorem ggX2_front_X2_raftNumbered : GoodIn wsX2_front wsX2_raftNumbered := goodIn_ca (goodIn_r _ [7, 8, 9, 10, 11, 12, 6, 13, 21, 22, 23, 24, 25, 26, 27, 28, 29, 30, 31, 32] (by decide +kernel) (by decide +kernel)) (goodIn_sub (fun _ h => List.mem_cons_of_mem _ (List.mem_append_right _ h)) (by decide +kernel))
set_option maxRecDepth 20000 in
theorem gX2_front_X2_raftNumbered : GoodIn wsX2_front (wsV RX2 76 RX2 yX2_raftNumbered wsX2_raftNumbered) := goodIn_app (goodIn_of _ (by decide +kernel)) ggX2_front_X2_raftNumbered
theorem dX2_front_0 : decode cX2_front 0 = .ok (.aload_n 0, 1) := by decide +kernel
theorem dX2_front_1 : decode cX2_front 1 = .ok (.iload_n 1, 1) := by decide +kernel
theorem dX2_front_2 : decode cX2_front 2 = .ok (.invokevirtual 76, 3) := by decide +kernel
theorem dX2_front_5 : decode cX2_front 5 = .ok (.astore_n 2, 1) := by decide +kernel
theorem dX2_front_6 : decode cX2_front 6 = .ok (.aload_n 2, 1) := by decide +kernel
theorem dX2_front_7 : decode cX2_front 7 = .ok (.getfield 94, 3) := by decide +kernel
theorem dX2_front_10 : decode cX2_front 10 = .ok (.iconst 1, 1) := by decide +kernel
theorem dX2_front_11 : decode cX2_front 11 = .ok (.if_icmp .ne 10, 3) := by decide +kernel
theorem dX2_front_14 : decode cX2_front 14 = .ok (.aload_n 2, 1) := by decide +kernel
theorem dX2_front_15 : decode cX2_front 15 = .ok (.getfield 153, 3) := by decide +kernel
theorem dX2_front_18 : decode cX2_front 18 = .ok (.goto 4, 3) := by decide +kernel
theorem dX2_front_21 : decode cX2_front 21 = .ok (.iconst (-1), 1) := by decide +kernel
theorem dX2_front_22 : decode cX2_front 22 = .ok (.ireturn, 1) := by decide +kernel
set_option maxRecDepth 20000 in
theorem ggX2_load_X2_raftNumbered : GoodIn wsX2_load wsX2_raftNumbered := goodIn_ca (goodIn_r _ [5, 6, 7, 8, 9, 10, 4, 11, 26, 27, 28, 29, 30, 31, 32, 33, 34, 35, 36, 37] (by decide +kernel) (by decide +kernel)) (goodIn_sub (fun _ h => List.mem_cons_of_mem _ (List.mem_append_right _ h)) (by decide +kernel))
set_option maxRecDepth 20000 in
theorem gX2_load_X2_raftNumbered : GoodIn wsX2_load (wsV RX2 76 RX2 yX2_raftNumbered wsX2_raftNumbered) := goodIn_app (goodIn_of _ (by decide +kernel)) ggX2_load_X2_raftNumbered
set_option maxRecDepth 20000 in
theorem ggX2_load_X1_weight : GoodIn wsX2_load wsX1_weight := goodIn_r _ [16, 17, 18, 19, 20, 21, 22, 23, 24, 25, 38, 39, 40, 41, 42, 43, 44, 45, 46, 47, 48, 49, 50, 51] (by decide +kernel) (by decide +kernel)
set_option maxRecDepth 20000 in
theorem gX2_load_X1_weight : GoodIn wsX2_load (wsV RX2 99 RX1 yX1_weight wsX1_weight) := goodIn_app (goodIn_of _ (by decide +kernel)) ggX2_load_X1_weight
theorem dX2_load_0 : decode cX2_load 0 = .ok (.aload_n 0, 1) := by decide +kernel
theorem dX2_load_1 : decode cX2_load 1 = .ok (.iload_n 1, 1) := by decide +kernel
theorem dX2_load_2 : decode cX2_load 2 = .ok (.invokevirtual 76, 3) := by decide +kernel
theorem dX2_load_5 : decode cX2_load 5 = .ok (.astore_n 2, 1) := by decide +kernel
theorem dX2_load_6 : decode cX2_load 6 = .ok (.aload_n 2, 1) := by decide +kernel
theorem dX2_load_7 : decode cX2_load 7 = .ok (.invokevirtual 99, 3) := by decide +kernel
theorem dX2_load_10 : decode cX2_load 10 = .ok (.ireturn, 1) := by decide +kernel
set_option maxRecDepth 20000 in
theorem ggX2_likeness_X2_raftNumbered : GoodIn wsX2_likeness wsX2_raftNumbered := goodIn_ca (goodIn_r _ [7, 8, 9, 10, 11, 12, 6, 13, 21, 22, 23, 24, 25, 26, 27, 28, 29, 30, 31, 32] (by decide +kernel) (by decide +kernel)) (goodIn_sub (fun _ h => List.mem_cons_of_mem _ (List.mem_append_right _ h)) (by decide +kernel))
set_option maxRecDepth 20000 in
theorem gX2_likeness_X2_raftNumbered : GoodIn wsX2_likeness (wsV RX2 76 RX2 yX2_raftNumbered wsX2_raftNumbered) := goodIn_app (goodIn_of _ (by decide +kernel)) ggX2_likeness_X2_raftNumbered
set_option maxRecDepth 20000 in
theorem ggX2_likeness_X2_within : GoodIn wsX2_likeness wsX2_within := goodIn_r _ [13] (by decide +kernel) (by decide +kernel)
set_option maxRecDepth 20000 in
theorem gX2_likeness_X2_within : GoodIn wsX2_likeness (va_wsS RX2 53 yX2_within wsX2_within) := goodIn_app (goodIn_of _ (by decide +kernel)) ggX2_likeness_X2_within
set_option maxRecDepth 20000 in
theorem ggX2_likeness_X1_alike : GoodIn wsX2_likeness wsX1_alike := goodIn_r _ [18, 19, 20, 33, 34, 35, 36, 37, 38, 39, 40, 41, 42, 43, 44, 45, 46] (by decide +kernel) (by decide +kernel)
set_option maxRecDepth 20000 in
theorem gX2_likeness_X1_alike : GoodIn wsX2_likeness (wsV RX2 194 RX1 yX1_alike wsX1_alike) := goodIn_app (goodIn_of _ (by decide +kernel)) ggX2_likeness_X1_alike
theorem dX2_likeness_0 : decode cX2_likeness 0 = .ok (.aload_n 0, 1) := by decide +kernel
theorem dX2_likeness_1 : decode cX2_likeness 1 = .ok (.iload_n 1, 1) := by decide +kernel
theorem dX2_likeness_2 : decode cX2_likeness 2 = .ok (.invokevirtual 76, 3) := by decide +kernel
theorem dX2_likeness_5 : decode cX2_likeness 5 = .ok (.astore_n 3, 1) := by decide +kernel
theorem dX2_likeness_6 : decode cX2_likeness 6 = .ok (.iload_n 2, 1) := by decide +kernel
theorem dX2_likeness_7 : decode cX2_likeness 7 = .ok (.iconst 0, 1) := by decide +kernel
theorem dX2_likeness_8 : decode cX2_likeness 8 = .ok (.sipush 1023, 3) := by decide +kernel
theorem dX2_likeness_11 : decode cX2_likeness 11 = .ok (.invokestatic 53, 3) := by decide +kernel
theorem dX2_likeness_14 : decode cX2_likeness 14 = .ok (.ifCond .ne 13, 3) := by decide +kernel
theorem dX2_likeness_17 : decode cX2_likeness 17 = .ok (.new 57, 3) := by decide +kernel
theorem dX2_likeness_20 : decode cX2_likeness 20 = .ok (.dup, 1) := by decide +kernel
theorem dX2_likeness_21 : decode cX2_likeness 21 = .ok (.ldc 192, 2) := by decide +kernel
theorem dX2_likeness_23 : decode cX2_likeness 23 = .ok (.invokespecial 61, 3) := by decide +kernel
theorem dX2_likeness_26 : decode cX2_likeness 26 = .ok (.athrow, 1) := by decide +kernel
theorem dX2_likeness_27 : decode cX2_likeness 27 = .ok (.aload_n 3, 1) := by decide +kernel
theorem dX2_likeness_28 : decode cX2_likeness 28 = .ok (.iload_n 2, 1) := by decide +kernel
theorem dX2_likeness_29 : decode cX2_likeness 29 = .ok (.invokevirtual 194, 3) := by decide +kernel
theorem dX2_likeness_32 : decode cX2_likeness 32 = .ok (.ireturn, 1) := by decide +kernel
set_option maxRecDepth 20000 in
theorem ggX2_prize_X2_within : GoodIn wsX2_prize wsX2_within := goodIn_r _ [9] (by decide +kernel) (by decide +kernel)
set_option maxRecDepth 20000 in
theorem gX2_prize_X2_within : GoodIn wsX2_prize (va_wsS RX2 53 yX2_within wsX2_within) := goodIn_app (goodIn_of _ (by decide +kernel)) ggX2_prize_X2_within
set_option maxRecDepth 20000 in
theorem ggX2_prize_X1_alike : GoodIn wsX2_prize wsX1_alike := goodIn_r _ [14, 15, 16, 29, 30, 31, 32, 33, 34, 35, 36, 37, 38, 39, 40, 41, 42] (by decide +kernel) (by decide +kernel)
set_option maxRecDepth 20000 in
theorem gX2_prize_X1_alike : GoodIn wsX2_prize (wsV RX2 194 RX1 yX1_alike wsX1_alike) := goodIn_app (goodIn_of _ (by decide +kernel)) ggX2_prize_X1_alike
theorem dX2_prize_0 : decode cX2_prize 0 = .ok (.iload_n 1, 1) := by decide +kernel
theorem dX2_prize_1 : decode cX2_prize 1 = .ok (.iconst 0, 1) := by decide +kernel
theorem dX2_prize_2 : decode cX2_prize 2 = .ok (.sipush 1023, 3) := by decide +kernel
theorem dX2_prize_5 : decode cX2_prize 5 = .ok (.invokestatic 53, 3) := by decide +kernel
theorem dX2_prize_8 : decode cX2_prize 8 = .ok (.ifCond .ne 13, 3) := by decide +kernel
theorem dX2_prize_11 : decode cX2_prize 11 = .ok (.new 57, 3) := by decide +kernel
theorem dX2_prize_14 : decode cX2_prize 14 = .ok (.dup, 1) := by decide +kernel
theorem dX2_prize_15 : decode cX2_prize 15 = .ok (.ldc 192, 2) := by decide +kernel
theorem dX2_prize_17 : decode cX2_prize 17 = .ok (.invokespecial 61, 3) := by decide +kernel
theorem dX2_prize_20 : decode cX2_prize 20 = .ok (.athrow, 1) := by decide +kernel
theorem dX2_prize_21 : decode cX2_prize 21 = .ok (.iconst (-1), 1) := by decide +kernel
theorem dX2_prize_22 : decode cX2_prize 22 = .ok (.istore_n 2, 1) := by decide +kernel
theorem dX2_prize_23 : decode cX2_prize 23 = .ok (.iconst (-1), 1) := by decide +kernel
theorem dX2_prize_24 : decode cX2_prize 24 = .ok (.istore_n 3, 1) := by decide +kernel
theorem dX2_prize_25 : decode cX2_prize 25 = .ok (.aload_n 0, 1) := by decide +kernel
theorem dX2_prize_26 : decode cX2_prize 26 = .ok (.getfield 21, 3) := by decide +kernel
theorem dX2_prize_29 : decode cX2_prize 29 = .ok (.astore 4, 2) := by decide +kernel
theorem dX2_prize_31 : decode cX2_prize 31 = .ok (.aload 4, 2) := by decide +kernel
theorem dX2_prize_33 : decode cX2_prize 33 = .ok (.arraylength, 1) := by decide +kernel
theorem dX2_prize_34 : decode cX2_prize 34 = .ok (.istore 5, 2) := by decide +kernel
theorem dX2_prize_36 : decode cX2_prize 36 = .ok (.iconst 0, 1) := by decide +kernel
theorem dX2_prize_37 : decode cX2_prize 37 = .ok (.istore 6, 2) := by decide +kernel
theorem dX2_prize_39 : decode cX2_prize 39 = .ok (.iload 6, 2) := by decide +kernel
theorem dX2_prize_41 : decode cX2_prize 41 = .ok (.iload 5, 2) := by decide +kernel
theorem dX2_prize_43 : decode cX2_prize 43 = .ok (.if_icmp .ge 53, 3) := by decide +kernel
theorem dX2_prize_46 : decode cX2_prize 46 = .ok (.aload 4, 2) := by decide +kernel
theorem dX2_prize_48 : decode cX2_prize 48 = .ok (.iload 6, 2) := by decide +kernel
theorem dX2_prize_50 : decode cX2_prize 50 = .ok (.aaload, 1) := by decide +kernel
theorem dX2_prize_51 : decode cX2_prize 51 = .ok (.astore 7, 2) := by decide +kernel
theorem dX2_prize_53 : decode cX2_prize 53 = .ok (.aload 7, 2) := by decide +kernel
theorem dX2_prize_55 : decode cX2_prize 55 = .ok (.ifnull 35, 3) := by decide +kernel
theorem dX2_prize_58 : decode cX2_prize 58 = .ok (.aload 7, 2) := by decide +kernel
theorem dX2_prize_60 : decode cX2_prize 60 = .ok (.getfield 94, 3) := by decide +kernel
theorem dX2_prize_63 : decode cX2_prize 63 = .ok (.iconst 1, 1) := by decide +kernel
theorem dX2_prize_64 : decode cX2_prize 64 = .ok (.if_icmp .ne 26, 3) := by decide +kernel
theorem dX2_prize_67 : decode cX2_prize 67 = .ok (.aload 7, 2) := by decide +kernel
theorem dX2_prize_69 : decode cX2_prize 69 = .ok (.iload_n 1, 1) := by decide +kernel
theorem dX2_prize_70 : decode cX2_prize 70 = .ok (.invokevirtual 194, 3) := by decide +kernel
theorem dX2_prize_73 : decode cX2_prize 73 = .ok (.iload_n 3, 1) := by decide +kernel
theorem dX2_prize_74 : decode cX2_prize 74 = .ok (.if_icmp .le 16, 3) := by decide +kernel
theorem dX2_prize_77 : decode cX2_prize 77 = .ok (.aload 7, 2) := by decide +kernel
theorem dX2_prize_79 : decode cX2_prize 79 = .ok (.getfield 122, 3) := by decide +kernel
theorem dX2_prize_82 : decode cX2_prize 82 = .ok (.istore_n 2, 1) := by decide +kernel
theorem dX2_prize_83 : decode cX2_prize 83 = .ok (.aload 7, 2) := by decide +kernel
theorem dX2_prize_85 : decode cX2_prize 85 = .ok (.iload_n 1, 1) := by decide +kernel
theorem dX2_prize_86 : decode cX2_prize 86 = .ok (.invokevirtual 194, 3) := by decide +kernel
theorem dX2_prize_89 : decode cX2_prize 89 = .ok (.istore_n 3, 1) := by decide +kernel
theorem dX2_prize_90 : decode cX2_prize 90 = .ok (.iinc 6 1, 3) := by decide +kernel
theorem dX2_prize_93 : decode cX2_prize 93 = .ok (.goto (-54), 3) := by decide +kernel
theorem dX2_prize_96 : decode cX2_prize 96 = .ok (.iload_n 2, 1) := by decide +kernel
theorem dX2_prize_97 : decode cX2_prize 97 = .ok (.ireturn, 1) := by decide +kernel
theorem dX2_within_0 : decode cX2_within 0 = .ok (.iload_n 0, 1) := by decide +kernel
theorem dX2_within_1 : decode cX2_within 1 = .ok (.iload_n 1, 1) := by decide +kernel
theorem dX2_within_2 : decode cX2_within 2 = .ok (.if_icmp .lt 12, 3) := by decide +kernel
theorem dX2_within_5 : decode cX2_within 5 = .ok (.iload_n 0, 1) := by decide +kernel
theorem dX2_within_6 : decode cX2_within 6 = .ok (.iload_n 2, 1) := by decide +kernel
theorem dX2_within_7 : decode cX2_within 7 = .ok (.if_icmp .gt 7, 3) := by decide +kernel
theorem dX2_within_10 : decode cX2_within 10 = .ok (.iconst 1, 1) := by decide +kernel
theorem dX2_within_11 : decode cX2_within 11 = .ok (.goto 4, 3) := by decide +kernel
theorem dX2_within_14 : decode cX2_within 14 = .ok (.iconst 0, 1) := by decide +kernel
theorem dX2_within_15 : decode cX2_within 15 = .ok (.ireturn, 1) := by decide +kernel
set_option maxRecDepth 20000 in
theorem ggX2_lanternNumbered_X2_within : GoodIn wsX2_lanternNumbered wsX2_within := goodIn_r _ [7] (by decide +kernel) (by decide +kernel)
set_option maxRecDepth 20000 in
theorem gX2_lanternNumbered_X2_within : GoodIn wsX2_lanternNumbered (va_wsS RX2 53 yX2_within wsX2_within) := goodIn_app (goodIn_of _ (by decide +kernel)) ggX2_lanternNumbered_X2_within
theorem dX2_lanternNumbered_0 : decode cX2_lanternNumbered 0 = .ok (.iload_n 1, 1) := by decide +kernel
theorem dX2_lanternNumbered_1 : decode cX2_lanternNumbered 1 = .ok (.iconst 0, 1) := by decide +kernel
theorem dX2_lanternNumbered_2 : decode cX2_lanternNumbered 2 = .ok (.aload_n 0, 1) := by decide +kernel
theorem dX2_lanternNumbered_3 : decode cX2_lanternNumbered 3 = .ok (.getfield 11, 3) := by decide +kernel
theorem dX2_lanternNumbered_6 : decode cX2_lanternNumbered 6 = .ok (.arraylength, 1) := by decide +kernel
theorem dX2_lanternNumbered_7 : decode cX2_lanternNumbered 7 = .ok (.iconst 1, 1) := by decide +kernel
theorem dX2_lanternNumbered_8 : decode cX2_lanternNumbered 8 = .ok (.isub, 1) := by decide +kernel
theorem dX2_lanternNumbered_9 : decode cX2_lanternNumbered 9 = .ok (.invokestatic 53, 3) := by decide +kernel
theorem dX2_lanternNumbered_12 : decode cX2_lanternNumbered 12 = .ok (.ifCond .eq 12, 3) := by decide +kernel
theorem dX2_lanternNumbered_15 : decode cX2_lanternNumbered 15 = .ok (.aload_n 0, 1) := by decide +kernel
theorem dX2_lanternNumbered_16 : decode cX2_lanternNumbered 16 = .ok (.getfield 11, 3) := by decide +kernel
theorem dX2_lanternNumbered_19 : decode cX2_lanternNumbered 19 = .ok (.iload_n 1, 1) := by decide +kernel
theorem dX2_lanternNumbered_20 : decode cX2_lanternNumbered 20 = .ok (.aaload, 1) := by decide +kernel
theorem dX2_lanternNumbered_21 : decode cX2_lanternNumbered 21 = .ok (.goto 4, 3) := by decide +kernel
theorem dX2_lanternNumbered_24 : decode cX2_lanternNumbered 24 = .ok (.aconst_null, 1) := by decide +kernel
theorem dX2_lanternNumbered_25 : decode cX2_lanternNumbered 25 = .ok (.astore_n 2, 1) := by decide +kernel
theorem dX2_lanternNumbered_26 : decode cX2_lanternNumbered 26 = .ok (.aload_n 2, 1) := by decide +kernel
theorem dX2_lanternNumbered_27 : decode cX2_lanternNumbered 27 = .ok (.ifnonnull 13, 3) := by decide +kernel
theorem dX2_lanternNumbered_30 : decode cX2_lanternNumbered 30 = .ok (.new 80, 3) := by decide +kernel
theorem dX2_lanternNumbered_33 : decode cX2_lanternNumbered 33 = .ok (.dup, 1) := by decide +kernel
theorem dX2_lanternNumbered_34 : decode cX2_lanternNumbered 34 = .ok (.ldc 198, 2) := by decide +kernel
theorem dX2_lanternNumbered_36 : decode cX2_lanternNumbered 36 = .ok (.invokespecial 84, 3) := by decide +kernel
theorem dX2_lanternNumbered_39 : decode cX2_lanternNumbered 39 = .ok (.athrow, 1) := by decide +kernel
theorem dX2_lanternNumbered_40 : decode cX2_lanternNumbered 40 = .ok (.aload_n 2, 1) := by decide +kernel
theorem dX2_lanternNumbered_41 : decode cX2_lanternNumbered 41 = .ok (.areturn, 1) := by decide +kernel
set_option maxRecDepth 20000 in
theorem ggX2_raftNumbered_X2_within : GoodIn wsX2_raftNumbered wsX2_within := goodIn_r _ [7] (by decide +kernel) (by decide +kernel)
set_option maxRecDepth 20000 in
theorem gX2_raftNumbered_X2_within : GoodIn wsX2_raftNumbered (va_wsS RX2 53 yX2_within wsX2_within) := goodIn_app (goodIn_of _ (by decide +kernel)) ggX2_raftNumbered_X2_within
theorem dX2_raftNumbered_0 : decode cX2_raftNumbered 0 = .ok (.iload_n 1, 1) := by decide +kernel
theorem dX2_raftNumbered_1 : decode cX2_raftNumbered 1 = .ok (.iconst 0, 1) := by decide +kernel
theorem dX2_raftNumbered_2 : decode cX2_raftNumbered 2 = .ok (.aload_n 0, 1) := by decide +kernel
theorem dX2_raftNumbered_3 : decode cX2_raftNumbered 3 = .ok (.getfield 17, 3) := by decide +kernel
theorem dX2_raftNumbered_6 : decode cX2_raftNumbered 6 = .ok (.arraylength, 1) := by decide +kernel
theorem dX2_raftNumbered_7 : decode cX2_raftNumbered 7 = .ok (.iconst 1, 1) := by decide +kernel
theorem dX2_raftNumbered_8 : decode cX2_raftNumbered 8 = .ok (.isub, 1) := by decide +kernel
theorem dX2_raftNumbered_9 : decode cX2_raftNumbered 9 = .ok (.invokestatic 53, 3) := by decide +kernel
theorem dX2_raftNumbered_12 : decode cX2_raftNumbered 12 = .ok (.ifCond .eq 12, 3) := by decide +kernel
theorem dX2_raftNumbered_15 : decode cX2_raftNumbered 15 = .ok (.aload_n 0, 1) := by decide +kernel
theorem dX2_raftNumbered_16 : decode cX2_raftNumbered 16 = .ok (.getfield 17, 3) := by decide +kernel
theorem dX2_raftNumbered_19 : decode cX2_raftNumbered 19 = .ok (.iload_n 1, 1) := by decide +kernel
theorem dX2_raftNumbered_20 : decode cX2_raftNumbered 20 = .ok (.aaload, 1) := by decide +kernel
theorem dX2_raftNumbered_21 : decode cX2_raftNumbered 21 = .ok (.goto 4, 3) := by decide +kernel
theorem dX2_raftNumbered_24 : decode cX2_raftNumbered 24 = .ok (.aconst_null, 1) := by decide +kernel
theorem dX2_raftNumbered_25 : decode cX2_raftNumbered 25 = .ok (.astore_n 2, 1) := by decide +kernel
theorem dX2_raftNumbered_26 : decode cX2_raftNumbered 26 = .ok (.aload_n 2, 1) := by decide +kernel
theorem dX2_raftNumbered_27 : decode cX2_raftNumbered 27 = .ok (.ifnonnull 13, 3) := by decide +kernel
theorem dX2_raftNumbered_30 : decode cX2_raftNumbered 30 = .ok (.new 80, 3) := by decide +kernel
theorem dX2_raftNumbered_33 : decode cX2_raftNumbered 33 = .ok (.dup, 1) := by decide +kernel
theorem dX2_raftNumbered_34 : decode cX2_raftNumbered 34 = .ok (.ldc 200, 2) := by decide +kernel
theorem dX2_raftNumbered_36 : decode cX2_raftNumbered 36 = .ok (.invokespecial 84, 3) := by decide +kernel
theorem dX2_raftNumbered_39 : decode cX2_raftNumbered 39 = .ok (.athrow, 1) := by decide +kernel
theorem dX2_raftNumbered_40 : decode cX2_raftNumbered 40 = .ok (.aload_n 2, 1) := by decide +kernel
theorem dX2_raftNumbered_41 : decode cX2_raftNumbered 41 = .ok (.areturn, 1) := by decide +kernel
theorem dX2_litLanterns_0 : decode cX2_litLanterns 0 = .ok (.iconst 0, 1) := by decide +kernel
theorem dX2_litLanterns_1 : decode cX2_litLanterns 1 = .ok (.istore_n 1, 1) := by decide +kernel
theorem dX2_litLanterns_2 : decode cX2_litLanterns 2 = .ok (.aload_n 0, 1) := by decide +kernel
theorem dX2_litLanterns_3 : decode cX2_litLanterns 3 = .ok (.getfield 11, 3) := by decide +kernel
theorem dX2_litLanterns_6 : decode cX2_litLanterns 6 = .ok (.astore_n 2, 1) := by decide +kernel
theorem dX2_litLanterns_7 : decode cX2_litLanterns 7 = .ok (.aload_n 2, 1) := by decide +kernel
theorem dX2_litLanterns_8 : decode cX2_litLanterns 8 = .ok (.arraylength, 1) := by decide +kernel
theorem dX2_litLanterns_9 : decode cX2_litLanterns 9 = .ok (.istore_n 3, 1) := by decide +kernel
theorem dX2_litLanterns_10 : decode cX2_litLanterns 10 = .ok (.iconst 0, 1) := by decide +kernel
theorem dX2_litLanterns_11 : decode cX2_litLanterns 11 = .ok (.istore 4, 2) := by decide +kernel
theorem dX2_litLanterns_13 : decode cX2_litLanterns 13 = .ok (.iload 4, 2) := by decide +kernel
theorem dX2_litLanterns_15 : decode cX2_litLanterns 15 = .ok (.iload_n 3, 1) := by decide +kernel
theorem dX2_litLanterns_16 : decode cX2_litLanterns 16 = .ok (.if_icmp .ge 32, 3) := by decide +kernel
theorem dX2_litLanterns_19 : decode cX2_litLanterns 19 = .ok (.aload_n 2, 1) := by decide +kernel
theorem dX2_litLanterns_20 : decode cX2_litLanterns 20 = .ok (.iload 4, 2) := by decide +kernel
theorem dX2_litLanterns_22 : decode cX2_litLanterns 22 = .ok (.aaload, 1) := by decide +kernel
theorem dX2_litLanterns_23 : decode cX2_litLanterns 23 = .ok (.astore 5, 2) := by decide +kernel
theorem dX2_litLanterns_25 : decode cX2_litLanterns 25 = .ok (.aload 5, 2) := by decide +kernel
theorem dX2_litLanterns_27 : decode cX2_litLanterns 27 = .ok (.ifnull 15, 3) := by decide +kernel
theorem dX2_litLanterns_30 : decode cX2_litLanterns 30 = .ok (.aload 5, 2) := by decide +kernel
theorem dX2_litLanterns_32 : decode cX2_litLanterns 32 = .ok (.getfield 125, 3) := by decide +kernel
theorem dX2_litLanterns_35 : decode cX2_litLanterns 35 = .ok (.iconst 1, 1) := by decide +kernel
theorem dX2_litLanterns_36 : decode cX2_litLanterns 36 = .ok (.if_icmp .ne 6, 3) := by decide +kernel
theorem dX2_litLanterns_39 : decode cX2_litLanterns 39 = .ok (.iinc 1 1, 3) := by decide +kernel
theorem dX2_litLanterns_42 : decode cX2_litLanterns 42 = .ok (.iinc 4 1, 3) := by decide +kernel
theorem dX2_litLanterns_45 : decode cX2_litLanterns 45 = .ok (.goto (-32), 3) := by decide +kernel
theorem dX2_litLanterns_48 : decode cX2_litLanterns 48 = .ok (.iload_n 1, 1) := by decide +kernel
theorem dX2_litLanterns_49 : decode cX2_litLanterns 49 = .ok (.ireturn, 1) := by decide +kernel
theorem dX2_raftsOnRiver_0 : decode cX2_raftsOnRiver 0 = .ok (.iconst 0, 1) := by decide +kernel
theorem dX2_raftsOnRiver_1 : decode cX2_raftsOnRiver 1 = .ok (.istore_n 1, 1) := by decide +kernel
theorem dX2_raftsOnRiver_2 : decode cX2_raftsOnRiver 2 = .ok (.aload_n 0, 1) := by decide +kernel
theorem dX2_raftsOnRiver_3 : decode cX2_raftsOnRiver 3 = .ok (.getfield 21, 3) := by decide +kernel
theorem dX2_raftsOnRiver_6 : decode cX2_raftsOnRiver 6 = .ok (.astore_n 2, 1) := by decide +kernel
theorem dX2_raftsOnRiver_7 : decode cX2_raftsOnRiver 7 = .ok (.aload_n 2, 1) := by decide +kernel
theorem dX2_raftsOnRiver_8 : decode cX2_raftsOnRiver 8 = .ok (.arraylength, 1) := by decide +kernel
theorem dX2_raftsOnRiver_9 : decode cX2_raftsOnRiver 9 = .ok (.istore_n 3, 1) := by decide +kernel
theorem dX2_raftsOnRiver_10 : decode cX2_raftsOnRiver 10 = .ok (.iconst 0, 1) := by decide +kernel
theorem dX2_raftsOnRiver_11 : decode cX2_raftsOnRiver 11 = .ok (.istore 4, 2) := by decide +kernel
theorem dX2_raftsOnRiver_13 : decode cX2_raftsOnRiver 13 = .ok (.iload 4, 2) := by decide +kernel
theorem dX2_raftsOnRiver_15 : decode cX2_raftsOnRiver 15 = .ok (.iload_n 3, 1) := by decide +kernel
theorem dX2_raftsOnRiver_16 : decode cX2_raftsOnRiver 16 = .ok (.if_icmp .ge 32, 3) := by decide +kernel
theorem dX2_raftsOnRiver_19 : decode cX2_raftsOnRiver 19 = .ok (.aload_n 2, 1) := by decide +kernel
theorem dX2_raftsOnRiver_20 : decode cX2_raftsOnRiver 20 = .ok (.iload 4, 2) := by decide +kernel
theorem dX2_raftsOnRiver_22 : decode cX2_raftsOnRiver 22 = .ok (.aaload, 1) := by decide +kernel
theorem dX2_raftsOnRiver_23 : decode cX2_raftsOnRiver 23 = .ok (.astore 5, 2) := by decide +kernel
theorem dX2_raftsOnRiver_25 : decode cX2_raftsOnRiver 25 = .ok (.aload 5, 2) := by decide +kernel
theorem dX2_raftsOnRiver_27 : decode cX2_raftsOnRiver 27 = .ok (.ifnull 15, 3) := by decide +kernel
theorem dX2_raftsOnRiver_30 : decode cX2_raftsOnRiver 30 = .ok (.aload 5, 2) := by decide +kernel
theorem dX2_raftsOnRiver_32 : decode cX2_raftsOnRiver 32 = .ok (.getfield 94, 3) := by decide +kernel
theorem dX2_raftsOnRiver_35 : decode cX2_raftsOnRiver 35 = .ok (.iconst 1, 1) := by decide +kernel
theorem dX2_raftsOnRiver_36 : decode cX2_raftsOnRiver 36 = .ok (.if_icmp .ne 6, 3) := by decide +kernel
theorem dX2_raftsOnRiver_39 : decode cX2_raftsOnRiver 39 = .ok (.iinc 1 1, 3) := by decide +kernel
theorem dX2_raftsOnRiver_42 : decode cX2_raftsOnRiver 42 = .ok (.iinc 4 1, 3) := by decide +kernel
theorem dX2_raftsOnRiver_45 : decode cX2_raftsOnRiver 45 = .ok (.goto (-32), 3) := by decide +kernel
theorem dX2_raftsOnRiver_48 : decode cX2_raftsOnRiver 48 = .ok (.iload_n 1, 1) := by decide +kernel
theorem dX2_raftsOnRiver_49 : decode cX2_raftsOnRiver 49 = .ok (.ireturn, 1) := by decide +kernel
set_option maxRecDepth 20000 in
theorem ggX2_hasRoomToLaunch_X1_rear : GoodIn wsX2_hasRoomToLaunch wsX1_rear := goodIn_r _ [8, 9, 22, 23, 24, 25, 26, 27, 28] (by decide +kernel) (by decide +kernel)
set_option maxRecDepth 20000 in
theorem gX2_hasRoomToLaunch_X1_rear : GoodIn wsX2_hasRoomToLaunch (wsV RX2 202 RX1 yX1_rear wsX1_rear) := goodIn_app (goodIn_of _ (by decide +kernel)) ggX2_hasRoomToLaunch_X1_rear
theorem dX2_hasRoomToLaunch_0 : decode cX2_hasRoomToLaunch 0 = .ok (.aconst_null, 1) := by decide +kernel
theorem dX2_hasRoomToLaunch_1 : decode cX2_hasRoomToLaunch 1 = .ok (.astore_n 1, 1) := by decide +kernel
theorem dX2_hasRoomToLaunch_2 : decode cX2_hasRoomToLaunch 2 = .ok (.aload_n 0, 1) := by decide +kernel
theorem dX2_hasRoomToLaunch_3 : decode cX2_hasRoomToLaunch 3 = .ok (.getfield 21, 3) := by decide +kernel
theorem dX2_hasRoomToLaunch_6 : decode cX2_hasRoomToLaunch 6 = .ok (.astore_n 2, 1) := by decide +kernel
theorem dX2_hasRoomToLaunch_7 : decode cX2_hasRoomToLaunch 7 = .ok (.aload_n 2, 1) := by decide +kernel
theorem dX2_hasRoomToLaunch_8 : decode cX2_hasRoomToLaunch 8 = .ok (.arraylength, 1) := by decide +kernel
theorem dX2_hasRoomToLaunch_9 : decode cX2_hasRoomToLaunch 9 = .ok (.istore_n 3, 1) := by decide +kernel
theorem dX2_hasRoomToLaunch_10 : decode cX2_hasRoomToLaunch 10 = .ok (.iconst 0, 1) := by decide +kernel
