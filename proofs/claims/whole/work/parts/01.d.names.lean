theorem dX2_nearestAhead_34 : decode cX2_nearestAhead 34 = .ok (.aload 5, 2) := by decide +kernel
theorem dX2_nearestAhead_36 : decode cX2_nearestAhead 36 = .ok (.ifnull 10, 3) := by decide +kernel
theorem dX2_nearestAhead_39 : decode cX2_nearestAhead 39 = .ok (.aload 5, 2) := by decide +kernel
theorem dX2_nearestAhead_41 : decode cX2_nearestAhead 41 = .ok (.aload_n 1, 1) := by decide +kernel
theorem dX2_nearestAhead_42 : decode cX2_nearestAhead 42 = .ok (.invokevirtual 174, 3) := by decide +kernel
theorem dX2_nearestAhead_45 : decode cX2_nearestAhead 45 = .ok (.istore_n 3, 1) := by decide +kernel
theorem dX2_nearestAhead_46 : decode cX2_nearestAhead 46 = .ok (.iinc 4 (-1), 3) := by decide +kernel
theorem dX2_nearestAhead_49 : decode cX2_nearestAhead 49 = .ok (.goto (-34), 3) := by decide +kernel
theorem dX2_nearestAhead_52 : decode cX2_nearestAhead 52 = .ok (.iload_n 3, 1) := by decide +kernel
theorem dX2_nearestAhead_53 : decode cX2_nearestAhead 53 = .ok (.ireturn, 1) := by decide +kernel
set_option maxRecDepth 20000 in
theorem ggX2_nearestBehind_X1_nearestLit : GoodIn wsX2_nearestBehind wsX1_nearestLit := goodIn_r _ [10, 11, 12, 13, 14, 15, 16, 17, 18, 19, 20, 21, 22, 23, 24, 25, 26, 27, 28, 1, 2, 3, 4, 29, 30, 31, 44, 45, 46, 47, 48, 49, 50, 51, 52, 53, 54, 55, 56, 57] (by decide +kernel) (by decide +kernel)
set_option maxRecDepth 20000 in
theorem gX2_nearestBehind_X1_nearestLit : GoodIn wsX2_nearestBehind (wsV RX2 174 RX1 yX1_nearestLit wsX1_nearestLit) := goodIn_app (goodIn_of _ (by decide +kernel)) ggX2_nearestBehind_X1_nearestLit
theorem dX2_nearestBehind_0 : decode cX2_nearestBehind 0 = .ok (.iconst (-1), 1) := by decide +kernel
theorem dX2_nearestBehind_1 : decode cX2_nearestBehind 1 = .ok (.istore_n 3, 1) := by decide +kernel
theorem dX2_nearestBehind_2 : decode cX2_nearestBehind 2 = .ok (.iload_n 2, 1) := by decide +kernel
theorem dX2_nearestBehind_3 : decode cX2_nearestBehind 3 = .ok (.iconst 0, 1) := by decide +kernel
theorem dX2_nearestBehind_4 : decode cX2_nearestBehind 4 = .ok (.invokestatic 245, 3) := by decide +kernel
theorem dX2_nearestBehind_7 : decode cX2_nearestBehind 7 = .ok (.iconst 1, 1) := by decide +kernel
theorem dX2_nearestBehind_8 : decode cX2_nearestBehind 8 = .ok (.iadd, 1) := by decide +kernel
theorem dX2_nearestBehind_9 : decode cX2_nearestBehind 9 = .ok (.istore 4, 2) := by decide +kernel
theorem dX2_nearestBehind_11 : decode cX2_nearestBehind 11 = .ok (.iload 4, 2) := by decide +kernel
theorem dX2_nearestBehind_13 : decode cX2_nearestBehind 13 = .ok (.aload_n 0, 1) := by decide +kernel
theorem dX2_nearestBehind_14 : decode cX2_nearestBehind 14 = .ok (.getfield 21, 3) := by decide +kernel
theorem dX2_nearestBehind_17 : decode cX2_nearestBehind 17 = .ok (.arraylength, 1) := by decide +kernel
theorem dX2_nearestBehind_18 : decode cX2_nearestBehind 18 = .ok (.if_icmp .ge 35, 3) := by decide +kernel
theorem dX2_nearestBehind_21 : decode cX2_nearestBehind 21 = .ok (.iload_n 3, 1) := by decide +kernel
theorem dX2_nearestBehind_22 : decode cX2_nearestBehind 22 = .ok (.iconst (-1), 1) := by decide +kernel
theorem dX2_nearestBehind_23 : decode cX2_nearestBehind 23 = .ok (.if_icmp .ne 30, 3) := by decide +kernel
theorem dX2_nearestBehind_26 : decode cX2_nearestBehind 26 = .ok (.aload_n 0, 1) := by decide +kernel
theorem dX2_nearestBehind_27 : decode cX2_nearestBehind 27 = .ok (.getfield 21, 3) := by decide +kernel
theorem dX2_nearestBehind_30 : decode cX2_nearestBehind 30 = .ok (.iload 4, 2) := by decide +kernel
theorem dX2_nearestBehind_32 : decode cX2_nearestBehind 32 = .ok (.aaload, 1) := by decide +kernel
theorem dX2_nearestBehind_33 : decode cX2_nearestBehind 33 = .ok (.astore 5, 2) := by decide +kernel
theorem dX2_nearestBehind_35 : decode cX2_nearestBehind 35 = .ok (.aload 5, 2) := by decide +kernel
theorem dX2_nearestBehind_37 : decode cX2_nearestBehind 37 = .ok (.ifnull 10, 3) := by decide +kernel
theorem dX2_nearestBehind_40 : decode cX2_nearestBehind 40 = .ok (.aload 5, 2) := by decide +kernel
theorem dX2_nearestBehind_42 : decode cX2_nearestBehind 42 = .ok (.aload_n 1, 1) := by decide +kernel
theorem dX2_nearestBehind_43 : decode cX2_nearestBehind 43 = .ok (.invokevirtual 174, 3) := by decide +kernel
theorem dX2_nearestBehind_46 : decode cX2_nearestBehind 46 = .ok (.istore_n 3, 1) := by decide +kernel
theorem dX2_nearestBehind_47 : decode cX2_nearestBehind 47 = .ok (.iinc 4 1, 3) := by decide +kernel
theorem dX2_nearestBehind_50 : decode cX2_nearestBehind 50 = .ok (.goto (-39), 3) := by decide +kernel
theorem dX2_nearestBehind_53 : decode cX2_nearestBehind 53 = .ok (.iload_n 3, 1) := by decide +kernel
theorem dX2_nearestBehind_54 : decode cX2_nearestBehind 54 = .ok (.ireturn, 1) := by decide +kernel
theorem dX2_nearer_0 : decode cX2_nearer 0 = .ok (.iload_n 0, 1) := by decide +kernel
theorem dX2_nearer_1 : decode cX2_nearer 1 = .ok (.iconst (-1), 1) := by decide +kernel
theorem dX2_nearer_2 : decode cX2_nearer 2 = .ok (.if_icmp .eq 8, 3) := by decide +kernel
theorem dX2_nearer_5 : decode cX2_nearer 5 = .ok (.iload_n 1, 1) := by decide +kernel
theorem dX2_nearer_6 : decode cX2_nearer 6 = .ok (.iconst (-1), 1) := by decide +kernel
theorem dX2_nearer_7 : decode cX2_nearer 7 = .ok (.if_icmp .ne 9, 3) := by decide +kernel
theorem dX2_nearer_10 : decode cX2_nearer 10 = .ok (.iload_n 0, 1) := by decide +kernel
theorem dX2_nearer_11 : decode cX2_nearer 11 = .ok (.iload_n 1, 1) := by decide +kernel
theorem dX2_nearer_12 : decode cX2_nearer 12 = .ok (.invokestatic 245, 3) := by decide +kernel
theorem dX2_nearer_15 : decode cX2_nearer 15 = .ok (.ireturn, 1) := by decide +kernel
theorem dX2_nearer_16 : decode cX2_nearer 16 = .ok (.iload_n 0, 1) := by decide +kernel
theorem dX2_nearer_17 : decode cX2_nearer 17 = .ok (.iload_n 1, 1) := by decide +kernel
theorem dX2_nearer_18 : decode cX2_nearer 18 = .ok (.invokestatic 240, 3) := by decide +kernel
theorem dX2_nearer_21 : decode cX2_nearer 21 = .ok (.ireturn, 1) := by decide +kernel
theorem dX3_init_0 : decode cX3_init 0 = .ok (.aload_n 0, 1) := by decide +kernel
theorem dX3_init_1 : decode cX3_init 1 = .ok (.invokespecial 1, 3) := by decide +kernel
theorem dX3_init_4 : decode cX3_init 4 = .ok (.aload_n 0, 1) := by decide +kernel
theorem dX3_init_5 : decode cX3_init 5 = .ok (.bipush 24, 2) := by decide +kernel
theorem dX3_init_7 : decode cX3_init 7 = .ok (.newarray .int, 2) := by decide +kernel
theorem dX3_init_9 : decode cX3_init 9 = .ok (.putfield 7, 3) := by decide +kernel
theorem dX3_init_12 : decode cX3_init 12 = .ok (.aload_n 0, 1) := by decide +kernel
theorem dX3_init_13 : decode cX3_init 13 = .ok (.bipush 24, 2) := by decide +kernel
theorem dX3_init_15 : decode cX3_init 15 = .ok (.newarray .int, 2) := by decide +kernel
theorem dX3_init_17 : decode cX3_init 17 = .ok (.putfield 13, 3) := by decide +kernel
theorem dX3_init_20 : decode cX3_init 20 = .ok (.aload_n 0, 1) := by decide +kernel
theorem dX3_init_21 : decode cX3_init 21 = .ok (.bipush 24, 2) := by decide +kernel
theorem dX3_init_23 : decode cX3_init 23 = .ok (.newarray .int, 2) := by decide +kernel
theorem dX3_init_25 : decode cX3_init 25 = .ok (.putfield 16, 3) := by decide +kernel
theorem dX3_init_28 : decode cX3_init 28 = .ok (.aload_n 0, 1) := by decide +kernel
theorem dX3_init_29 : decode cX3_init 29 = .ok (.bipush 24, 2) := by decide +kernel
theorem dX3_init_31 : decode cX3_init 31 = .ok (.newarray .int, 2) := by decide +kernel
theorem dX3_init_33 : decode cX3_init 33 = .ok (.putfield 19, 3) := by decide +kernel
theorem dX3_init_36 : decode cX3_init 36 = .ok (.aload_n 0, 1) := by decide +kernel
theorem dX3_init_37 : decode cX3_init 37 = .ok (.bipush 24, 2) := by decide +kernel
theorem dX3_init_39 : decode cX3_init 39 = .ok (.newarray .int, 2) := by decide +kernel
theorem dX3_init_41 : decode cX3_init 41 = .ok (.putfield 22, 3) := by decide +kernel
theorem dX3_init_44 : decode cX3_init 44 = .ok (.aload_n 0, 1) := by decide +kernel
theorem dX3_init_45 : decode cX3_init 45 = .ok (.bipush 24, 2) := by decide +kernel
theorem dX3_init_47 : decode cX3_init 47 = .ok (.newarray .int, 2) := by decide +kernel
theorem dX3_init_49 : decode cX3_init 49 = .ok (.putfield 25, 3) := by decide +kernel
theorem dX3_init_52 : decode cX3_init 52 = .ok (.aload_n 0, 1) := by decide +kernel
theorem dX3_init_53 : decode cX3_init 53 = .ok (.bipush 24, 2) := by decide +kernel
theorem dX3_init_55 : decode cX3_init 55 = .ok (.newarray .int, 2) := by decide +kernel
theorem dX3_init_57 : decode cX3_init 57 = .ok (.putfield 28, 3) := by decide +kernel
theorem dX3_init_60 : decode cX3_init 60 = .ok (.aload_n 0, 1) := by decide +kernel
theorem dX3_init_61 : decode cX3_init 61 = .ok (.bipush 8, 2) := by decide +kernel
theorem dX3_init_63 : decode cX3_init 63 = .ok (.newarray .int, 2) := by decide +kernel
theorem dX3_init_65 : decode cX3_init 65 = .ok (.putfield 31, 3) := by decide +kernel
theorem dX3_init_68 : decode cX3_init 68 = .ok (.aload_n 0, 1) := by decide +kernel
theorem dX3_init_69 : decode cX3_init 69 = .ok (.bipush 8, 2) := by decide +kernel
theorem dX3_init_71 : decode cX3_init 71 = .ok (.newarray .int, 2) := by decide +kernel
theorem dX3_init_73 : decode cX3_init 73 = .ok (.putfield 34, 3) := by decide +kernel
theorem dX3_init_76 : decode cX3_init 76 = .ok (.aload_n 0, 1) := by decide +kernel
theorem dX3_init_77 : decode cX3_init 77 = .ok (.bipush 8, 2) := by decide +kernel
theorem dX3_init_79 : decode cX3_init 79 = .ok (.newarray .int, 2) := by decide +kernel
theorem dX3_init_81 : decode cX3_init 81 = .ok (.putfield 37, 3) := by decide +kernel
theorem dX3_init_84 : decode cX3_init 84 = .ok (.aload_n 0, 1) := by decide +kernel
theorem dX3_init_85 : decode cX3_init 85 = .ok (.bipush 8, 2) := by decide +kernel
theorem dX3_init_87 : decode cX3_init 87 = .ok (.newarray .int, 2) := by decide +kernel
theorem dX3_init_89 : decode cX3_init 89 = .ok (.putfield 40, 3) := by decide +kernel
theorem dX3_init_92 : decode cX3_init 92 = .ok (.aload_n 0, 1) := by decide +kernel
theorem dX3_init_93 : decode cX3_init 93 = .ok (.bipush 8, 2) := by decide +kernel
theorem dX3_init_95 : decode cX3_init 95 = .ok (.newarray .int, 2) := by decide +kernel
theorem dX3_init_97 : decode cX3_init 97 = .ok (.putfield 43, 3) := by decide +kernel
theorem dX3_init_100 : decode cX3_init 100 = .ok (.aload_n 0, 1) := by decide +kernel
theorem dX3_init_101 : decode cX3_init 101 = .ok (.iconst 2, 1) := by decide +kernel
theorem dX3_init_102 : decode cX3_init 102 = .ok (.putfield 46, 3) := by decide +kernel
theorem dX3_init_105 : decode cX3_init 105 = .ok (.aload_n 0, 1) := by decide +kernel
theorem dX3_init_106 : decode cX3_init 106 = .ok (.sipush 401, 3) := by decide +kernel
theorem dX3_init_109 : decode cX3_init 109 = .ok (.newarray .int, 2) := by decide +kernel
theorem dX3_init_111 : decode cX3_init 111 = .ok (.putfield 50, 3) := by decide +kernel
theorem dX3_init_114 : decode cX3_init 114 = .ok (.return_, 1) := by decide +kernel
theorem dX3_thrown_0 : decode cX3_thrown 0 = .ok (.aload_n 0, 1) := by decide +kernel
theorem dX3_thrown_1 : decode cX3_thrown 1 = .ok (.getfield 53, 3) := by decide +kernel
theorem dX3_thrown_4 : decode cX3_thrown 4 = .ok (.ireturn, 1) := by decide +kernel
theorem dX3_in_0 : decode cX3_in 0 = .ok (.iload_n 0, 1) := by decide +kernel
theorem dX3_in_1 : decode cX3_in 1 = .ok (.iload_n 1, 1) := by decide +kernel
theorem dX3_in_2 : decode cX3_in 2 = .ok (.if_icmp .lt 12, 3) := by decide +kernel
theorem dX3_in_5 : decode cX3_in 5 = .ok (.iload_n 0, 1) := by decide +kernel
theorem dX3_in_6 : decode cX3_in 6 = .ok (.iload_n 2, 1) := by decide +kernel
theorem dX3_in_7 : decode cX3_in 7 = .ok (.if_icmp .gt 7, 3) := by decide +kernel
theorem dX3_in_10 : decode cX3_in 10 = .ok (.iconst 1, 1) := by decide +kernel
theorem dX3_in_11 : decode cX3_in 11 = .ok (.goto 4, 3) := by decide +kernel
theorem dX3_in_14 : decode cX3_in 14 = .ok (.iconst 0, 1) := by decide +kernel
theorem dX3_in_15 : decode cX3_in 15 = .ok (.ireturn, 1) := by decide +kernel
theorem dX3_goes_0 : decode cX3_goes 0 = .ok (.aload_n 0, 1) := by decide +kernel
theorem dX3_goes_1 : decode cX3_goes 1 = .ok (.iload_n 1, 1) := by decide +kernel
theorem dX3_goes_2 : decode cX3_goes 2 = .ok (.ifCond .ne 7, 3) := by decide +kernel
theorem dX3_goes_5 : decode cX3_goes 5 = .ok (.iconst 1, 1) := by decide +kernel
theorem dX3_goes_6 : decode cX3_goes 6 = .ok (.goto 20, 3) := by decide +kernel
theorem dX3_goes_9 : decode cX3_goes 9 = .ok (.iload_n 2, 1) := by decide +kernel
theorem dX3_goes_10 : decode cX3_goes 10 = .ok (.ifCond .ne 7, 3) := by decide +kernel
theorem dX3_goes_13 : decode cX3_goes 13 = .ok (.iconst 2, 1) := by decide +kernel
theorem dX3_goes_14 : decode cX3_goes 14 = .ok (.goto 12, 3) := by decide +kernel
theorem dX3_goes_17 : decode cX3_goes 17 = .ok (.iload_n 3, 1) := by decide +kernel
theorem dX3_goes_18 : decode cX3_goes 18 = .ok (.ifCond .eq 7, 3) := by decide +kernel
theorem dX3_goes_21 : decode cX3_goes 21 = .ok (.iconst 0, 1) := by decide +kernel
theorem dX3_goes_22 : decode cX3_goes 22 = .ok (.goto 4, 3) := by decide +kernel
theorem dX3_goes_25 : decode cX3_goes 25 = .ok (.iconst 3, 1) := by decide +kernel
theorem dX3_goes_26 : decode cX3_goes 26 = .ok (.putfield 53, 3) := by decide +kernel
theorem dX3_goes_29 : decode cX3_goes 29 = .ok (.aload_n 0, 1) := by decide +kernel
theorem dX3_goes_30 : decode cX3_goes 30 = .ok (.getfield 53, 3) := by decide +kernel
theorem dX3_goes_33 : decode cX3_goes 33 = .ok (.ifCond .ne 7, 3) := by decide +kernel
theorem dX3_goes_36 : decode cX3_goes 36 = .ok (.iconst 1, 1) := by decide +kernel
theorem dX3_goes_37 : decode cX3_goes 37 = .ok (.goto 4, 3) := by decide +kernel
theorem dX3_goes_40 : decode cX3_goes 40 = .ok (.iconst 0, 1) := by decide +kernel
theorem dX3_goes_41 : decode cX3_goes 41 = .ok (.ireturn, 1) := by decide +kernel
set_option maxRecDepth 20000 in
theorem ggX3_isLantern_X3_in : GoodIn wsX3_isLantern wsX3_in := goodIn_r _ [5] (by decide +kernel) (by decide +kernel)
set_option maxRecDepth 20000 in
theorem gX3_isLantern_X3_in : GoodIn wsX3_isLantern (va_wsS RX3 59 yX3_in wsX3_in) := goodIn_app (goodIn_of _ (by decide +kernel)) ggX3_isLantern_X3_in
theorem dX3_isLantern_0 : decode cX3_isLantern 0 = .ok (.iload_n 1, 1) := by decide +kernel
theorem dX3_isLantern_1 : decode cX3_isLantern 1 = .ok (.iconst 0, 1) := by decide +kernel
theorem dX3_isLantern_2 : decode cX3_isLantern 2 = .ok (.aload_n 0, 1) := by decide +kernel
theorem dX3_isLantern_3 : decode cX3_isLantern 3 = .ok (.getfield 56, 3) := by decide +kernel
theorem dX3_isLantern_6 : decode cX3_isLantern 6 = .ok (.iconst 1, 1) := by decide +kernel
theorem dX3_isLantern_7 : decode cX3_isLantern 7 = .ok (.isub, 1) := by decide +kernel
theorem dX3_isLantern_8 : decode cX3_isLantern 8 = .ok (.invokestatic 59, 3) := by decide +kernel
theorem dX3_isLantern_11 : decode cX3_isLantern 11 = .ok (.ireturn, 1) := by decide +kernel
set_option maxRecDepth 20000 in
theorem ggX3_isFloat_X3_in : GoodIn wsX3_isFloat wsX3_in := goodIn_r _ [5] (by decide +kernel) (by decide +kernel)
set_option maxRecDepth 20000 in
theorem gX3_isFloat_X3_in : GoodIn wsX3_isFloat (va_wsS RX3 59 yX3_in wsX3_in) := goodIn_app (goodIn_of _ (by decide +kernel)) ggX3_isFloat_X3_in
theorem dX3_isFloat_0 : decode cX3_isFloat 0 = .ok (.iload_n 1, 1) := by decide +kernel
theorem dX3_isFloat_1 : decode cX3_isFloat 1 = .ok (.iconst 0, 1) := by decide +kernel
theorem dX3_isFloat_2 : decode cX3_isFloat 2 = .ok (.aload_n 0, 1) := by decide +kernel
theorem dX3_isFloat_3 : decode cX3_isFloat 3 = .ok (.getfield 63, 3) := by decide +kernel
theorem dX3_isFloat_6 : decode cX3_isFloat 6 = .ok (.iconst 1, 1) := by decide +kernel
theorem dX3_isFloat_7 : decode cX3_isFloat 7 = .ok (.isub, 1) := by decide +kernel
theorem dX3_isFloat_8 : decode cX3_isFloat 8 = .ok (.invokestatic 59, 3) := by decide +kernel
theorem dX3_isFloat_11 : decode cX3_isFloat 11 = .ok (.ireturn, 1) := by decide +kernel
set_option maxRecDepth 20000 in
theorem ggX3_make_X3_in : GoodIn wsX3_make wsX3_in := goodIn_r _ [10] (by decide +kernel) (by decide +kernel)
set_option maxRecDepth 20000 in
theorem gX3_make_X3_in : GoodIn wsX3_make (va_wsS RX3 59 yX3_in wsX3_in) := goodIn_app (goodIn_of _ (by decide +kernel)) ggX3_make_X3_in
set_option maxRecDepth 20000 in
theorem ggX3_make_X3_goes : GoodIn wsX3_make wsX3_goes := goodIn_r _ [14, 15, 16, 17, 18, 19, 20, 21, 22, 23, 24, 25, 26, 27, 28, 29, 30, 31, 32, 33, 34, 35, 36, 37] (by decide +kernel) (by decide +kernel)
set_option maxRecDepth 20000 in
theorem gX3_make_X3_goes : GoodIn wsX3_make (wsV RX3 66 RX3 yX3_goes wsX3_goes) := goodIn_app (goodIn_of _ (by decide +kernel)) ggX3_make_X3_goes
theorem dX3_make_0 : decode cX3_make 0 = .ok (.aload_n 0, 1) := by decide +kernel
theorem dX3_make_1 : decode cX3_make 1 = .ok (.iload_n 1, 1) := by decide +kernel
theorem dX3_make_2 : decode cX3_make 2 = .ok (.iconst 4, 1) := by decide +kernel
theorem dX3_make_3 : decode cX3_make 3 = .ok (.bipush 12, 2) := by decide +kernel
theorem dX3_make_5 : decode cX3_make 5 = .ok (.invokestatic 59, 3) := by decide +kernel
theorem dX3_make_8 : decode cX3_make 8 = .ok (.ifCond .eq 25, 3) := by decide +kernel
theorem dX3_make_11 : decode cX3_make 11 = .ok (.iload_n 2, 1) := by decide +kernel
theorem dX3_make_12 : decode cX3_make 12 = .ok (.iconst 0, 1) := by decide +kernel
theorem dX3_make_13 : decode cX3_make 13 = .ok (.iconst 3, 1) := by decide +kernel
theorem dX3_make_14 : decode cX3_make 14 = .ok (.invokestatic 59, 3) := by decide +kernel
theorem dX3_make_17 : decode cX3_make 17 = .ok (.ifCond .eq 16, 3) := by decide +kernel
theorem dX3_make_20 : decode cX3_make 20 = .ok (.iload_n 3, 1) := by decide +kernel
theorem dX3_make_21 : decode cX3_make 21 = .ok (.iconst 1, 1) := by decide +kernel
theorem dX3_make_22 : decode cX3_make 22 = .ok (.iconst 4, 1) := by decide +kernel
theorem dX3_make_23 : decode cX3_make 23 = .ok (.invokestatic 59, 3) := by decide +kernel
theorem dX3_make_26 : decode cX3_make 26 = .ok (.ifCond .eq 7, 3) := by decide +kernel
theorem dX3_make_29 : decode cX3_make 29 = .ok (.iconst 1, 1) := by decide +kernel
theorem dX3_make_30 : decode cX3_make 30 = .ok (.goto 4, 3) := by decide +kernel
theorem dX3_make_33 : decode cX3_make 33 = .ok (.iconst 0, 1) := by decide +kernel
theorem dX3_make_34 : decode cX3_make 34 = .ok (.aload_n 0, 1) := by decide +kernel
theorem dX3_make_35 : decode cX3_make 35 = .ok (.getfield 56, 3) := by decide +kernel
theorem dX3_make_38 : decode cX3_make 38 = .ok (.bipush 24, 2) := by decide +kernel
theorem dX3_make_40 : decode cX3_make 40 = .ok (.if_icmp .ge 7, 3) := by decide +kernel
theorem dX3_make_43 : decode cX3_make 43 = .ok (.iconst 1, 1) := by decide +kernel
theorem dX3_make_44 : decode cX3_make 44 = .ok (.goto 4, 3) := by decide +kernel
theorem dX3_make_47 : decode cX3_make 47 = .ok (.iconst 0, 1) := by decide +kernel
theorem dX3_make_48 : decode cX3_make 48 = .ok (.iconst 1, 1) := by decide +kernel
theorem dX3_make_49 : decode cX3_make 49 = .ok (.invokevirtual 66, 3) := by decide +kernel
theorem dX3_make_52 : decode cX3_make 52 = .ok (.ifCond .ne 5, 3) := by decide +kernel
theorem dX3_make_55 : decode cX3_make 55 = .ok (.iconst 0, 1) := by decide +kernel
theorem dX3_make_56 : decode cX3_make 56 = .ok (.ireturn, 1) := by decide +kernel
theorem dX3_make_57 : decode cX3_make 57 = .ok (.aload_n 0, 1) := by decide +kernel
theorem dX3_make_58 : decode cX3_make 58 = .ok (.getfield 7, 3) := by decide +kernel
theorem dX3_make_61 : decode cX3_make 61 = .ok (.aload_n 0, 1) := by decide +kernel
theorem dX3_make_62 : decode cX3_make 62 = .ok (.getfield 56, 3) := by decide +kernel
theorem dX3_make_65 : decode cX3_make 65 = .ok (.iload_n 1, 1) := by decide +kernel
theorem dX3_make_66 : decode cX3_make 66 = .ok (.iastore, 1) := by decide +kernel
theorem dX3_make_67 : decode cX3_make 67 = .ok (.aload_n 0, 1) := by decide +kernel
theorem dX3_make_68 : decode cX3_make 68 = .ok (.getfield 13, 3) := by decide +kernel
theorem dX3_make_71 : decode cX3_make 71 = .ok (.aload_n 0, 1) := by decide +kernel
theorem dX3_make_72 : decode cX3_make 72 = .ok (.getfield 56, 3) := by decide +kernel
theorem dX3_make_75 : decode cX3_make 75 = .ok (.iload_n 2, 1) := by decide +kernel
theorem dX3_make_76 : decode cX3_make 76 = .ok (.iastore, 1) := by decide +kernel
theorem dX3_make_77 : decode cX3_make 77 = .ok (.aload_n 0, 1) := by decide +kernel
theorem dX3_make_78 : decode cX3_make 78 = .ok (.getfield 16, 3) := by decide +kernel
theorem dX3_make_81 : decode cX3_make 81 = .ok (.aload_n 0, 1) := by decide +kernel
theorem dX3_make_82 : decode cX3_make 82 = .ok (.getfield 56, 3) := by decide +kernel
theorem dX3_make_85 : decode cX3_make 85 = .ok (.iload_n 3, 1) := by decide +kernel
theorem dX3_make_86 : decode cX3_make 86 = .ok (.iastore, 1) := by decide +kernel
theorem dX3_make_87 : decode cX3_make 87 = .ok (.aload_n 0, 1) := by decide +kernel
theorem dX3_make_88 : decode cX3_make 88 = .ok (.getfield 22, 3) := by decide +kernel
theorem dX3_make_91 : decode cX3_make 91 = .ok (.aload_n 0, 1) := by decide +kernel
theorem dX3_make_92 : decode cX3_make 92 = .ok (.getfield 56, 3) := by decide +kernel
theorem dX3_make_95 : decode cX3_make 95 = .ok (.bipush 20, 2) := by decide +kernel
theorem dX3_make_97 : decode cX3_make 97 = .ok (.iload_n 3, 1) := by decide +kernel
theorem dX3_make_98 : decode cX3_make 98 = .ok (.imul, 1) := by decide +kernel
theorem dX3_make_99 : decode cX3_make 99 = .ok (.iastore, 1) := by decide +kernel
theorem dX3_make_100 : decode cX3_make 100 = .ok (.aload_n 0, 1) := by decide +kernel
theorem dX3_make_101 : decode cX3_make 101 = .ok (.getfield 25, 3) := by decide +kernel
theorem dX3_make_104 : decode cX3_make 104 = .ok (.aload_n 0, 1) := by decide +kernel
theorem dX3_make_105 : decode cX3_make 105 = .ok (.getfield 56, 3) := by decide +kernel
theorem dX3_make_108 : decode cX3_make 108 = .ok (.iconst (-1), 1) := by decide +kernel
theorem dX3_make_109 : decode cX3_make 109 = .ok (.iastore, 1) := by decide +kernel
theorem dX3_make_110 : decode cX3_make 110 = .ok (.aload_n 0, 1) := by decide +kernel
theorem dX3_make_111 : decode cX3_make 111 = .ok (.dup, 1) := by decide +kernel
theorem dX3_make_112 : decode cX3_make 112 = .ok (.getfield 56, 3) := by decide +kernel
theorem dX3_make_115 : decode cX3_make 115 = .ok (.iconst 1, 1) := by decide +kernel
theorem dX3_make_116 : decode cX3_make 116 = .ok (.iadd, 1) := by decide +kernel
theorem dX3_make_117 : decode cX3_make 117 = .ok (.putfield 56, 3) := by decide +kernel
theorem dX3_make_120 : decode cX3_make 120 = .ok (.aload_n 0, 1) := by decide +kernel
theorem dX3_make_121 : decode cX3_make 121 = .ok (.getfield 56, 3) := by decide +kernel
theorem dX3_make_124 : decode cX3_make 124 = .ok (.iconst 1, 1) := by decide +kernel
theorem dX3_make_125 : decode cX3_make 125 = .ok (.isub, 1) := by decide +kernel
theorem dX3_make_126 : decode cX3_make 126 = .ok (.ireturn, 1) := by decide +kernel
theorem dX3_weight_0 : decode cX3_weight 0 = .ok (.bipush 20, 2) := by decide +kernel
theorem dX3_weight_2 : decode cX3_weight 2 = .ok (.aload_n 0, 1) := by decide +kernel
theorem dX3_weight_3 : decode cX3_weight 3 = .ok (.getfield 7, 3) := by decide +kernel
theorem dX3_weight_6 : decode cX3_weight 6 = .ok (.iload_n 1, 1) := by decide +kernel
theorem dX3_weight_7 : decode cX3_weight 7 = .ok (.iaload, 1) := by decide +kernel
theorem dX3_weight_8 : decode cX3_weight 8 = .ok (.imul, 1) := by decide +kernel
theorem dX3_weight_9 : decode cX3_weight 9 = .ok (.bipush 30, 2) := by decide +kernel
theorem dX3_weight_11 : decode cX3_weight 11 = .ok (.aload_n 0, 1) := by decide +kernel
theorem dX3_weight_12 : decode cX3_weight 12 = .ok (.getfield 13, 3) := by decide +kernel
theorem dX3_weight_15 : decode cX3_weight 15 = .ok (.iload_n 1, 1) := by decide +kernel
theorem dX3_weight_16 : decode cX3_weight 16 = .ok (.iaload, 1) := by decide +kernel
theorem dX3_weight_17 : decode cX3_weight 17 = .ok (.imul, 1) := by decide +kernel
theorem dX3_weight_18 : decode cX3_weight 18 = .ok (.iadd, 1) := by decide +kernel
theorem dX3_weight_19 : decode cX3_weight 19 = .ok (.bipush 50, 2) := by decide +kernel
theorem dX3_weight_21 : decode cX3_weight 21 = .ok (.aload_n 0, 1) := by decide +kernel
theorem dX3_weight_22 : decode cX3_weight 22 = .ok (.getfield 16, 3) := by decide +kernel
theorem dX3_weight_25 : decode cX3_weight 25 = .ok (.iload_n 1, 1) := by decide +kernel
theorem dX3_weight_26 : decode cX3_weight 26 = .ok (.iaload, 1) := by decide +kernel
theorem dX3_weight_27 : decode cX3_weight 27 = .ok (.imul, 1) := by decide +kernel
theorem dX3_weight_28 : decode cX3_weight 28 = .ok (.iadd, 1) := by decide +kernel
theorem dX3_weight_29 : decode cX3_weight 29 = .ok (.ireturn, 1) := by decide +kernel
set_option maxRecDepth 20000 in
theorem ggX3_loadOf_X3_weight : GoodIn wsX3_loadOf wsX3_weight := goodIn_r _ [7, 8, 9, 10, 11, 12, 13, 14, 15, 16, 17, 18, 19, 20, 21, 22, 23, 24, 25, 26, 27, 28, 29, 30, 31, 32] (by decide +kernel) (by decide +kernel)
set_option maxRecDepth 20000 in
theorem gX3_loadOf_X3_weight : GoodIn wsX3_loadOf (wsV RX3 70 RX3 yX3_weight wsX3_weight) := goodIn_app (goodIn_of _ (by decide +kernel)) ggX3_loadOf_X3_weight
theorem dX3_loadOf_0 : decode cX3_loadOf 0 = .ok (.iconst 0, 1) := by decide +kernel
theorem dX3_loadOf_1 : decode cX3_loadOf 1 = .ok (.istore_n 2, 1) := by decide +kernel
theorem dX3_loadOf_2 : decode cX3_loadOf 2 = .ok (.iconst 0, 1) := by decide +kernel
theorem dX3_loadOf_3 : decode cX3_loadOf 3 = .ok (.istore_n 3, 1) := by decide +kernel
theorem dX3_loadOf_4 : decode cX3_loadOf 4 = .ok (.iload_n 3, 1) := by decide +kernel
theorem dX3_loadOf_5 : decode cX3_loadOf 5 = .ok (.aload_n 0, 1) := by decide +kernel
theorem dX3_loadOf_6 : decode cX3_loadOf 6 = .ok (.getfield 56, 3) := by decide +kernel
theorem dX3_loadOf_9 : decode cX3_loadOf 9 = .ok (.if_icmp .ge 31, 3) := by decide +kernel
theorem dX3_loadOf_12 : decode cX3_loadOf 12 = .ok (.iload_n 2, 1) := by decide +kernel
theorem dX3_loadOf_13 : decode cX3_loadOf 13 = .ok (.aload_n 0, 1) := by decide +kernel
theorem dX3_loadOf_14 : decode cX3_loadOf 14 = .ok (.getfield 25, 3) := by decide +kernel
theorem dX3_loadOf_17 : decode cX3_loadOf 17 = .ok (.iload_n 3, 1) := by decide +kernel
theorem dX3_loadOf_18 : decode cX3_loadOf 18 = .ok (.iaload, 1) := by decide +kernel
theorem dX3_loadOf_19 : decode cX3_loadOf 19 = .ok (.iload_n 1, 1) := by decide +kernel
theorem dX3_loadOf_20 : decode cX3_loadOf 20 = .ok (.if_icmp .ne 11, 3) := by decide +kernel
theorem dX3_loadOf_23 : decode cX3_loadOf 23 = .ok (.aload_n 0, 1) := by decide +kernel
theorem dX3_loadOf_24 : decode cX3_loadOf 24 = .ok (.iload_n 3, 1) := by decide +kernel
theorem dX3_loadOf_25 : decode cX3_loadOf 25 = .ok (.invokevirtual 70, 3) := by decide +kernel
theorem dX3_loadOf_28 : decode cX3_loadOf 28 = .ok (.goto 4, 3) := by decide +kernel
theorem dX3_loadOf_31 : decode cX3_loadOf 31 = .ok (.iconst 0, 1) := by decide +kernel
theorem dX3_loadOf_32 : decode cX3_loadOf 32 = .ok (.iadd, 1) := by decide +kernel
theorem dX3_loadOf_33 : decode cX3_loadOf 33 = .ok (.istore_n 2, 1) := by decide +kernel
theorem dX3_loadOf_34 : decode cX3_loadOf 34 = .ok (.iinc 3 1, 3) := by decide +kernel
theorem dX3_loadOf_37 : decode cX3_loadOf 37 = .ok (.goto (-33), 3) := by decide +kernel
theorem dX3_loadOf_40 : decode cX3_loadOf 40 = .ok (.iload_n 2, 1) := by decide +kernel
theorem dX3_loadOf_41 : decode cX3_loadOf 41 = .ok (.ireturn, 1) := by decide +kernel
theorem dX3_isTaken_0 : decode cX3_isTaken 0 = .ok (.iconst 0, 1) := by decide +kernel
theorem dX3_isTaken_1 : decode cX3_isTaken 1 = .ok (.istore_n 3, 1) := by decide +kernel
theorem dX3_isTaken_2 : decode cX3_isTaken 2 = .ok (.iconst 0, 1) := by decide +kernel
theorem dX3_isTaken_3 : decode cX3_isTaken 3 = .ok (.istore 4, 2) := by decide +kernel
theorem dX3_isTaken_5 : decode cX3_isTaken 5 = .ok (.iload 4, 2) := by decide +kernel
theorem dX3_isTaken_7 : decode cX3_isTaken 7 = .ok (.aload_n 0, 1) := by decide +kernel
theorem dX3_isTaken_8 : decode cX3_isTaken 8 = .ok (.getfield 56, 3) := by decide +kernel
theorem dX3_isTaken_11 : decode cX3_isTaken 11 = .ok (.if_icmp .ge 41, 3) := by decide +kernel
theorem dX3_isTaken_14 : decode cX3_isTaken 14 = .ok (.iload_n 3, 1) := by decide +kernel
theorem dX3_isTaken_15 : decode cX3_isTaken 15 = .ok (.ifCond .ne 25, 3) := by decide +kernel
theorem dX3_isTaken_18 : decode cX3_isTaken 18 = .ok (.aload_n 0, 1) := by decide +kernel
theorem dX3_isTaken_19 : decode cX3_isTaken 19 = .ok (.getfield 25, 3) := by decide +kernel
theorem dX3_isTaken_22 : decode cX3_isTaken 22 = .ok (.iload 4, 2) := by decide +kernel
theorem dX3_isTaken_24 : decode cX3_isTaken 24 = .ok (.iaload, 1) := by decide +kernel
theorem dX3_isTaken_25 : decode cX3_isTaken 25 = .ok (.iload_n 1, 1) := by decide +kernel
theorem dX3_isTaken_26 : decode cX3_isTaken 26 = .ok (.if_icmp .ne 18, 3) := by decide +kernel
theorem dX3_isTaken_29 : decode cX3_isTaken 29 = .ok (.aload_n 0, 1) := by decide +kernel
theorem dX3_isTaken_30 : decode cX3_isTaken 30 = .ok (.getfield 28, 3) := by decide +kernel
theorem dX3_isTaken_33 : decode cX3_isTaken 33 = .ok (.iload 4, 2) := by decide +kernel
theorem dX3_isTaken_35 : decode cX3_isTaken 35 = .ok (.iaload, 1) := by decide +kernel
theorem dX3_isTaken_36 : decode cX3_isTaken 36 = .ok (.iload_n 2, 1) := by decide +kernel
theorem dX3_isTaken_37 : decode cX3_isTaken 37 = .ok (.if_icmp .ne 7, 3) := by decide +kernel
theorem dX3_isTaken_40 : decode cX3_isTaken 40 = .ok (.iconst 1, 1) := by decide +kernel
theorem dX3_isTaken_41 : decode cX3_isTaken 41 = .ok (.goto 4, 3) := by decide +kernel
theorem dX3_isTaken_44 : decode cX3_isTaken 44 = .ok (.iconst 0, 1) := by decide +kernel
theorem dX3_isTaken_45 : decode cX3_isTaken 45 = .ok (.istore_n 3, 1) := by decide +kernel
theorem dX3_isTaken_46 : decode cX3_isTaken 46 = .ok (.iinc 4 1, 3) := by decide +kernel
theorem dX3_isTaken_49 : decode cX3_isTaken 49 = .ok (.goto (-44), 3) := by decide +kernel
theorem dX3_isTaken_52 : decode cX3_isTaken 52 = .ok (.iload_n 3, 1) := by decide +kernel
theorem dX3_isTaken_53 : decode cX3_isTaken 53 = .ok (.ireturn, 1) := by decide +kernel
set_option maxRecDepth 20000 in
theorem ggX3_hang_X3_isLantern : GoodIn wsX3_hang wsX3_isLantern := goodIn_r _ [9, 10, 11, 12, 8, 13, 39, 40, 41, 42, 43, 44, 45, 46, 47, 48, 49, 50, 51, 52, 53, 54, 55, 56, 57, 58, 59, 60] (by decide +kernel) (by decide +kernel)
set_option maxRecDepth 20000 in
theorem gX3_hang_X3_isLantern : GoodIn wsX3_hang (wsV RX3 74 RX3 yX3_isLantern wsX3_isLantern) := goodIn_app (goodIn_of _ (by decide +kernel)) ggX3_hang_X3_isLantern
set_option maxRecDepth 20000 in
theorem ggX3_hang_X3_isFloat : GoodIn wsX3_hang wsX3_isFloat := goodIn_r _ [17, 18, 11, 12, 8, 13, 39, 40, 41, 42, 43, 44, 45, 46, 47, 48, 49, 50, 51, 52, 53, 54, 55, 56, 57, 58, 59, 60] (by decide +kernel) (by decide +kernel)
set_option maxRecDepth 20000 in
theorem gX3_hang_X3_isFloat : GoodIn wsX3_hang (wsV RX3 78 RX3 yX3_isFloat wsX3_isFloat) := goodIn_app (goodIn_of _ (by decide +kernel)) ggX3_hang_X3_isFloat
set_option maxRecDepth 20000 in
theorem ggX3_hang_X3_in : GoodIn wsX3_hang wsX3_in := goodIn_r _ [13] (by decide +kernel) (by decide +kernel)
set_option maxRecDepth 20000 in
theorem gX3_hang_X3_in : GoodIn wsX3_hang (va_wsS RX3 59 yX3_in wsX3_in) := goodIn_app (goodIn_of _ (by decide +kernel)) ggX3_hang_X3_in
set_option maxRecDepth 20000 in
theorem ggX3_hang_X3_loadOf : GoodIn wsX3_hang wsX3_loadOf := goodIn_r _ [22, 10, 1, 23, 24, 25, 8, 26, 27, 28, 29, 39, 40, 41, 42, 43, 44, 45, 46, 47, 48, 49, 50, 51, 52, 53, 54, 55, 56, 57, 58, 59, 60] (by decide +kernel) (by decide +kernel)
set_option maxRecDepth 20000 in
theorem gX3_hang_X3_loadOf : GoodIn wsX3_hang (wsV RX3 81 RX3 yX3_loadOf wsX3_loadOf) := goodIn_app (goodIn_of _ (by decide +kernel)) ggX3_hang_X3_loadOf
set_option maxRecDepth 20000 in
theorem ggX3_hang_X3_weight : GoodIn wsX3_hang wsX3_weight := goodIn_r _ [26, 27, 28, 29, 39, 40, 41, 42, 43, 44, 45, 46, 47, 48, 49, 50, 51, 52, 53, 54, 55, 56, 57, 58, 59, 60] (by decide +kernel) (by decide +kernel)
set_option maxRecDepth 20000 in
theorem gX3_hang_X3_weight : GoodIn wsX3_hang (wsV RX3 70 RX3 yX3_weight wsX3_weight) := goodIn_app (goodIn_of _ (by decide +kernel)) ggX3_hang_X3_weight
set_option maxRecDepth 20000 in
theorem ggX3_hang_X3_isTaken : GoodIn wsX3_hang wsX3_isTaken := goodIn_r _ [33, 10, 1, 4, 39, 40, 41, 42, 43, 44, 45, 46, 47, 48, 49, 50, 51, 52, 53, 54, 55, 56, 57, 58, 59, 60] (by decide +kernel) (by decide +kernel)
set_option maxRecDepth 20000 in
theorem gX3_hang_X3_isTaken : GoodIn wsX3_hang (wsV RX3 84 RX3 yX3_isTaken wsX3_isTaken) := goodIn_app (goodIn_of _ (by decide +kernel)) ggX3_hang_X3_isTaken
set_option maxRecDepth 20000 in
theorem ggX3_hang_X3_goes : GoodIn wsX3_hang wsX3_goes := goodIn_r _ [37, 38, 39, 40, 41, 42, 43, 44, 45, 46, 47, 48, 49, 50, 51, 52, 53, 54, 55, 56, 57, 58, 59, 60] (by decide +kernel) (by decide +kernel)
set_option maxRecDepth 20000 in
theorem gX3_hang_X3_goes : GoodIn wsX3_hang (wsV RX3 66 RX3 yX3_goes wsX3_goes) := goodIn_app (goodIn_of _ (by decide +kernel)) ggX3_hang_X3_goes
theorem dX3_hang_0 : decode cX3_hang 0 = .ok (.aload_n 0, 1) := by decide +kernel
theorem dX3_hang_1 : decode cX3_hang 1 = .ok (.iload_n 1, 1) := by decide +kernel
theorem dX3_hang_2 : decode cX3_hang 2 = .ok (.invokevirtual 74, 3) := by decide +kernel
theorem dX3_hang_5 : decode cX3_hang 5 = .ok (.ifCond .eq 25, 3) := by decide +kernel
theorem dX3_hang_8 : decode cX3_hang 8 = .ok (.aload_n 0, 1) := by decide +kernel
theorem dX3_hang_9 : decode cX3_hang 9 = .ok (.iload_n 2, 1) := by decide +kernel
theorem dX3_hang_10 : decode cX3_hang 10 = .ok (.invokevirtual 78, 3) := by decide +kernel
theorem dX3_hang_13 : decode cX3_hang 13 = .ok (.ifCond .eq 17, 3) := by decide +kernel
theorem dX3_hang_16 : decode cX3_hang 16 = .ok (.iload_n 3, 1) := by decide +kernel
theorem dX3_hang_17 : decode cX3_hang 17 = .ok (.iconst 0, 1) := by decide +kernel
theorem dX3_hang_18 : decode cX3_hang 18 = .ok (.bipush 9, 2) := by decide +kernel
theorem dX3_hang_20 : decode cX3_hang 20 = .ok (.invokestatic 59, 3) := by decide +kernel
theorem dX3_hang_23 : decode cX3_hang 23 = .ok (.ifCond .eq 7, 3) := by decide +kernel
theorem dX3_hang_26 : decode cX3_hang 26 = .ok (.iconst 1, 1) := by decide +kernel
theorem dX3_hang_27 : decode cX3_hang 27 = .ok (.goto 4, 3) := by decide +kernel
theorem dX3_hang_30 : decode cX3_hang 30 = .ok (.iconst 0, 1) := by decide +kernel
theorem dX3_hang_31 : decode cX3_hang 31 = .ok (.istore 4, 2) := by decide +kernel
theorem dX3_hang_33 : decode cX3_hang 33 = .ok (.iload 4, 2) := by decide +kernel
theorem dX3_hang_35 : decode cX3_hang 35 = .ok (.ifCond .eq 47, 3) := by decide +kernel
theorem dX3_hang_38 : decode cX3_hang 38 = .ok (.aload_n 0, 1) := by decide +kernel
theorem dX3_hang_39 : decode cX3_hang 39 = .ok (.getfield 25, 3) := by decide +kernel
theorem dX3_hang_42 : decode cX3_hang 42 = .ok (.iload_n 1, 1) := by decide +kernel
theorem dX3_hang_43 : decode cX3_hang 43 = .ok (.iaload, 1) := by decide +kernel
theorem dX3_hang_44 : decode cX3_hang 44 = .ok (.iconst (-1), 1) := by decide +kernel
theorem dX3_hang_45 : decode cX3_hang 45 = .ok (.if_icmp .ne 37, 3) := by decide +kernel
theorem dX3_hang_48 : decode cX3_hang 48 = .ok (.aload_n 0, 1) := by decide +kernel
theorem dX3_hang_49 : decode cX3_hang 49 = .ok (.getfield 37, 3) := by decide +kernel
theorem dX3_hang_52 : decode cX3_hang 52 = .ok (.iload_n 2, 1) := by decide +kernel
theorem dX3_hang_53 : decode cX3_hang 53 = .ok (.iaload, 1) := by decide +kernel
theorem dX3_hang_54 : decode cX3_hang 54 = .ok (.iconst 2, 1) := by decide +kernel
theorem dX3_hang_55 : decode cX3_hang 55 = .ok (.if_icmp .eq 27, 3) := by decide +kernel
theorem dX3_hang_58 : decode cX3_hang 58 = .ok (.aload_n 0, 1) := by decide +kernel
theorem dX3_hang_59 : decode cX3_hang 59 = .ok (.iload_n 2, 1) := by decide +kernel
theorem dX3_hang_60 : decode cX3_hang 60 = .ok (.invokevirtual 81, 3) := by decide +kernel
theorem dX3_hang_63 : decode cX3_hang 63 = .ok (.aload_n 0, 1) := by decide +kernel
theorem dX3_hang_64 : decode cX3_hang 64 = .ok (.iload_n 1, 1) := by decide +kernel
theorem dX3_hang_65 : decode cX3_hang 65 = .ok (.invokevirtual 70, 3) := by decide +kernel
theorem dX3_hang_68 : decode cX3_hang 68 = .ok (.iadd, 1) := by decide +kernel
theorem dX3_hang_69 : decode cX3_hang 69 = .ok (.aload_n 0, 1) := by decide +kernel
theorem dX3_hang_70 : decode cX3_hang 70 = .ok (.getfield 34, 3) := by decide +kernel
theorem dX3_hang_73 : decode cX3_hang 73 = .ok (.iload_n 2, 1) := by decide +kernel
theorem dX3_hang_74 : decode cX3_hang 74 = .ok (.iaload, 1) := by decide +kernel
theorem dX3_hang_75 : decode cX3_hang 75 = .ok (.if_icmp .gt 7, 3) := by decide +kernel
theorem dX3_hang_78 : decode cX3_hang 78 = .ok (.iconst 1, 1) := by decide +kernel
theorem dX3_hang_79 : decode cX3_hang 79 = .ok (.goto 4, 3) := by decide +kernel
theorem dX3_hang_82 : decode cX3_hang 82 = .ok (.iconst 0, 1) := by decide +kernel
theorem dX3_hang_83 : decode cX3_hang 83 = .ok (.istore 5, 2) := by decide +kernel
theorem dX3_hang_85 : decode cX3_hang 85 = .ok (.aload_n 0, 1) := by decide +kernel
theorem dX3_hang_86 : decode cX3_hang 86 = .ok (.iload 4, 2) := by decide +kernel
theorem dX3_hang_88 : decode cX3_hang 88 = .ok (.iload 4, 2) := by decide +kernel
theorem dX3_hang_90 : decode cX3_hang 90 = .ok (.ifCond .eq 16, 3) := by decide +kernel
theorem dX3_hang_93 : decode cX3_hang 93 = .ok (.aload_n 0, 1) := by decide +kernel
theorem dX3_hang_94 : decode cX3_hang 94 = .ok (.iload_n 2, 1) := by decide +kernel
theorem dX3_hang_95 : decode cX3_hang 95 = .ok (.iload_n 3, 1) := by decide +kernel
theorem dX3_hang_96 : decode cX3_hang 96 = .ok (.invokevirtual 84, 3) := by decide +kernel
theorem dX3_hang_99 : decode cX3_hang 99 = .ok (.ifCond .ne 7, 3) := by decide +kernel
theorem dX3_hang_102 : decode cX3_hang 102 = .ok (.iconst 1, 1) := by decide +kernel
theorem dX3_hang_103 : decode cX3_hang 103 = .ok (.goto 4, 3) := by decide +kernel
theorem dX3_hang_106 : decode cX3_hang 106 = .ok (.iconst 0, 1) := by decide +kernel
theorem dX3_hang_107 : decode cX3_hang 107 = .ok (.iload 5, 2) := by decide +kernel
theorem dX3_hang_109 : decode cX3_hang 109 = .ok (.invokevirtual 66, 3) := by decide +kernel
theorem dX3_hang_112 : decode cX3_hang 112 = .ok (.ifCond .ne 5, 3) := by decide +kernel
theorem dX3_hang_115 : decode cX3_hang 115 = .ok (.iconst 0, 1) := by decide +kernel
theorem dX3_hang_116 : decode cX3_hang 116 = .ok (.ireturn, 1) := by decide +kernel
theorem dX3_hang_117 : decode cX3_hang 117 = .ok (.aload_n 0, 1) := by decide +kernel
theorem dX3_hang_118 : decode cX3_hang 118 = .ok (.getfield 25, 3) := by decide +kernel
theorem dX3_hang_121 : decode cX3_hang 121 = .ok (.iload_n 1, 1) := by decide +kernel
theorem dX3_hang_122 : decode cX3_hang 122 = .ok (.iload_n 2, 1) := by decide +kernel
theorem dX3_hang_123 : decode cX3_hang 123 = .ok (.iastore, 1) := by decide +kernel
theorem dX3_hang_124 : decode cX3_hang 124 = .ok (.aload_n 0, 1) := by decide +kernel
theorem dX3_hang_125 : decode cX3_hang 125 = .ok (.getfield 28, 3) := by decide +kernel
theorem dX3_hang_128 : decode cX3_hang 128 = .ok (.iload_n 1, 1) := by decide +kernel
theorem dX3_hang_129 : decode cX3_hang 129 = .ok (.iload_n 3, 1) := by decide +kernel
theorem dX3_hang_130 : decode cX3_hang 130 = .ok (.iastore, 1) := by decide +kernel
theorem dX3_hang_131 : decode cX3_hang 131 = .ok (.aload_n 0, 1) := by decide +kernel
theorem dX3_hang_132 : decode cX3_hang 132 = .ok (.iload_n 2, 1) := by decide +kernel
theorem dX3_hang_133 : decode cX3_hang 133 = .ok (.invokevirtual 81, 3) := by decide +kernel
theorem dX3_hang_136 : decode cX3_hang 136 = .ok (.ireturn, 1) := by decide +kernel
theorem dX3_darkens_0 : decode cX3_darkens 0 = .ok (.aload_n 0, 1) := by decide +kernel
theorem dX3_darkens_1 : decode cX3_darkens 1 = .ok (.getfield 19, 3) := by decide +kernel
theorem dX3_darkens_4 : decode cX3_darkens 4 = .ok (.iload_n 1, 1) := by decide +kernel
theorem dX3_darkens_5 : decode cX3_darkens 5 = .ok (.aload_n 0, 1) := by decide +kernel
theorem dX3_darkens_6 : decode cX3_darkens 6 = .ok (.getfield 19, 3) := by decide +kernel
theorem dX3_darkens_9 : decode cX3_darkens 9 = .ok (.iload_n 1, 1) := by decide +kernel
theorem dX3_darkens_10 : decode cX3_darkens 10 = .ok (.iaload, 1) := by decide +kernel
theorem dX3_darkens_11 : decode cX3_darkens 11 = .ok (.iconst 2, 1) := by decide +kernel
theorem dX3_darkens_12 : decode cX3_darkens 12 = .ok (.if_icmp .ne 7, 3) := by decide +kernel
theorem dX3_darkens_15 : decode cX3_darkens 15 = .ok (.iconst 2, 1) := by decide +kernel
theorem dX3_darkens_16 : decode cX3_darkens 16 = .ok (.goto 4, 3) := by decide +kernel
theorem dX3_darkens_19 : decode cX3_darkens 19 = .ok (.iconst 0, 1) := by decide +kernel
theorem dX3_darkens_20 : decode cX3_darkens 20 = .ok (.iastore, 1) := by decide +kernel
theorem dX3_darkens_21 : decode cX3_darkens 21 = .ok (.return_, 1) := by decide +kernel
set_option maxRecDepth 20000 in
theorem ggX3_takeDown_X3_isLantern : GoodIn wsX3_takeDown wsX3_isLantern := goodIn_r _ [6, 7, 8, 9, 5, 10, 21, 22, 23, 24, 25, 26, 27, 28, 29, 30, 31, 32, 33, 34, 35, 36, 37, 38, 39, 40, 41, 42] (by decide +kernel) (by decide +kernel)
set_option maxRecDepth 20000 in
theorem gX3_takeDown_X3_isLantern : GoodIn wsX3_takeDown (wsV RX3 74 RX3 yX3_isLantern wsX3_isLantern) := goodIn_app (goodIn_of _ (by decide +kernel)) ggX3_takeDown_X3_isLantern
set_option maxRecDepth 20000 in
theorem ggX3_takeDown_X3_goes : GoodIn wsX3_takeDown wsX3_goes := goodIn_r _ [14, 15, 21, 22, 23, 24, 25, 26, 27, 28, 29, 30, 31, 32, 33, 34, 35, 36, 37, 38, 39, 40, 41, 42] (by decide +kernel) (by decide +kernel)
set_option maxRecDepth 20000 in
theorem gX3_takeDown_X3_goes : GoodIn wsX3_takeDown (wsV RX3 66 RX3 yX3_goes wsX3_goes) := goodIn_app (goodIn_of _ (by decide +kernel)) ggX3_takeDown_X3_goes
set_option maxRecDepth 20000 in
theorem ggX3_takeDown_X3_darkens : GoodIn wsX3_takeDown wsX3_darkens := goodIn_r _ [19, 20, 21, 22, 23, 24, 25, 26, 27, 28, 29, 30, 31, 32, 33, 34, 35, 36, 37, 38, 39, 40, 41, 42] (by decide +kernel) (by decide +kernel)
set_option maxRecDepth 20000 in
theorem gX3_takeDown_X3_darkens : GoodIn wsX3_takeDown (wsV RX3 88 RX3 yX3_darkens wsX3_darkens) := goodIn_app (goodIn_of _ (by decide +kernel)) ggX3_takeDown_X3_darkens
theorem dX3_takeDown_0 : decode cX3_takeDown 0 = .ok (.aload_n 0, 1) := by decide +kernel
theorem dX3_takeDown_1 : decode cX3_takeDown 1 = .ok (.iload_n 1, 1) := by decide +kernel
theorem dX3_takeDown_2 : decode cX3_takeDown 2 = .ok (.invokevirtual 74, 3) := by decide +kernel
theorem dX3_takeDown_5 : decode cX3_takeDown 5 = .ok (.istore_n 2, 1) := by decide +kernel
theorem dX3_takeDown_6 : decode cX3_takeDown 6 = .ok (.aload_n 0, 1) := by decide +kernel
theorem dX3_takeDown_7 : decode cX3_takeDown 7 = .ok (.iload_n 2, 1) := by decide +kernel
theorem dX3_takeDown_8 : decode cX3_takeDown 8 = .ok (.iload_n 2, 1) := by decide +kernel
theorem dX3_takeDown_9 : decode cX3_takeDown 9 = .ok (.ifCond .eq 17, 3) := by decide +kernel
theorem dX3_takeDown_12 : decode cX3_takeDown 12 = .ok (.aload_n 0, 1) := by decide +kernel
theorem dX3_takeDown_13 : decode cX3_takeDown 13 = .ok (.getfield 25, 3) := by decide +kernel
theorem dX3_takeDown_16 : decode cX3_takeDown 16 = .ok (.iload_n 1, 1) := by decide +kernel
theorem dX3_takeDown_17 : decode cX3_takeDown 17 = .ok (.iaload, 1) := by decide +kernel
theorem dX3_takeDown_18 : decode cX3_takeDown 18 = .ok (.iconst (-1), 1) := by decide +kernel
theorem dX3_takeDown_19 : decode cX3_takeDown 19 = .ok (.if_icmp .eq 7, 3) := by decide +kernel
theorem dX3_takeDown_22 : decode cX3_takeDown 22 = .ok (.iconst 1, 1) := by decide +kernel
theorem dX3_takeDown_23 : decode cX3_takeDown 23 = .ok (.goto 4, 3) := by decide +kernel
theorem dX3_takeDown_26 : decode cX3_takeDown 26 = .ok (.iconst 0, 1) := by decide +kernel
theorem dX3_takeDown_27 : decode cX3_takeDown 27 = .ok (.iconst 1, 1) := by decide +kernel
theorem dX3_takeDown_28 : decode cX3_takeDown 28 = .ok (.invokevirtual 66, 3) := by decide +kernel
theorem dX3_takeDown_31 : decode cX3_takeDown 31 = .ok (.ifCond .ne 5, 3) := by decide +kernel
theorem dX3_takeDown_34 : decode cX3_takeDown 34 = .ok (.iconst 0, 1) := by decide +kernel
theorem dX3_takeDown_35 : decode cX3_takeDown 35 = .ok (.ireturn, 1) := by decide +kernel
theorem dX3_takeDown_36 : decode cX3_takeDown 36 = .ok (.aload_n 0, 1) := by decide +kernel
theorem dX3_takeDown_37 : decode cX3_takeDown 37 = .ok (.getfield 25, 3) := by decide +kernel
theorem dX3_takeDown_40 : decode cX3_takeDown 40 = .ok (.iload_n 1, 1) := by decide +kernel
theorem dX3_takeDown_41 : decode cX3_takeDown 41 = .ok (.iaload, 1) := by decide +kernel
theorem dX3_takeDown_42 : decode cX3_takeDown 42 = .ok (.istore_n 3, 1) := by decide +kernel
theorem dX3_takeDown_43 : decode cX3_takeDown 43 = .ok (.aload_n 0, 1) := by decide +kernel
theorem dX3_takeDown_44 : decode cX3_takeDown 44 = .ok (.getfield 25, 3) := by decide +kernel
theorem dX3_takeDown_47 : decode cX3_takeDown 47 = .ok (.iload_n 1, 1) := by decide +kernel
theorem dX3_takeDown_48 : decode cX3_takeDown 48 = .ok (.iconst (-1), 1) := by decide +kernel
theorem dX3_takeDown_49 : decode cX3_takeDown 49 = .ok (.iastore, 1) := by decide +kernel
theorem dX3_takeDown_50 : decode cX3_takeDown 50 = .ok (.aload_n 0, 1) := by decide +kernel
theorem dX3_takeDown_51 : decode cX3_takeDown 51 = .ok (.iload_n 1, 1) := by decide +kernel
theorem dX3_takeDown_52 : decode cX3_takeDown 52 = .ok (.invokevirtual 88, 3) := by decide +kernel
theorem dX3_takeDown_55 : decode cX3_takeDown 55 = .ok (.iload_n 3, 1) := by decide +kernel
theorem dX3_takeDown_56 : decode cX3_takeDown 56 = .ok (.ireturn, 1) := by decide +kernel
theorem dX3_hasPlace_0 : decode cX3_hasPlace 0 = .ok (.aload_n 0, 1) := by decide +kernel
theorem dX3_hasPlace_1 : decode cX3_hasPlace 1 = .ok (.getfield 25, 3) := by decide +kernel
theorem dX3_hasPlace_4 : decode cX3_hasPlace 4 = .ok (.iload_n 1, 1) := by decide +kernel
theorem dX3_hasPlace_5 : decode cX3_hasPlace 5 = .ok (.iaload, 1) := by decide +kernel
theorem dX3_hasPlace_6 : decode cX3_hasPlace 6 = .ok (.iconst (-1), 1) := by decide +kernel
theorem dX3_hasPlace_7 : decode cX3_hasPlace 7 = .ok (.if_icmp .eq 22, 3) := by decide +kernel
theorem dX3_hasPlace_10 : decode cX3_hasPlace 10 = .ok (.aload_n 0, 1) := by decide +kernel
theorem dX3_hasPlace_11 : decode cX3_hasPlace 11 = .ok (.getfield 37, 3) := by decide +kernel
theorem dX3_hasPlace_14 : decode cX3_hasPlace 14 = .ok (.aload_n 0, 1) := by decide +kernel
theorem dX3_hasPlace_15 : decode cX3_hasPlace 15 = .ok (.getfield 25, 3) := by decide +kernel
theorem dX3_hasPlace_18 : decode cX3_hasPlace 18 = .ok (.iload_n 1, 1) := by decide +kernel
theorem dX3_hasPlace_19 : decode cX3_hasPlace 19 = .ok (.iaload, 1) := by decide +kernel
theorem dX3_hasPlace_20 : decode cX3_hasPlace 20 = .ok (.iaload, 1) := by decide +kernel
theorem dX3_hasPlace_21 : decode cX3_hasPlace 21 = .ok (.iconst 1, 1) := by decide +kernel
theorem dX3_hasPlace_22 : decode cX3_hasPlace 22 = .ok (.if_icmp .ne 7, 3) := by decide +kernel
theorem dX3_hasPlace_25 : decode cX3_hasPlace 25 = .ok (.iconst 1, 1) := by decide +kernel
theorem dX3_hasPlace_26 : decode cX3_hasPlace 26 = .ok (.goto 4, 3) := by decide +kernel
theorem dX3_hasPlace_29 : decode cX3_hasPlace 29 = .ok (.iconst 0, 1) := by decide +kernel
theorem dX3_hasPlace_30 : decode cX3_hasPlace 30 = .ok (.ireturn, 1) := by decide +kernel
theorem dX3_place_0 : decode cX3_place 0 = .ok (.aload_n 0, 1) := by decide +kernel
theorem dX3_place_1 : decode cX3_place 1 = .ok (.getfield 40, 3) := by decide +kernel
theorem dX3_place_4 : decode cX3_place 4 = .ok (.aload_n 0, 1) := by decide +kernel
theorem dX3_place_5 : decode cX3_place 5 = .ok (.getfield 25, 3) := by decide +kernel
theorem dX3_place_8 : decode cX3_place 8 = .ok (.iload_n 1, 1) := by decide +kernel
theorem dX3_place_9 : decode cX3_place 9 = .ok (.iaload, 1) := by decide +kernel
theorem dX3_place_10 : decode cX3_place 10 = .ok (.iaload, 1) := by decide +kernel
theorem dX3_place_11 : decode cX3_place 11 = .ok (.aload_n 0, 1) := by decide +kernel
theorem dX3_place_12 : decode cX3_place 12 = .ok (.getfield 28, 3) := by decide +kernel
theorem dX3_place_15 : decode cX3_place 15 = .ok (.iload_n 1, 1) := by decide +kernel
theorem dX3_place_16 : decode cX3_place 16 = .ok (.iaload, 1) := by decide +kernel
theorem dX3_place_17 : decode cX3_place 17 = .ok (.isub, 1) := by decide +kernel
theorem dX3_place_18 : decode cX3_place 18 = .ok (.ireturn, 1) := by decide +kernel
set_option maxRecDepth 20000 in
theorem ggX3_distance_X3_place : GoodIn wsX3_distance wsX3_place := goodIn_r _ [5, 6, 7, 8, 9, 10, 11, 12, 13, 14, 15, 16, 17, 18, 19, 20, 21, 22, 23, 24, 25, 26, 27, 28, 29, 30] (by decide +kernel) (by decide +kernel)
set_option maxRecDepth 20000 in
theorem gX3_distance_X3_place : GoodIn wsX3_distance (wsV RX3 92 RX3 yX3_place wsX3_place) := goodIn_app (goodIn_of _ (by decide +kernel)) ggX3_distance_X3_place
theorem dX3_distance_0 : decode cX3_distance 0 = .ok (.aload_n 0, 1) := by decide +kernel
theorem dX3_distance_1 : decode cX3_distance 1 = .ok (.iload_n 1, 1) := by decide +kernel
theorem dX3_distance_2 : decode cX3_distance 2 = .ok (.invokevirtual 92, 3) := by decide +kernel
theorem dX3_distance_5 : decode cX3_distance 5 = .ok (.aload_n 0, 1) := by decide +kernel
theorem dX3_distance_6 : decode cX3_distance 6 = .ok (.iload_n 2, 1) := by decide +kernel
theorem dX3_distance_7 : decode cX3_distance 7 = .ok (.invokevirtual 92, 3) := by decide +kernel
theorem dX3_distance_10 : decode cX3_distance 10 = .ok (.isub, 1) := by decide +kernel
theorem dX3_distance_11 : decode cX3_distance 11 = .ok (.istore_n 3, 1) := by decide +kernel
theorem dX3_distance_12 : decode cX3_distance 12 = .ok (.iload_n 3, 1) := by decide +kernel
theorem dX3_distance_13 : decode cX3_distance 13 = .ok (.ifCond .ge 8, 3) := by decide +kernel
theorem dX3_distance_16 : decode cX3_distance 16 = .ok (.iload_n 3, 1) := by decide +kernel
theorem dX3_distance_17 : decode cX3_distance 17 = .ok (.ineg, 1) := by decide +kernel
theorem dX3_distance_18 : decode cX3_distance 18 = .ok (.goto 4, 3) := by decide +kernel
theorem dX3_distance_21 : decode cX3_distance 21 = .ok (.iload_n 3, 1) := by decide +kernel
theorem dX3_distance_22 : decode cX3_distance 22 = .ok (.ireturn, 1) := by decide +kernel
set_option maxRecDepth 20000 in
theorem ggX3_isNear_X3_distance : GoodIn wsX3_isNear wsX3_distance := goodIn_r _ [8, 9, 10, 11, 7, 12, 13, 14, 15, 16, 17, 18, 19, 20, 21, 22, 23, 24, 25, 26, 27, 28, 29, 30, 31, 32, 33, 34, 35, 36, 37] (by decide +kernel) (by decide +kernel)
set_option maxRecDepth 20000 in
theorem gX3_isNear_X3_distance : GoodIn wsX3_isNear (wsV RX3 95 RX3 yX3_distance wsX3_distance) := goodIn_app (goodIn_of _ (by decide +kernel)) ggX3_isNear_X3_distance
theorem dX3_isNear_0 : decode cX3_isNear 0 = .ok (.iconst 0, 1) := by decide +kernel
theorem dX3_isNear_1 : decode cX3_isNear 1 = .ok (.istore_n 3, 1) := by decide +kernel
theorem dX3_isNear_2 : decode cX3_isNear 2 = .ok (.iconst 0, 1) := by decide +kernel
theorem dX3_isNear_3 : decode cX3_isNear 3 = .ok (.istore 4, 2) := by decide +kernel
theorem dX3_isNear_5 : decode cX3_isNear 5 = .ok (.iload 4, 2) := by decide +kernel
theorem dX3_isNear_7 : decode cX3_isNear 7 = .ok (.iload_n 2, 1) := by decide +kernel
theorem dX3_isNear_8 : decode cX3_isNear 8 = .ok (.if_icmp .ge 65, 3) := by decide +kernel
theorem dX3_isNear_11 : decode cX3_isNear 11 = .ok (.iload_n 3, 1) := by decide +kernel
theorem dX3_isNear_12 : decode cX3_isNear 12 = .ok (.ifCond .ne 49, 3) := by decide +kernel
theorem dX3_isNear_15 : decode cX3_isNear 15 = .ok (.iload 4, 2) := by decide +kernel
theorem dX3_isNear_17 : decode cX3_isNear 17 = .ok (.iload_n 1, 1) := by decide +kernel
theorem dX3_isNear_18 : decode cX3_isNear 18 = .ok (.if_icmp .eq 47, 3) := by decide +kernel
theorem dX3_isNear_21 : decode cX3_isNear 21 = .ok (.aload_n 0, 1) := by decide +kernel
theorem dX3_isNear_22 : decode cX3_isNear 22 = .ok (.getfield 19, 3) := by decide +kernel
theorem dX3_isNear_25 : decode cX3_isNear 25 = .ok (.iload 4, 2) := by decide +kernel
theorem dX3_isNear_27 : decode cX3_isNear 27 = .ok (.iaload, 1) := by decide +kernel
theorem dX3_isNear_28 : decode cX3_isNear 28 = .ok (.iconst 1, 1) := by decide +kernel
theorem dX3_isNear_29 : decode cX3_isNear 29 = .ok (.if_icmp .ne 36, 3) := by decide +kernel
theorem dX3_isNear_32 : decode cX3_isNear 32 = .ok (.aload_n 0, 1) := by decide +kernel
theorem dX3_isNear_33 : decode cX3_isNear 33 = .ok (.iload 4, 2) := by decide +kernel
theorem dX3_isNear_35 : decode cX3_isNear 35 = .ok (.iload_n 1, 1) := by decide +kernel
theorem dX3_isNear_36 : decode cX3_isNear 36 = .ok (.invokevirtual 95, 3) := by decide +kernel
theorem dX3_isNear_39 : decode cX3_isNear 39 = .ok (.aload_n 0, 1) := by decide +kernel
theorem dX3_isNear_40 : decode cX3_isNear 40 = .ok (.getfield 16, 3) := by decide +kernel
theorem dX3_isNear_43 : decode cX3_isNear 43 = .ok (.iload 4, 2) := by decide +kernel
theorem dX3_isNear_45 : decode cX3_isNear 45 = .ok (.iaload, 1) := by decide +kernel
theorem dX3_isNear_46 : decode cX3_isNear 46 = .ok (.aload_n 0, 1) := by decide +kernel
theorem dX3_isNear_47 : decode cX3_isNear 47 = .ok (.getfield 16, 3) := by decide +kernel
theorem dX3_isNear_50 : decode cX3_isNear 50 = .ok (.iload_n 1, 1) := by decide +kernel
theorem dX3_isNear_51 : decode cX3_isNear 51 = .ok (.iaload, 1) := by decide +kernel
theorem dX3_isNear_52 : decode cX3_isNear 52 = .ok (.iadd, 1) := by decide +kernel
theorem dX3_isNear_53 : decode cX3_isNear 53 = .ok (.aload_n 0, 1) := by decide +kernel
theorem dX3_isNear_54 : decode cX3_isNear 54 = .ok (.getfield 99, 3) := by decide +kernel
theorem dX3_isNear_57 : decode cX3_isNear 57 = .ok (.iadd, 1) := by decide +kernel
theorem dX3_isNear_58 : decode cX3_isNear 58 = .ok (.if_icmp .ge 7, 3) := by decide +kernel
theorem dX3_isNear_61 : decode cX3_isNear 61 = .ok (.iconst 1, 1) := by decide +kernel
theorem dX3_isNear_62 : decode cX3_isNear 62 = .ok (.goto 4, 3) := by decide +kernel
theorem dX3_isNear_65 : decode cX3_isNear 65 = .ok (.iconst 0, 1) := by decide +kernel
theorem dX3_isNear_66 : decode cX3_isNear 66 = .ok (.istore_n 3, 1) := by decide +kernel
theorem dX3_isNear_67 : decode cX3_isNear 67 = .ok (.iinc 4 1, 3) := by decide +kernel
theorem dX3_isNear_70 : decode cX3_isNear 70 = .ok (.goto (-65), 3) := by decide +kernel
theorem dX3_isNear_73 : decode cX3_isNear 73 = .ok (.iload_n 3, 1) := by decide +kernel
theorem dX3_isNear_74 : decode cX3_isNear 74 = .ok (.ireturn, 1) := by decide +kernel
set_option maxRecDepth 20000 in
theorem ggX3_light_X3_isLantern : GoodIn wsX3_light wsX3_isLantern := goodIn_r _ [8, 2, 9, 10, 7, 11, 39, 40, 41, 42, 43, 44, 45, 46, 47, 48, 49, 50, 51, 52, 53, 54, 55, 56, 57, 58, 59, 60] (by decide +kernel) (by decide +kernel)
set_option maxRecDepth 20000 in
theorem gX3_light_X3_isLantern : GoodIn wsX3_light (wsV RX3 74 RX3 yX3_isLantern wsX3_isLantern) := goodIn_app (goodIn_of _ (by decide +kernel)) ggX3_light_X3_isLantern
set_option maxRecDepth 20000 in
theorem ggX3_light_X3_hasPlace : GoodIn wsX3_light wsX3_hasPlace := goodIn_r _ [15, 16, 17, 39, 40, 41, 42, 43, 44, 45, 46, 47, 48, 49, 50, 51, 52, 53, 54, 55, 56, 57, 58, 59, 60] (by decide +kernel) (by decide +kernel)
set_option maxRecDepth 20000 in
theorem gX3_light_X3_hasPlace : GoodIn wsX3_light (wsV RX3 102 RX3 yX3_hasPlace wsX3_hasPlace) := goodIn_app (goodIn_of _ (by decide +kernel)) ggX3_light_X3_hasPlace
set_option maxRecDepth 20000 in
theorem ggX3_light_X3_isNear : GoodIn wsX3_light wsX3_isNear := goodIn_r _ [21, 1, 22, 23, 24, 25, 26, 7, 27, 28, 29, 30, 31, 32, 16, 33, 39, 40, 41, 42, 43, 44, 45, 46, 47, 48, 49, 50, 51, 52, 53, 54, 55, 56, 57, 58, 59, 60] (by decide +kernel) (by decide +kernel)
set_option maxRecDepth 20000 in
theorem gX3_light_X3_isNear : GoodIn wsX3_light (wsV RX3 105 RX3 yX3_isNear wsX3_isNear) := goodIn_app (goodIn_of _ (by decide +kernel)) ggX3_light_X3_isNear
set_option maxRecDepth 20000 in
theorem ggX3_light_X3_goes : GoodIn wsX3_light wsX3_goes := goodIn_r _ [37, 38, 39, 40, 41, 42, 43, 44, 45, 46, 47, 48, 49, 50, 51, 52, 53, 54, 55, 56, 57, 58, 59, 60] (by decide +kernel) (by decide +kernel)
set_option maxRecDepth 20000 in
theorem gX3_light_X3_goes : GoodIn wsX3_light (wsV RX3 66 RX3 yX3_goes wsX3_goes) := goodIn_app (goodIn_of _ (by decide +kernel)) ggX3_light_X3_goes
theorem dX3_light_0 : decode cX3_light 0 = .ok (.aload_n 0, 1) := by decide +kernel
theorem dX3_light_1 : decode cX3_light 1 = .ok (.iload_n 1, 1) := by decide +kernel
theorem dX3_light_2 : decode cX3_light 2 = .ok (.invokevirtual 74, 3) := by decide +kernel
theorem dX3_light_5 : decode cX3_light 5 = .ok (.istore_n 2, 1) := by decide +kernel
theorem dX3_light_6 : decode cX3_light 6 = .ok (.iload_n 2, 1) := by decide +kernel
theorem dX3_light_7 : decode cX3_light 7 = .ok (.ifCond .eq 36, 3) := by decide +kernel
theorem dX3_light_10 : decode cX3_light 10 = .ok (.aload_n 0, 1) := by decide +kernel
theorem dX3_light_11 : decode cX3_light 11 = .ok (.iload_n 1, 1) := by decide +kernel
theorem dX3_light_12 : decode cX3_light 12 = .ok (.invokevirtual 102, 3) := by decide +kernel
theorem dX3_light_15 : decode cX3_light 15 = .ok (.ifCond .eq 28, 3) := by decide +kernel
theorem dX3_light_18 : decode cX3_light 18 = .ok (.aload_n 0, 1) := by decide +kernel
theorem dX3_light_19 : decode cX3_light 19 = .ok (.getfield 19, 3) := by decide +kernel
theorem dX3_light_22 : decode cX3_light 22 = .ok (.iload_n 1, 1) := by decide +kernel
theorem dX3_light_23 : decode cX3_light 23 = .ok (.iaload, 1) := by decide +kernel
theorem dX3_light_24 : decode cX3_light 24 = .ok (.ifCond .ne 19, 3) := by decide +kernel
theorem dX3_light_27 : decode cX3_light 27 = .ok (.aload_n 0, 1) := by decide +kernel
theorem dX3_light_28 : decode cX3_light 28 = .ok (.iload_n 1, 1) := by decide +kernel
theorem dX3_light_29 : decode cX3_light 29 = .ok (.aload_n 0, 1) := by decide +kernel
theorem dX3_light_30 : decode cX3_light 30 = .ok (.getfield 56, 3) := by decide +kernel
theorem dX3_light_33 : decode cX3_light 33 = .ok (.invokevirtual 105, 3) := by decide +kernel
theorem dX3_light_36 : decode cX3_light 36 = .ok (.ifCond .ne 7, 3) := by decide +kernel
theorem dX3_light_39 : decode cX3_light 39 = .ok (.iconst 1, 1) := by decide +kernel
theorem dX3_light_40 : decode cX3_light 40 = .ok (.goto 4, 3) := by decide +kernel
theorem dX3_light_43 : decode cX3_light 43 = .ok (.iconst 0, 1) := by decide +kernel
theorem dX3_light_44 : decode cX3_light 44 = .ok (.istore_n 3, 1) := by decide +kernel
theorem dX3_light_45 : decode cX3_light 45 = .ok (.aload_n 0, 1) := by decide +kernel
theorem dX3_light_46 : decode cX3_light 46 = .ok (.iload_n 2, 1) := by decide +kernel
theorem dX3_light_47 : decode cX3_light 47 = .ok (.iload_n 3, 1) := by decide +kernel
theorem dX3_light_48 : decode cX3_light 48 = .ok (.iconst 1, 1) := by decide +kernel
theorem dX3_light_49 : decode cX3_light 49 = .ok (.invokevirtual 66, 3) := by decide +kernel
theorem dX3_light_52 : decode cX3_light 52 = .ok (.ifCond .ne 5, 3) := by decide +kernel
theorem dX3_light_55 : decode cX3_light 55 = .ok (.iconst 0, 1) := by decide +kernel
theorem dX3_light_56 : decode cX3_light 56 = .ok (.ireturn, 1) := by decide +kernel
theorem dX3_light_57 : decode cX3_light 57 = .ok (.aload_n 0, 1) := by decide +kernel
theorem dX3_light_58 : decode cX3_light 58 = .ok (.getfield 19, 3) := by decide +kernel
theorem dX3_light_61 : decode cX3_light 61 = .ok (.iload_n 1, 1) := by decide +kernel
theorem dX3_light_62 : decode cX3_light 62 = .ok (.iconst 1, 1) := by decide +kernel
theorem dX3_light_63 : decode cX3_light 63 = .ok (.iastore, 1) := by decide +kernel
theorem dX3_light_64 : decode cX3_light 64 = .ok (.aload_n 0, 1) := by decide +kernel
theorem dX3_light_65 : decode cX3_light 65 = .ok (.getfield 22, 3) := by decide +kernel
theorem dX3_light_68 : decode cX3_light 68 = .ok (.iload_n 1, 1) := by decide +kernel
theorem dX3_light_69 : decode cX3_light 69 = .ok (.iaload, 1) := by decide +kernel
theorem dX3_light_70 : decode cX3_light 70 = .ok (.ireturn, 1) := by decide +kernel
set_option maxRecDepth 20000 in
theorem ggX3_putOut_X3_isLantern : GoodIn wsX3_putOut wsX3_isLantern := goodIn_r _ [7, 8, 9, 10, 6, 11, 17, 18, 19, 20, 21, 22, 23, 24, 25, 26, 27, 28, 29, 30, 31, 32, 33, 34, 35, 36, 37, 38] (by decide +kernel) (by decide +kernel)
set_option maxRecDepth 20000 in
theorem gX3_putOut_X3_isLantern : GoodIn wsX3_putOut (wsV RX3 74 RX3 yX3_isLantern wsX3_isLantern) := goodIn_app (goodIn_of _ (by decide +kernel)) ggX3_putOut_X3_isLantern
set_option maxRecDepth 20000 in
theorem ggX3_putOut_X3_goes : GoodIn wsX3_putOut wsX3_goes := goodIn_r _ [15, 16, 17, 18, 19, 20, 21, 22, 23, 24, 25, 26, 27, 28, 29, 30, 31, 32, 33, 34, 35, 36, 37, 38] (by decide +kernel) (by decide +kernel)
set_option maxRecDepth 20000 in
theorem gX3_putOut_X3_goes : GoodIn wsX3_putOut (wsV RX3 66 RX3 yX3_goes wsX3_goes) := goodIn_app (goodIn_of _ (by decide +kernel)) ggX3_putOut_X3_goes
theorem dX3_putOut_0 : decode cX3_putOut 0 = .ok (.aload_n 0, 1) := by decide +kernel
theorem dX3_putOut_1 : decode cX3_putOut 1 = .ok (.iload_n 1, 1) := by decide +kernel
theorem dX3_putOut_2 : decode cX3_putOut 2 = .ok (.invokevirtual 74, 3) := by decide +kernel
theorem dX3_putOut_5 : decode cX3_putOut 5 = .ok (.istore_n 2, 1) := by decide +kernel
theorem dX3_putOut_6 : decode cX3_putOut 6 = .ok (.aload_n 0, 1) := by decide +kernel
theorem dX3_putOut_7 : decode cX3_putOut 7 = .ok (.iload_n 2, 1) := by decide +kernel
theorem dX3_putOut_8 : decode cX3_putOut 8 = .ok (.iload_n 2, 1) := by decide +kernel
theorem dX3_putOut_9 : decode cX3_putOut 9 = .ok (.ifCond .eq 17, 3) := by decide +kernel
theorem dX3_putOut_12 : decode cX3_putOut 12 = .ok (.aload_n 0, 1) := by decide +kernel
theorem dX3_putOut_13 : decode cX3_putOut 13 = .ok (.getfield 19, 3) := by decide +kernel
theorem dX3_putOut_16 : decode cX3_putOut 16 = .ok (.iload_n 1, 1) := by decide +kernel
theorem dX3_putOut_17 : decode cX3_putOut 17 = .ok (.iaload, 1) := by decide +kernel
theorem dX3_putOut_18 : decode cX3_putOut 18 = .ok (.iconst 1, 1) := by decide +kernel
theorem dX3_putOut_19 : decode cX3_putOut 19 = .ok (.if_icmp .ne 7, 3) := by decide +kernel
theorem dX3_putOut_22 : decode cX3_putOut 22 = .ok (.iconst 1, 1) := by decide +kernel
theorem dX3_putOut_23 : decode cX3_putOut 23 = .ok (.goto 4, 3) := by decide +kernel
theorem dX3_putOut_26 : decode cX3_putOut 26 = .ok (.iconst 0, 1) := by decide +kernel
theorem dX3_putOut_27 : decode cX3_putOut 27 = .ok (.iconst 1, 1) := by decide +kernel
theorem dX3_putOut_28 : decode cX3_putOut 28 = .ok (.invokevirtual 66, 3) := by decide +kernel
theorem dX3_putOut_31 : decode cX3_putOut 31 = .ok (.ifCond .ne 5, 3) := by decide +kernel
theorem dX3_putOut_34 : decode cX3_putOut 34 = .ok (.iconst 0, 1) := by decide +kernel
theorem dX3_putOut_35 : decode cX3_putOut 35 = .ok (.ireturn, 1) := by decide +kernel
theorem dX3_putOut_36 : decode cX3_putOut 36 = .ok (.aload_n 0, 1) := by decide +kernel
theorem dX3_putOut_37 : decode cX3_putOut 37 = .ok (.getfield 19, 3) := by decide +kernel
theorem dX3_putOut_40 : decode cX3_putOut 40 = .ok (.iload_n 1, 1) := by decide +kernel
theorem dX3_putOut_41 : decode cX3_putOut 41 = .ok (.iconst 0, 1) := by decide +kernel
theorem dX3_putOut_42 : decode cX3_putOut 42 = .ok (.iastore, 1) := by decide +kernel
theorem dX3_putOut_43 : decode cX3_putOut 43 = .ok (.aload_n 0, 1) := by decide +kernel
theorem dX3_putOut_44 : decode cX3_putOut 44 = .ok (.getfield 22, 3) := by decide +kernel
theorem dX3_putOut_47 : decode cX3_putOut 47 = .ok (.iload_n 1, 1) := by decide +kernel
theorem dX3_putOut_48 : decode cX3_putOut 48 = .ok (.iaload, 1) := by decide +kernel
theorem dX3_putOut_49 : decode cX3_putOut 49 = .ok (.ireturn, 1) := by decide +kernel
set_option maxRecDepth 20000 in
theorem ggX3_build_X3_in : GoodIn wsX3_build wsX3_in := goodIn_r _ [7] (by decide +kernel) (by decide +kernel)
set_option maxRecDepth 20000 in
theorem gX3_build_X3_in : GoodIn wsX3_build (va_wsS RX3 59 yX3_in wsX3_in) := goodIn_app (goodIn_of _ (by decide +kernel)) ggX3_build_X3_in
set_option maxRecDepth 20000 in
theorem ggX3_build_X3_goes : GoodIn wsX3_build wsX3_goes := goodIn_r _ [11, 12, 13, 14, 15, 16, 17, 18, 19, 20, 21, 22, 23, 24, 25, 26, 27, 28, 29, 30, 31, 32, 33, 34] (by decide +kernel) (by decide +kernel)
set_option maxRecDepth 20000 in
theorem gX3_build_X3_goes : GoodIn wsX3_build (wsV RX3 66 RX3 yX3_goes wsX3_goes) := goodIn_app (goodIn_of _ (by decide +kernel)) ggX3_build_X3_goes
theorem dX3_build_0 : decode cX3_build 0 = .ok (.aload_n 0, 1) := by decide +kernel
theorem dX3_build_1 : decode cX3_build 1 = .ok (.iload_n 1, 1) := by decide +kernel
theorem dX3_build_2 : decode cX3_build 2 = .ok (.iconst 1, 1) := by decide +kernel
theorem dX3_build_3 : decode cX3_build 3 = .ok (.bipush 9, 2) := by decide +kernel
theorem dX3_build_5 : decode cX3_build 5 = .ok (.invokestatic 59, 3) := by decide +kernel
theorem dX3_build_8 : decode cX3_build 8 = .ok (.ifCond .eq 19, 3) := by decide +kernel
theorem dX3_build_11 : decode cX3_build 11 = .ok (.iload_n 2, 1) := by decide +kernel
theorem dX3_build_12 : decode cX3_build 12 = .ok (.bipush 100, 2) := by decide +kernel
theorem dX3_build_14 : decode cX3_build 14 = .ok (.sipush 9999, 3) := by decide +kernel
theorem dX3_build_17 : decode cX3_build 17 = .ok (.invokestatic 59, 3) := by decide +kernel
theorem dX3_build_20 : decode cX3_build 20 = .ok (.ifCond .eq 7, 3) := by decide +kernel
theorem dX3_build_23 : decode cX3_build 23 = .ok (.iconst 1, 1) := by decide +kernel
theorem dX3_build_24 : decode cX3_build 24 = .ok (.goto 4, 3) := by decide +kernel
theorem dX3_build_27 : decode cX3_build 27 = .ok (.iconst 0, 1) := by decide +kernel
theorem dX3_build_28 : decode cX3_build 28 = .ok (.aload_n 0, 1) := by decide +kernel
theorem dX3_build_29 : decode cX3_build 29 = .ok (.getfield 63, 3) := by decide +kernel
theorem dX3_build_32 : decode cX3_build 32 = .ok (.bipush 8, 2) := by decide +kernel
theorem dX3_build_34 : decode cX3_build 34 = .ok (.if_icmp .ge 7, 3) := by decide +kernel
theorem dX3_build_37 : decode cX3_build 37 = .ok (.iconst 1, 1) := by decide +kernel
theorem dX3_build_38 : decode cX3_build 38 = .ok (.goto 4, 3) := by decide +kernel
theorem dX3_build_41 : decode cX3_build 41 = .ok (.iconst 0, 1) := by decide +kernel
theorem dX3_build_42 : decode cX3_build 42 = .ok (.iconst 1, 1) := by decide +kernel
theorem dX3_build_43 : decode cX3_build 43 = .ok (.invokevirtual 66, 3) := by decide +kernel
theorem dX3_build_46 : decode cX3_build 46 = .ok (.ifCond .ne 5, 3) := by decide +kernel
theorem dX3_build_49 : decode cX3_build 49 = .ok (.iconst 0, 1) := by decide +kernel
theorem dX3_build_50 : decode cX3_build 50 = .ok (.ireturn, 1) := by decide +kernel
theorem dX3_build_51 : decode cX3_build 51 = .ok (.aload_n 0, 1) := by decide +kernel
theorem dX3_build_52 : decode cX3_build 52 = .ok (.getfield 31, 3) := by decide +kernel
theorem dX3_build_55 : decode cX3_build 55 = .ok (.aload_n 0, 1) := by decide +kernel
theorem dX3_build_56 : decode cX3_build 56 = .ok (.getfield 63, 3) := by decide +kernel
theorem dX3_build_59 : decode cX3_build 59 = .ok (.iload_n 1, 1) := by decide +kernel
theorem dX3_build_60 : decode cX3_build 60 = .ok (.iastore, 1) := by decide +kernel
theorem dX3_build_61 : decode cX3_build 61 = .ok (.aload_n 0, 1) := by decide +kernel
theorem dX3_build_62 : decode cX3_build 62 = .ok (.getfield 34, 3) := by decide +kernel
theorem dX3_build_65 : decode cX3_build 65 = .ok (.aload_n 0, 1) := by decide +kernel
theorem dX3_build_66 : decode cX3_build 66 = .ok (.getfield 63, 3) := by decide +kernel
theorem dX3_build_69 : decode cX3_build 69 = .ok (.iload_n 2, 1) := by decide +kernel
theorem dX3_build_70 : decode cX3_build 70 = .ok (.iastore, 1) := by decide +kernel
theorem dX3_build_71 : decode cX3_build 71 = .ok (.aload_n 0, 1) := by decide +kernel
theorem dX3_build_72 : decode cX3_build 72 = .ok (.dup, 1) := by decide +kernel
theorem dX3_build_73 : decode cX3_build 73 = .ok (.getfield 63, 3) := by decide +kernel
theorem dX3_build_76 : decode cX3_build 76 = .ok (.iconst 1, 1) := by decide +kernel
theorem dX3_build_77 : decode cX3_build 77 = .ok (.iadd, 1) := by decide +kernel
theorem dX3_build_78 : decode cX3_build 78 = .ok (.putfield 63, 3) := by decide +kernel
theorem dX3_build_81 : decode cX3_build 81 = .ok (.aload_n 0, 1) := by decide +kernel
theorem dX3_build_82 : decode cX3_build 82 = .ok (.getfield 63, 3) := by decide +kernel
theorem dX3_build_85 : decode cX3_build 85 = .ok (.iconst 1, 1) := by decide +kernel
theorem dX3_build_86 : decode cX3_build 86 = .ok (.isub, 1) := by decide +kernel
theorem dX3_build_87 : decode cX3_build 87 = .ok (.ireturn, 1) := by decide +kernel
theorem dX3_rearmost_0 : decode cX3_rearmost 0 = .ok (.iconst (-1), 1) := by decide +kernel
theorem dX3_rearmost_1 : decode cX3_rearmost 1 = .ok (.istore_n 1, 1) := by decide +kernel
theorem dX3_rearmost_2 : decode cX3_rearmost 2 = .ok (.iconst 0, 1) := by decide +kernel
theorem dX3_rearmost_3 : decode cX3_rearmost 3 = .ok (.istore_n 2, 1) := by decide +kernel
theorem dX3_rearmost_4 : decode cX3_rearmost 4 = .ok (.iload_n 2, 1) := by decide +kernel
theorem dX3_rearmost_5 : decode cX3_rearmost 5 = .ok (.aload_n 0, 1) := by decide +kernel
theorem dX3_rearmost_6 : decode cX3_rearmost 6 = .ok (.getfield 108, 3) := by decide +kernel
theorem dX3_rearmost_9 : decode cX3_rearmost 9 = .ok (.if_icmp .ge 35, 3) := by decide +kernel
theorem dX3_rearmost_12 : decode cX3_rearmost 12 = .ok (.aload_n 0, 1) := by decide +kernel
theorem dX3_rearmost_13 : decode cX3_rearmost 13 = .ok (.getfield 37, 3) := by decide +kernel
theorem dX3_rearmost_16 : decode cX3_rearmost 16 = .ok (.aload_n 0, 1) := by decide +kernel
theorem dX3_rearmost_17 : decode cX3_rearmost 17 = .ok (.getfield 43, 3) := by decide +kernel
theorem dX3_rearmost_20 : decode cX3_rearmost 20 = .ok (.iload_n 2, 1) := by decide +kernel
theorem dX3_rearmost_21 : decode cX3_rearmost 21 = .ok (.iaload, 1) := by decide +kernel
theorem dX3_rearmost_22 : decode cX3_rearmost 22 = .ok (.iaload, 1) := by decide +kernel
theorem dX3_rearmost_23 : decode cX3_rearmost 23 = .ok (.iconst 1, 1) := by decide +kernel
theorem dX3_rearmost_24 : decode cX3_rearmost 24 = .ok (.if_icmp .ne 12, 3) := by decide +kernel
theorem dX3_rearmost_27 : decode cX3_rearmost 27 = .ok (.aload_n 0, 1) := by decide +kernel
theorem dX3_rearmost_28 : decode cX3_rearmost 28 = .ok (.getfield 43, 3) := by decide +kernel
theorem dX3_rearmost_31 : decode cX3_rearmost 31 = .ok (.iload_n 2, 1) := by decide +kernel
theorem dX3_rearmost_32 : decode cX3_rearmost 32 = .ok (.iaload, 1) := by decide +kernel
theorem dX3_rearmost_33 : decode cX3_rearmost 33 = .ok (.goto 4, 3) := by decide +kernel
theorem dX3_rearmost_36 : decode cX3_rearmost 36 = .ok (.iload_n 1, 1) := by decide +kernel
theorem dX3_rearmost_37 : decode cX3_rearmost 37 = .ok (.istore_n 1, 1) := by decide +kernel
theorem dX3_rearmost_38 : decode cX3_rearmost 38 = .ok (.iinc 2 1, 3) := by decide +kernel
theorem dX3_rearmost_41 : decode cX3_rearmost 41 = .ok (.goto (-37), 3) := by decide +kernel
theorem dX3_rearmost_44 : decode cX3_rearmost 44 = .ok (.iload_n 1, 1) := by decide +kernel
theorem dX3_rearmost_45 : decode cX3_rearmost 45 = .ok (.ireturn, 1) := by decide +kernel
theorem dX3_afloat_0 : decode cX3_afloat 0 = .ok (.iconst 0, 1) := by decide +kernel
theorem dX3_afloat_1 : decode cX3_afloat 1 = .ok (.istore_n 1, 1) := by decide +kernel
theorem dX3_afloat_2 : decode cX3_afloat 2 = .ok (.iconst 0, 1) := by decide +kernel
theorem dX3_afloat_3 : decode cX3_afloat 3 = .ok (.istore_n 2, 1) := by decide +kernel
theorem dX3_afloat_4 : decode cX3_afloat 4 = .ok (.iload_n 2, 1) := by decide +kernel
theorem dX3_afloat_5 : decode cX3_afloat 5 = .ok (.aload_n 0, 1) := by decide +kernel
theorem dX3_afloat_6 : decode cX3_afloat 6 = .ok (.getfield 63, 3) := by decide +kernel
theorem dX3_afloat_9 : decode cX3_afloat 9 = .ok (.if_icmp .ge 27, 3) := by decide +kernel
theorem dX3_afloat_12 : decode cX3_afloat 12 = .ok (.iload_n 1, 1) := by decide +kernel
theorem dX3_afloat_13 : decode cX3_afloat 13 = .ok (.aload_n 0, 1) := by decide +kernel
theorem dX3_afloat_14 : decode cX3_afloat 14 = .ok (.getfield 37, 3) := by decide +kernel
theorem dX3_afloat_17 : decode cX3_afloat 17 = .ok (.iload_n 2, 1) := by decide +kernel
theorem dX3_afloat_18 : decode cX3_afloat 18 = .ok (.iaload, 1) := by decide +kernel
theorem dX3_afloat_19 : decode cX3_afloat 19 = .ok (.iconst 1, 1) := by decide +kernel
theorem dX3_afloat_20 : decode cX3_afloat 20 = .ok (.if_icmp .ne 7, 3) := by decide +kernel
theorem dX3_afloat_23 : decode cX3_afloat 23 = .ok (.iconst 1, 1) := by decide +kernel
theorem dX3_afloat_24 : decode cX3_afloat 24 = .ok (.goto 4, 3) := by decide +kernel
theorem dX3_afloat_27 : decode cX3_afloat 27 = .ok (.iconst 0, 1) := by decide +kernel
theorem dX3_afloat_28 : decode cX3_afloat 28 = .ok (.iadd, 1) := by decide +kernel
theorem dX3_afloat_29 : decode cX3_afloat 29 = .ok (.istore_n 1, 1) := by decide +kernel
theorem dX3_afloat_30 : decode cX3_afloat 30 = .ok (.iinc 2 1, 3) := by decide +kernel
theorem dX3_afloat_33 : decode cX3_afloat 33 = .ok (.goto (-29), 3) := by decide +kernel
theorem dX3_afloat_36 : decode cX3_afloat 36 = .ok (.iload_n 1, 1) := by decide +kernel
theorem dX3_afloat_37 : decode cX3_afloat 37 = .ok (.ireturn, 1) := by decide +kernel
set_option maxRecDepth 20000 in
theorem ggX3_launch_X3_isFloat : GoodIn wsX3_launch wsX3_isFloat := goodIn_r _ [10, 11, 12, 13, 9, 14, 28, 29, 30, 31, 32, 33, 34, 35, 36, 37, 38, 39, 40, 41, 42, 43, 44, 45, 46, 47, 48, 49] (by decide +kernel) (by decide +kernel)
set_option maxRecDepth 20000 in
theorem gX3_launch_X3_isFloat : GoodIn wsX3_launch (wsV RX3 78 RX3 yX3_isFloat wsX3_isFloat) := goodIn_app (goodIn_of _ (by decide +kernel)) ggX3_launch_X3_isFloat
set_option maxRecDepth 20000 in
theorem ggX3_launch_X3_rearmost : GoodIn wsX3_launch wsX3_rearmost := goodIn_r _ [18, 5, 1, 4, 28, 29, 30, 31, 32, 33, 34, 35, 36, 37, 38, 39, 40, 41, 42, 43, 44, 45, 46, 47, 48, 49] (by decide +kernel) (by decide +kernel)
set_option maxRecDepth 20000 in
theorem gX3_launch_X3_rearmost : GoodIn wsX3_launch (wsV RX3 111 RX3 yX3_rearmost wsX3_rearmost) := goodIn_app (goodIn_of _ (by decide +kernel)) ggX3_launch_X3_rearmost
set_option maxRecDepth 20000 in
theorem ggX3_launch_X3_goes : GoodIn wsX3_launch wsX3_goes := goodIn_r _ [22, 23, 28, 29, 30, 31, 32, 33, 34, 35, 36, 37, 38, 39, 40, 41, 42, 43, 44, 45, 46, 47, 48, 49] (by decide +kernel) (by decide +kernel)
set_option maxRecDepth 20000 in
theorem gX3_launch_X3_goes : GoodIn wsX3_launch (wsV RX3 66 RX3 yX3_goes wsX3_goes) := goodIn_app (goodIn_of _ (by decide +kernel)) ggX3_launch_X3_goes
set_option maxRecDepth 20000 in
theorem ggX3_launch_X3_afloat : GoodIn wsX3_launch wsX3_afloat := goodIn_r _ [27, 11, 1, 28, 29, 30, 31, 32, 33, 34, 35, 36, 37, 38, 39, 40, 41, 42, 43, 44, 45, 46, 47, 48, 49] (by decide +kernel) (by decide +kernel)
set_option maxRecDepth 20000 in
theorem gX3_launch_X3_afloat : GoodIn wsX3_launch (wsV RX3 115 RX3 yX3_afloat wsX3_afloat) := goodIn_app (goodIn_of _ (by decide +kernel)) ggX3_launch_X3_afloat
theorem dX3_launch_0 : decode cX3_launch 0 = .ok (.aload_n 0, 1) := by decide +kernel
theorem dX3_launch_1 : decode cX3_launch 1 = .ok (.iload_n 1, 1) := by decide +kernel
theorem dX3_launch_2 : decode cX3_launch 2 = .ok (.invokevirtual 78, 3) := by decide +kernel
theorem dX3_launch_5 : decode cX3_launch 5 = .ok (.istore_n 2, 1) := by decide +kernel
theorem dX3_launch_6 : decode cX3_launch 6 = .ok (.aload_n 0, 1) := by decide +kernel
theorem dX3_launch_7 : decode cX3_launch 7 = .ok (.invokevirtual 111, 3) := by decide +kernel
theorem dX3_launch_10 : decode cX3_launch 10 = .ok (.istore_n 3, 1) := by decide +kernel
theorem dX3_launch_11 : decode cX3_launch 11 = .ok (.iload_n 2, 1) := by decide +kernel
theorem dX3_launch_12 : decode cX3_launch 12 = .ok (.ifCond .eq 40, 3) := by decide +kernel
theorem dX3_launch_15 : decode cX3_launch 15 = .ok (.aload_n 0, 1) := by decide +kernel
theorem dX3_launch_16 : decode cX3_launch 16 = .ok (.getfield 37, 3) := by decide +kernel
theorem dX3_launch_19 : decode cX3_launch 19 = .ok (.iload_n 1, 1) := by decide +kernel
theorem dX3_launch_20 : decode cX3_launch 20 = .ok (.iaload, 1) := by decide +kernel
theorem dX3_launch_21 : decode cX3_launch 21 = .ok (.ifCond .ne 31, 3) := by decide +kernel
theorem dX3_launch_24 : decode cX3_launch 24 = .ok (.iload_n 3, 1) := by decide +kernel
theorem dX3_launch_25 : decode cX3_launch 25 = .ok (.iconst (-1), 1) := by decide +kernel
theorem dX3_launch_26 : decode cX3_launch 26 = .ok (.if_icmp .eq 22, 3) := by decide +kernel
theorem dX3_launch_29 : decode cX3_launch 29 = .ok (.aload_n 0, 1) := by decide +kernel
theorem dX3_launch_30 : decode cX3_launch 30 = .ok (.getfield 40, 3) := by decide +kernel
theorem dX3_launch_33 : decode cX3_launch 33 = .ok (.iload_n 3, 1) := by decide +kernel
theorem dX3_launch_34 : decode cX3_launch 34 = .ok (.iaload, 1) := by decide +kernel
theorem dX3_launch_35 : decode cX3_launch 35 = .ok (.bipush 9, 2) := by decide +kernel
theorem dX3_launch_37 : decode cX3_launch 37 = .ok (.isub, 1) := by decide +kernel
theorem dX3_launch_38 : decode cX3_launch 38 = .ok (.bipush 9, 2) := by decide +kernel
theorem dX3_launch_40 : decode cX3_launch 40 = .ok (.aload_n 0, 1) := by decide +kernel
theorem dX3_launch_41 : decode cX3_launch 41 = .ok (.getfield 46, 3) := by decide +kernel
theorem dX3_launch_44 : decode cX3_launch 44 = .ok (.iadd, 1) := by decide +kernel
theorem dX3_launch_45 : decode cX3_launch 45 = .ok (.if_icmp .lt 7, 3) := by decide +kernel
theorem dX3_launch_48 : decode cX3_launch 48 = .ok (.iconst 1, 1) := by decide +kernel
theorem dX3_launch_49 : decode cX3_launch 49 = .ok (.goto 4, 3) := by decide +kernel
theorem dX3_launch_52 : decode cX3_launch 52 = .ok (.iconst 0, 1) := by decide +kernel
theorem dX3_launch_53 : decode cX3_launch 53 = .ok (.istore 4, 2) := by decide +kernel
theorem dX3_launch_55 : decode cX3_launch 55 = .ok (.aload_n 0, 1) := by decide +kernel
theorem dX3_launch_56 : decode cX3_launch 56 = .ok (.iload_n 2, 1) := by decide +kernel
theorem dX3_launch_57 : decode cX3_launch 57 = .ok (.iload 4, 2) := by decide +kernel
theorem dX3_launch_59 : decode cX3_launch 59 = .ok (.iconst 1, 1) := by decide +kernel
theorem dX3_launch_60 : decode cX3_launch 60 = .ok (.invokevirtual 66, 3) := by decide +kernel
theorem dX3_launch_63 : decode cX3_launch 63 = .ok (.ifCond .ne 5, 3) := by decide +kernel
theorem dX3_launch_66 : decode cX3_launch 66 = .ok (.iconst 0, 1) := by decide +kernel
theorem dX3_launch_67 : decode cX3_launch 67 = .ok (.ireturn, 1) := by decide +kernel
theorem dX3_launch_68 : decode cX3_launch 68 = .ok (.aload_n 0, 1) := by decide +kernel
theorem dX3_launch_69 : decode cX3_launch 69 = .ok (.getfield 37, 3) := by decide +kernel
theorem dX3_launch_72 : decode cX3_launch 72 = .ok (.iload_n 1, 1) := by decide +kernel
theorem dX3_launch_73 : decode cX3_launch 73 = .ok (.iconst 1, 1) := by decide +kernel
theorem dX3_launch_74 : decode cX3_launch 74 = .ok (.iastore, 1) := by decide +kernel
theorem dX3_launch_75 : decode cX3_launch 75 = .ok (.aload_n 0, 1) := by decide +kernel
theorem dX3_launch_76 : decode cX3_launch 76 = .ok (.getfield 40, 3) := by decide +kernel
theorem dX3_launch_79 : decode cX3_launch 79 = .ok (.iload_n 1, 1) := by decide +kernel
theorem dX3_launch_80 : decode cX3_launch 80 = .ok (.bipush 9, 2) := by decide +kernel
theorem dX3_launch_82 : decode cX3_launch 82 = .ok (.iastore, 1) := by decide +kernel
theorem dX3_launch_83 : decode cX3_launch 83 = .ok (.aload_n 0, 1) := by decide +kernel
theorem dX3_launch_84 : decode cX3_launch 84 = .ok (.getfield 43, 3) := by decide +kernel
theorem dX3_launch_87 : decode cX3_launch 87 = .ok (.aload_n 0, 1) := by decide +kernel
theorem dX3_launch_88 : decode cX3_launch 88 = .ok (.getfield 108, 3) := by decide +kernel
theorem dX3_launch_91 : decode cX3_launch 91 = .ok (.iload_n 1, 1) := by decide +kernel
theorem dX3_launch_92 : decode cX3_launch 92 = .ok (.iastore, 1) := by decide +kernel
theorem dX3_launch_93 : decode cX3_launch 93 = .ok (.aload_n 0, 1) := by decide +kernel
theorem dX3_launch_94 : decode cX3_launch 94 = .ok (.dup, 1) := by decide +kernel
theorem dX3_launch_95 : decode cX3_launch 95 = .ok (.getfield 108, 3) := by decide +kernel
theorem dX3_launch_98 : decode cX3_launch 98 = .ok (.iconst 1, 1) := by decide +kernel
theorem dX3_launch_99 : decode cX3_launch 99 = .ok (.iadd, 1) := by decide +kernel
theorem dX3_launch_100 : decode cX3_launch 100 = .ok (.putfield 108, 3) := by decide +kernel
theorem dX3_launch_103 : decode cX3_launch 103 = .ok (.aload_n 0, 1) := by decide +kernel
theorem dX3_launch_104 : decode cX3_launch 104 = .ok (.invokevirtual 115, 3) := by decide +kernel
theorem dX3_launch_107 : decode cX3_launch 107 = .ok (.ireturn, 1) := by decide +kernel
set_option maxRecDepth 20000 in
theorem ggX3_setRules_X3_in : GoodIn wsX3_setRules wsX3_in := goodIn_r _ [6] (by decide +kernel) (by decide +kernel)
set_option maxRecDepth 20000 in
theorem gX3_setRules_X3_in : GoodIn wsX3_setRules (va_wsS RX3 59 yX3_in wsX3_in) := goodIn_app (goodIn_of _ (by decide +kernel)) ggX3_setRules_X3_in
