theorem dL_isHung_467 : decode cL_isHung 467 = .ok (.iload 7, 2) := by decide +kernel
theorem dL_isHung_469 : decode cL_isHung 469 = .ok (.iconst 3, 1) := by decide +kernel
theorem dL_isHung_470 : decode cL_isHung 470 = .ok (.iadd, 1) := by decide +kernel
theorem dL_isHung_471 : decode cL_isHung 471 = .ok (.iaload, 1) := by decide +kernel
theorem dL_isHung_472 : decode cL_isHung 472 = .ok (.iastore, 1) := by decide +kernel
theorem dL_isHung_473 : decode cL_isHung 473 = .ok (.aload_n 0, 1) := by decide +kernel
theorem dL_isHung_474 : decode cL_isHung 474 = .ok (.iload 6, 2) := by decide +kernel
theorem dL_isHung_476 : decode cL_isHung 476 = .ok (.invokestatic 104, 3) := by decide +kernel
theorem dL_isHung_479 : decode cL_isHung 479 = .ok (.iload 10, 2) := by decide +kernel
theorem dL_isHung_481 : decode cL_isHung 481 = .ok (.ifCond .eq 12, 3) := by decide +kernel
theorem dL_isHung_484 : decode cL_isHung 484 = .ok (.aload_n 1, 1) := by decide +kernel
theorem dL_isHung_485 : decode cL_isHung 485 = .ok (.iload 7, 2) := by decide +kernel
theorem dL_isHung_487 : decode cL_isHung 487 = .ok (.iconst 4, 1) := by decide +kernel
theorem dL_isHung_488 : decode cL_isHung 488 = .ok (.iadd, 1) := by decide +kernel
theorem dL_isHung_489 : decode cL_isHung 489 = .ok (.iaload, 1) := by decide +kernel
theorem dL_isHung_490 : decode cL_isHung 490 = .ok (.goto 5, 3) := by decide +kernel
theorem dL_isHung_493 : decode cL_isHung 493 = .ok (.bipush (-2), 2) := by decide +kernel
theorem dL_isHung_495 : decode cL_isHung 495 = .ok (.if_icmp .ne 7, 3) := by decide +kernel
theorem dL_isHung_498 : decode cL_isHung 498 = .ok (.iconst 1, 1) := by decide +kernel
theorem dL_isHung_499 : decode cL_isHung 499 = .ok (.goto 4, 3) := by decide +kernel
theorem dL_isHung_502 : decode cL_isHung 502 = .ok (.iconst 0, 1) := by decide +kernel
theorem dL_isHung_503 : decode cL_isHung 503 = .ok (.ireturn, 1) := by decide +kernel
set_option maxRecDepth 20000 in
theorem ggL_acts_X2_make : GoodIn wsL_acts wsX2_make := goodIn_ca (goodIn_ca (goodIn_r _ [5, 6, 7, 8, 9, 10, 11, 12, 13, 14, 15, 16, 4, 17, 18, 19, 20, 21, 22, 23, 24, 25, 26, 27, 28, 29, 30, 258, 259, 260, 261, 262, 263, 264, 265, 266, 267, 268, 269, 270, 271, 272, 273, 274, 275, 276] (by decide +kernel) (by decide +kernel)) (goodIn_sub (fun _ h => List.mem_cons_of_mem _ (List.mem_append_left _ (List.mem_append_left _ (List.mem_append_right _ h)))) (by decide +kernel))) (goodIn_sub (fun _ h => List.mem_cons_of_mem _ (List.mem_append_left _ (List.mem_append_right _ h))) (by decide +kernel))
set_option maxRecDepth 20000 in
theorem gL_acts_X2_make : GoodIn wsL_acts (wsV RL 107 RX2 yX2_make wsX2_make) := goodIn_app (goodIn_of _ (by decide +kernel)) ggL_acts_X2_make
set_option maxRecDepth 20000 in
theorem ggL_acts_X2_build : GoodIn wsL_acts wsX2_build := goodIn_ca (goodIn_ca (goodIn_r _ [34, 6, 7, 8, 9, 35, 36, 37, 38, 39, 15, 16, 4, 17, 40, 41, 42, 43, 22, 23, 44, 45, 46, 47, 48, 49, 50, 51, 258, 259, 260, 261, 262, 263, 264, 265, 266, 267, 268, 269, 277, 278, 279, 280, 281, 282, 283] (by decide +kernel) (by decide +kernel)) (goodIn_sub (fun _ h => List.mem_cons_of_mem _ (List.mem_append_left _ (List.mem_append_left _ (List.mem_append_right _ h)))) (by decide +kernel))) (goodIn_sub (fun _ h => List.mem_cons_of_mem _ (List.mem_append_left _ (List.mem_append_right _ h))) (by decide +kernel))
set_option maxRecDepth 20000 in
theorem gL_acts_X2_build : GoodIn wsL_acts (wsV RL 110 RX2 yX2_build wsX2_build) := goodIn_app (goodIn_of _ (by decide +kernel)) ggL_acts_X2_build
set_option maxRecDepth 20000 in
theorem ggL_acts_X2_setRules : GoodIn wsL_acts wsX2_setRules := goodIn_ca (goodIn_r _ [55, 6, 7, 56, 57, 15, 16, 4, 17, 258, 259, 260, 261, 262, 263, 264, 265, 266, 267, 268, 269] (by decide +kernel) (by decide +kernel)) (goodIn_sub (fun _ h => List.mem_cons_of_mem _ (List.mem_append_left _ (List.mem_append_left _ (List.mem_append_right _ h)))) (by decide +kernel))
set_option maxRecDepth 20000 in
theorem gL_acts_X2_setRules : GoodIn wsL_acts (wsV RL 113 RX2 yX2_setRules wsX2_setRules) := goodIn_app (goodIn_of _ (by decide +kernel)) ggL_acts_X2_setRules
set_option maxRecDepth 20000 in
theorem ggL_acts_X2_setGust : GoodIn wsL_acts wsX2_setGust := goodIn_ca (goodIn_r _ [61, 6, 7, 62, 15, 16, 4, 17, 258, 259, 260, 261, 262, 263, 264, 265, 266, 267, 268, 269] (by decide +kernel) (by decide +kernel)) (goodIn_sub (fun _ h => List.mem_cons_of_mem _ (List.mem_append_left _ (List.mem_append_left _ (List.mem_append_right _ h)))) (by decide +kernel))
set_option maxRecDepth 20000 in
theorem gL_acts_X2_setGust : GoodIn wsL_acts (wsV RL 116 RX2 yX2_setGust wsX2_setGust) := goodIn_app (goodIn_of _ (by decide +kernel)) ggL_acts_X2_setGust
set_option maxRecDepth 20000 in
theorem ggL_acts_L_launched : GoodIn wsL_acts wsL_launched := goodIn_ca (goodIn_ca (goodIn_r _ [66, 67, 68, 69, 70, 4, 71, 8, 9, 72, 73, 74, 75, 76, 77, 78, 79, 80, 81, 82, 36, 15, 16, 17, 83, 84, 85, 86, 56, 87, 88, 89, 39, 90, 47, 91, 92, 93, 94, 277, 278, 279, 280, 281, 282, 283, 258, 259, 260, 261, 262, 263, 264, 265, 266, 267, 268, 269] (by decide +kernel) (by decide +kernel)) (goodIn_sub (fun _ h => List.mem_cons_of_mem _ (List.mem_append_left _ (List.mem_append_right _ h))) (by decide +kernel))) (goodIn_sub (fun _ h => List.mem_cons_of_mem _ (List.mem_append_right _ h)) (by decide +kernel))
set_option maxRecDepth 20000 in
theorem gL_acts_L_launched : GoodIn wsL_acts (va_wsS RL 119 yL_launched wsL_launched) := goodIn_app (goodIn_of _ (by decide +kernel)) ggL_acts_L_launched
set_option maxHeartbeats 4000000 in
set_option maxRecDepth 100000 in
theorem ggL_acts_L_minute : GoodIn wsL_acts wsL_minute := goodIn_r _ [97, 98, 99, 65, 100, 101, 102, 103, 104, 105, 106] rfl (by decide +kernel)
set_option maxRecDepth 20000 in
theorem gL_acts_L_minute : GoodIn wsL_acts (va_wsS RL 122 yL_minute wsL_minute) := goodIn_app (goodIn_of _ (by decide +kernel)) ggL_acts_L_minute
set_option maxRecDepth 20000 in
theorem ggL_acts_X2_pass : GoodIn wsL_acts wsX2_pass := goodIn_ca (goodIn_r _ [110, 6, 7, 15, 16, 4, 17, 111, 112, 113, 114, 11, 115, 116, 117, 118, 119, 120, 121, 122, 123, 124, 74, 72, 56, 125, 126, 127, 39, 128, 47, 50, 129, 130, 131, 132, 133, 134, 135, 136, 88, 89, 90, 137, 138, 139, 140, 75, 141, 142, 143, 144, 45, 145, 146, 147, 14, 148, 24, 149, 150, 151, 152, 62, 153, 154, 155, 156, 157, 28, 27, 158, 159, 160, 161, 162, 163, 164, 165, 166, 30, 167, 168, 169, 170, 171, 172, 173, 174, 175, 176, 177, 178, 179, 180, 57, 181, 182, 183, 184, 185, 186, 187, 188, 25, 189, 190, 26, 258, 259, 260, 261, 262, 263, 264, 265, 266, 267, 268, 269, 270, 271, 272, 273, 274, 275, 276, 277, 278, 279, 280, 281, 282, 283] (by decide +kernel) (by decide +kernel)) (goodIn_sub (fun _ h => List.mem_cons_of_mem _ (List.mem_append_left _ (List.mem_append_left _ (List.mem_append_right _ h)))) (by decide +kernel))
set_option maxRecDepth 20000 in
theorem gL_acts_X2_pass : GoodIn wsL_acts (wsV RL 126 RX2 yX2_pass wsX2_pass) := goodIn_app (goodIn_of _ (by decide +kernel)) ggL_acts_X2_pass
set_option maxHeartbeats 4000000 in
set_option maxRecDepth 100000 in
theorem ggL_acts_L_isHung : GoodIn wsL_acts wsL_isHung := goodIn_ca (goodIn_ca (goodIn_ca (goodIn_r _ [193, 194, 195, 65, 196, 197, 198, 199, 200, 67, 201, 202, 203, 4, 204, 81, 82, 6, 7, 8, 9, 205, 72, 206, 207, 208, 209, 210, 11, 15, 16, 17, 77, 78, 79, 80, 36, 211, 212, 213, 39, 214, 45, 215, 216, 217, 218, 219, 220, 221, 14, 222, 27, 28, 29, 223, 224, 225, 226, 227, 228, 229, 230, 231, 232, 233, 234, 235, 236, 237, 238, 239, 240, 241, 158, 146, 147, 148, 24, 242, 243, 244, 245, 246, 247, 248, 115, 249, 104, 105, 106, 98, 99, 100, 101, 102, 103, 250, 251, 252, 253, 254, 255, 256, 257, 186, 187, 188, 25, 189, 190, 26, 172, 173, 174, 175, 176, 177, 178, 179, 180, 57, 181, 182, 183, 184, 185, 270, 271, 272, 273, 274, 275, 276, 277, 278, 279, 280, 281, 282, 283, 258, 259, 260, 261, 262, 263, 264, 265, 266, 267, 268, 269] rfl (by decide +kernel)) (goodIn_sub (fun _ h => List.mem_cons_of_mem _ (List.mem_append_right _ h)) (by decide +kernel))) (goodIn_sub (fun _ h => List.mem_cons_of_mem _ (List.mem_append_left _ (List.mem_append_left _ (List.mem_append_right _ h)))) (by decide +kernel))) (goodIn_sub (fun _ h => List.mem_cons_of_mem _ (List.mem_append_left _ (List.mem_append_right _ h))) (by decide +kernel))
set_option maxRecDepth 20000 in
theorem gL_acts_L_isHung : GoodIn wsL_acts (va_wsS RL 129 yL_isHung wsL_isHung) := goodIn_app (goodIn_of _ (by decide +kernel)) ggL_acts_L_isHung
theorem dL_acts_0 : decode cL_acts 0 = .ok (.iload 6, 2) := by decide +kernel
theorem dL_acts_2 : decode cL_acts 2 = .ok (.ifCond .ne 132, 3) := by decide +kernel
theorem dL_acts_5 : decode cL_acts 5 = .ok (.aload 5, 2) := by decide +kernel
theorem dL_acts_7 : decode cL_acts 7 = .ok (.iconst 0, 1) := by decide +kernel
theorem dL_acts_8 : decode cL_acts 8 = .ok (.iaload, 1) := by decide +kernel
theorem dL_acts_9 : decode cL_acts 9 = .ok (.bipush 8, 2) := by decide +kernel
theorem dL_acts_11 : decode cL_acts 11 = .ok (.if_icmp .ge 123, 3) := by decide +kernel
theorem dL_acts_14 : decode cL_acts 14 = .ok (.bipush 8, 2) := by decide +kernel
theorem dL_acts_16 : decode cL_acts 16 = .ok (.aload 5, 2) := by decide +kernel
theorem dL_acts_18 : decode cL_acts 18 = .ok (.iconst 0, 1) := by decide +kernel
theorem dL_acts_19 : decode cL_acts 19 = .ok (.iaload, 1) := by decide +kernel
theorem dL_acts_20 : decode cL_acts 20 = .ok (.imul, 1) := by decide +kernel
theorem dL_acts_21 : decode cL_acts 21 = .ok (.istore 8, 2) := by decide +kernel
theorem dL_acts_23 : decode cL_acts 23 = .ok (.aload_n 1, 1) := by decide +kernel
theorem dL_acts_24 : decode cL_acts 24 = .ok (.iload 8, 2) := by decide +kernel
theorem dL_acts_26 : decode cL_acts 26 = .ok (.iconst 4, 1) := by decide +kernel
theorem dL_acts_27 : decode cL_acts 27 = .ok (.iload 7, 2) := by decide +kernel
theorem dL_acts_29 : decode cL_acts 29 = .ok (.bipush 9, 2) := by decide +kernel
theorem dL_acts_31 : decode cL_acts 31 = .ok (.irem, 1) := by decide +kernel
theorem dL_acts_32 : decode cL_acts 32 = .ok (.iadd, 1) := by decide +kernel
theorem dL_acts_33 : decode cL_acts 33 = .ok (.iastore, 1) := by decide +kernel
theorem dL_acts_34 : decode cL_acts 34 = .ok (.aload_n 1, 1) := by decide +kernel
theorem dL_acts_35 : decode cL_acts 35 = .ok (.iload 8, 2) := by decide +kernel
theorem dL_acts_37 : decode cL_acts 37 = .ok (.iconst 1, 1) := by decide +kernel
theorem dL_acts_38 : decode cL_acts 38 = .ok (.iadd, 1) := by decide +kernel
theorem dL_acts_39 : decode cL_acts 39 = .ok (.iload 7, 2) := by decide +kernel
theorem dL_acts_41 : decode cL_acts 41 = .ok (.bipush 9, 2) := by decide +kernel
theorem dL_acts_43 : decode cL_acts 43 = .ok (.idiv, 1) := by decide +kernel
theorem dL_acts_44 : decode cL_acts 44 = .ok (.iconst 4, 1) := by decide +kernel
theorem dL_acts_45 : decode cL_acts 45 = .ok (.irem, 1) := by decide +kernel
theorem dL_acts_46 : decode cL_acts 46 = .ok (.iastore, 1) := by decide +kernel
theorem dL_acts_47 : decode cL_acts 47 = .ok (.aload_n 1, 1) := by decide +kernel
theorem dL_acts_48 : decode cL_acts 48 = .ok (.iload 8, 2) := by decide +kernel
theorem dL_acts_50 : decode cL_acts 50 = .ok (.iconst 2, 1) := by decide +kernel
theorem dL_acts_51 : decode cL_acts 51 = .ok (.iadd, 1) := by decide +kernel
theorem dL_acts_52 : decode cL_acts 52 = .ok (.iconst 1, 1) := by decide +kernel
theorem dL_acts_53 : decode cL_acts 53 = .ok (.iload 7, 2) := by decide +kernel
theorem dL_acts_55 : decode cL_acts 55 = .ok (.bipush 36, 2) := by decide +kernel
theorem dL_acts_57 : decode cL_acts 57 = .ok (.idiv, 1) := by decide +kernel
theorem dL_acts_58 : decode cL_acts 58 = .ok (.iconst 4, 1) := by decide +kernel
theorem dL_acts_59 : decode cL_acts 59 = .ok (.irem, 1) := by decide +kernel
theorem dL_acts_60 : decode cL_acts 60 = .ok (.iadd, 1) := by decide +kernel
theorem dL_acts_61 : decode cL_acts 61 = .ok (.iastore, 1) := by decide +kernel
theorem dL_acts_62 : decode cL_acts 62 = .ok (.aload_n 1, 1) := by decide +kernel
theorem dL_acts_63 : decode cL_acts 63 = .ok (.iload 8, 2) := by decide +kernel
theorem dL_acts_65 : decode cL_acts 65 = .ok (.iconst 3, 1) := by decide +kernel
theorem dL_acts_66 : decode cL_acts 66 = .ok (.iadd, 1) := by decide +kernel
theorem dL_acts_67 : decode cL_acts 67 = .ok (.iconst 0, 1) := by decide +kernel
theorem dL_acts_68 : decode cL_acts 68 = .ok (.iastore, 1) := by decide +kernel
theorem dL_acts_69 : decode cL_acts 69 = .ok (.aload_n 1, 1) := by decide +kernel
theorem dL_acts_70 : decode cL_acts 70 = .ok (.iload 8, 2) := by decide +kernel
theorem dL_acts_72 : decode cL_acts 72 = .ok (.iconst 4, 1) := by decide +kernel
theorem dL_acts_73 : decode cL_acts 73 = .ok (.iadd, 1) := by decide +kernel
theorem dL_acts_74 : decode cL_acts 74 = .ok (.bipush 20, 2) := by decide +kernel
theorem dL_acts_76 : decode cL_acts 76 = .ok (.aload_n 1, 1) := by decide +kernel
theorem dL_acts_77 : decode cL_acts 77 = .ok (.iload 8, 2) := by decide +kernel
theorem dL_acts_79 : decode cL_acts 79 = .ok (.iconst 2, 1) := by decide +kernel
theorem dL_acts_80 : decode cL_acts 80 = .ok (.iadd, 1) := by decide +kernel
theorem dL_acts_81 : decode cL_acts 81 = .ok (.iaload, 1) := by decide +kernel
theorem dL_acts_82 : decode cL_acts 82 = .ok (.imul, 1) := by decide +kernel
theorem dL_acts_83 : decode cL_acts 83 = .ok (.iastore, 1) := by decide +kernel
theorem dL_acts_84 : decode cL_acts 84 = .ok (.aload_n 1, 1) := by decide +kernel
theorem dL_acts_85 : decode cL_acts 85 = .ok (.iload 8, 2) := by decide +kernel
theorem dL_acts_87 : decode cL_acts 87 = .ok (.iconst 5, 1) := by decide +kernel
theorem dL_acts_88 : decode cL_acts 88 = .ok (.iadd, 1) := by decide +kernel
theorem dL_acts_89 : decode cL_acts 89 = .ok (.iconst (-1), 1) := by decide +kernel
theorem dL_acts_90 : decode cL_acts 90 = .ok (.iastore, 1) := by decide +kernel
theorem dL_acts_91 : decode cL_acts 91 = .ok (.aload 5, 2) := by decide +kernel
theorem dL_acts_93 : decode cL_acts 93 = .ok (.iconst 0, 1) := by decide +kernel
theorem dL_acts_94 : decode cL_acts 94 = .ok (.dup2, 1) := by decide +kernel
theorem dL_acts_95 : decode cL_acts 95 = .ok (.iaload, 1) := by decide +kernel
theorem dL_acts_96 : decode cL_acts 96 = .ok (.iconst 1, 1) := by decide +kernel
theorem dL_acts_97 : decode cL_acts 97 = .ok (.iadd, 1) := by decide +kernel
theorem dL_acts_98 : decode cL_acts 98 = .ok (.iastore, 1) := by decide +kernel
theorem dL_acts_99 : decode cL_acts 99 = .ok (.aload_n 0, 1) := by decide +kernel
theorem dL_acts_100 : decode cL_acts 100 = .ok (.aload_n 1, 1) := by decide +kernel
theorem dL_acts_101 : decode cL_acts 101 = .ok (.iload 8, 2) := by decide +kernel
theorem dL_acts_103 : decode cL_acts 103 = .ok (.iaload, 1) := by decide +kernel
theorem dL_acts_104 : decode cL_acts 104 = .ok (.aload_n 1, 1) := by decide +kernel
theorem dL_acts_105 : decode cL_acts 105 = .ok (.iload 8, 2) := by decide +kernel
theorem dL_acts_107 : decode cL_acts 107 = .ok (.iconst 1, 1) := by decide +kernel
theorem dL_acts_108 : decode cL_acts 108 = .ok (.iadd, 1) := by decide +kernel
theorem dL_acts_109 : decode cL_acts 109 = .ok (.iaload, 1) := by decide +kernel
theorem dL_acts_110 : decode cL_acts 110 = .ok (.aload_n 1, 1) := by decide +kernel
theorem dL_acts_111 : decode cL_acts 111 = .ok (.iload 8, 2) := by decide +kernel
theorem dL_acts_113 : decode cL_acts 113 = .ok (.iconst 2, 1) := by decide +kernel
theorem dL_acts_114 : decode cL_acts 114 = .ok (.iadd, 1) := by decide +kernel
theorem dL_acts_115 : decode cL_acts 115 = .ok (.iaload, 1) := by decide +kernel
theorem dL_acts_116 : decode cL_acts 116 = .ok (.invokevirtual 107, 3) := by decide +kernel
theorem dL_acts_119 : decode cL_acts 119 = .ok (.aload 5, 2) := by decide +kernel
theorem dL_acts_121 : decode cL_acts 121 = .ok (.iconst 0, 1) := by decide +kernel
theorem dL_acts_122 : decode cL_acts 122 = .ok (.iaload, 1) := by decide +kernel
theorem dL_acts_123 : decode cL_acts 123 = .ok (.iconst 1, 1) := by decide +kernel
theorem dL_acts_124 : decode cL_acts 124 = .ok (.isub, 1) := by decide +kernel
theorem dL_acts_125 : decode cL_acts 125 = .ok (.if_icmp .ne 7, 3) := by decide +kernel
theorem dL_acts_128 : decode cL_acts 128 = .ok (.iconst 1, 1) := by decide +kernel
theorem dL_acts_129 : decode cL_acts 129 = .ok (.goto 4, 3) := by decide +kernel
theorem dL_acts_132 : decode cL_acts 132 = .ok (.iconst 0, 1) := by decide +kernel
theorem dL_acts_133 : decode cL_acts 133 = .ok (.ireturn, 1) := by decide +kernel
theorem dL_acts_134 : decode cL_acts 134 = .ok (.iload 6, 2) := by decide +kernel
theorem dL_acts_136 : decode cL_acts 136 = .ok (.iconst 1, 1) := by decide +kernel
theorem dL_acts_137 : decode cL_acts 137 = .ok (.if_icmp .ne 98, 3) := by decide +kernel
theorem dL_acts_140 : decode cL_acts 140 = .ok (.aload 5, 2) := by decide +kernel
theorem dL_acts_142 : decode cL_acts 142 = .ok (.iconst 1, 1) := by decide +kernel
theorem dL_acts_143 : decode cL_acts 143 = .ok (.iaload, 1) := by decide +kernel
theorem dL_acts_144 : decode cL_acts 144 = .ok (.iconst 5, 1) := by decide +kernel
theorem dL_acts_145 : decode cL_acts 145 = .ok (.if_icmp .ge 90, 3) := by decide +kernel
theorem dL_acts_148 : decode cL_acts 148 = .ok (.iconst 4, 1) := by decide +kernel
theorem dL_acts_149 : decode cL_acts 149 = .ok (.aload 5, 2) := by decide +kernel
theorem dL_acts_151 : decode cL_acts 151 = .ok (.iconst 1, 1) := by decide +kernel
theorem dL_acts_152 : decode cL_acts 152 = .ok (.iaload, 1) := by decide +kernel
theorem dL_acts_153 : decode cL_acts 153 = .ok (.imul, 1) := by decide +kernel
theorem dL_acts_154 : decode cL_acts 154 = .ok (.istore 8, 2) := by decide +kernel
theorem dL_acts_156 : decode cL_acts 156 = .ok (.aload_n 2, 1) := by decide +kernel
theorem dL_acts_157 : decode cL_acts 157 = .ok (.iload 8, 2) := by decide +kernel
theorem dL_acts_159 : decode cL_acts 159 = .ok (.iconst 1, 1) := by decide +kernel
theorem dL_acts_160 : decode cL_acts 160 = .ok (.iload 7, 2) := by decide +kernel
theorem dL_acts_162 : decode cL_acts 162 = .ok (.bipush 9, 2) := by decide +kernel
theorem dL_acts_164 : decode cL_acts 164 = .ok (.irem, 1) := by decide +kernel
theorem dL_acts_165 : decode cL_acts 165 = .ok (.iadd, 1) := by decide +kernel
theorem dL_acts_166 : decode cL_acts 166 = .ok (.iastore, 1) := by decide +kernel
theorem dL_acts_167 : decode cL_acts 167 = .ok (.aload_n 2, 1) := by decide +kernel
theorem dL_acts_168 : decode cL_acts 168 = .ok (.iload 8, 2) := by decide +kernel
theorem dL_acts_170 : decode cL_acts 170 = .ok (.iconst 1, 1) := by decide +kernel
theorem dL_acts_171 : decode cL_acts 171 = .ok (.iadd, 1) := by decide +kernel
theorem dL_acts_172 : decode cL_acts 172 = .ok (.iload 7, 2) := by decide +kernel
theorem dL_acts_174 : decode cL_acts 174 = .ok (.iconst 4, 1) := by decide +kernel
theorem dL_acts_175 : decode cL_acts 175 = .ok (.irem, 1) := by decide +kernel
theorem dL_acts_176 : decode cL_acts 176 = .ok (.ifCond .ne 18, 3) := by decide +kernel
theorem dL_acts_179 : decode cL_acts 179 = .ok (.bipush 100, 2) := by decide +kernel
theorem dL_acts_181 : decode cL_acts 181 = .ok (.iload 7, 2) := by decide +kernel
theorem dL_acts_183 : decode cL_acts 183 = .ok (.bipush 9, 2) := by decide +kernel
theorem dL_acts_185 : decode cL_acts 185 = .ok (.idiv, 1) := by decide +kernel
theorem dL_acts_186 : decode cL_acts 186 = .ok (.sipush 600, 3) := by decide +kernel
theorem dL_acts_189 : decode cL_acts 189 = .ok (.irem, 1) := by decide +kernel
theorem dL_acts_190 : decode cL_acts 190 = .ok (.iadd, 1) := by decide +kernel
theorem dL_acts_191 : decode cL_acts 191 = .ok (.goto 6, 3) := by decide +kernel
theorem dL_acts_194 : decode cL_acts 194 = .ok (.sipush 2000, 3) := by decide +kernel
theorem dL_acts_197 : decode cL_acts 197 = .ok (.iastore, 1) := by decide +kernel
theorem dL_acts_198 : decode cL_acts 198 = .ok (.aload 5, 2) := by decide +kernel
theorem dL_acts_200 : decode cL_acts 200 = .ok (.iconst 1, 1) := by decide +kernel
theorem dL_acts_201 : decode cL_acts 201 = .ok (.dup2, 1) := by decide +kernel
theorem dL_acts_202 : decode cL_acts 202 = .ok (.iaload, 1) := by decide +kernel
theorem dL_acts_203 : decode cL_acts 203 = .ok (.iconst 1, 1) := by decide +kernel
theorem dL_acts_204 : decode cL_acts 204 = .ok (.iadd, 1) := by decide +kernel
theorem dL_acts_205 : decode cL_acts 205 = .ok (.iastore, 1) := by decide +kernel
theorem dL_acts_206 : decode cL_acts 206 = .ok (.aload_n 0, 1) := by decide +kernel
theorem dL_acts_207 : decode cL_acts 207 = .ok (.aload_n 2, 1) := by decide +kernel
theorem dL_acts_208 : decode cL_acts 208 = .ok (.iload 8, 2) := by decide +kernel
theorem dL_acts_210 : decode cL_acts 210 = .ok (.iaload, 1) := by decide +kernel
theorem dL_acts_211 : decode cL_acts 211 = .ok (.aload_n 2, 1) := by decide +kernel
theorem dL_acts_212 : decode cL_acts 212 = .ok (.iload 8, 2) := by decide +kernel
theorem dL_acts_214 : decode cL_acts 214 = .ok (.iconst 1, 1) := by decide +kernel
theorem dL_acts_215 : decode cL_acts 215 = .ok (.iadd, 1) := by decide +kernel
theorem dL_acts_216 : decode cL_acts 216 = .ok (.iaload, 1) := by decide +kernel
theorem dL_acts_217 : decode cL_acts 217 = .ok (.invokevirtual 110, 3) := by decide +kernel
theorem dL_acts_220 : decode cL_acts 220 = .ok (.aload 5, 2) := by decide +kernel
theorem dL_acts_222 : decode cL_acts 222 = .ok (.iconst 1, 1) := by decide +kernel
theorem dL_acts_223 : decode cL_acts 223 = .ok (.iaload, 1) := by decide +kernel
theorem dL_acts_224 : decode cL_acts 224 = .ok (.iconst 1, 1) := by decide +kernel
theorem dL_acts_225 : decode cL_acts 225 = .ok (.isub, 1) := by decide +kernel
theorem dL_acts_226 : decode cL_acts 226 = .ok (.if_icmp .ne 7, 3) := by decide +kernel
theorem dL_acts_229 : decode cL_acts 229 = .ok (.iconst 1, 1) := by decide +kernel
theorem dL_acts_230 : decode cL_acts 230 = .ok (.goto 4, 3) := by decide +kernel
theorem dL_acts_233 : decode cL_acts 233 = .ok (.iconst 0, 1) := by decide +kernel
theorem dL_acts_234 : decode cL_acts 234 = .ok (.ireturn, 1) := by decide +kernel
theorem dL_acts_235 : decode cL_acts 235 = .ok (.iload 6, 2) := by decide +kernel
theorem dL_acts_237 : decode cL_acts 237 = .ok (.iconst 2, 1) := by decide +kernel
theorem dL_acts_238 : decode cL_acts 238 = .ok (.if_icmp .ne 54, 3) := by decide +kernel
theorem dL_acts_241 : decode cL_acts 241 = .ok (.aload 5, 2) := by decide +kernel
theorem dL_acts_243 : decode cL_acts 243 = .ok (.iconst 3, 1) := by decide +kernel
theorem dL_acts_244 : decode cL_acts 244 = .ok (.iaload, 1) := by decide +kernel
theorem dL_acts_245 : decode cL_acts 245 = .ok (.istore 8, 2) := by decide +kernel
theorem dL_acts_247 : decode cL_acts 247 = .ok (.aload 5, 2) := by decide +kernel
theorem dL_acts_249 : decode cL_acts 249 = .ok (.iconst 3, 1) := by decide +kernel
theorem dL_acts_250 : decode cL_acts 250 = .ok (.iconst 1, 1) := by decide +kernel
theorem dL_acts_251 : decode cL_acts 251 = .ok (.iload 7, 2) := by decide +kernel
theorem dL_acts_253 : decode cL_acts 253 = .ok (.bipush 8, 2) := by decide +kernel
theorem dL_acts_255 : decode cL_acts 255 = .ok (.irem, 1) := by decide +kernel
theorem dL_acts_256 : decode cL_acts 256 = .ok (.iadd, 1) := by decide +kernel
theorem dL_acts_257 : decode cL_acts 257 = .ok (.iastore, 1) := by decide +kernel
theorem dL_acts_258 : decode cL_acts 258 = .ok (.aload 5, 2) := by decide +kernel
theorem dL_acts_260 : decode cL_acts 260 = .ok (.iconst 4, 1) := by decide +kernel
theorem dL_acts_261 : decode cL_acts 261 = .ok (.iload 7, 2) := by decide +kernel
theorem dL_acts_263 : decode cL_acts 263 = .ok (.bipush 8, 2) := by decide +kernel
theorem dL_acts_265 : decode cL_acts 265 = .ok (.idiv, 1) := by decide +kernel
theorem dL_acts_266 : decode cL_acts 266 = .ok (.iconst 4, 1) := by decide +kernel
theorem dL_acts_267 : decode cL_acts 267 = .ok (.irem, 1) := by decide +kernel
theorem dL_acts_268 : decode cL_acts 268 = .ok (.iastore, 1) := by decide +kernel
theorem dL_acts_269 : decode cL_acts 269 = .ok (.aload_n 0, 1) := by decide +kernel
theorem dL_acts_270 : decode cL_acts 270 = .ok (.aload 5, 2) := by decide +kernel
theorem dL_acts_272 : decode cL_acts 272 = .ok (.iconst 3, 1) := by decide +kernel
theorem dL_acts_273 : decode cL_acts 273 = .ok (.iaload, 1) := by decide +kernel
theorem dL_acts_274 : decode cL_acts 274 = .ok (.aload 5, 2) := by decide +kernel
theorem dL_acts_276 : decode cL_acts 276 = .ok (.iconst 4, 1) := by decide +kernel
theorem dL_acts_277 : decode cL_acts 277 = .ok (.iaload, 1) := by decide +kernel
theorem dL_acts_278 : decode cL_acts 278 = .ok (.invokevirtual 113, 3) := by decide +kernel
theorem dL_acts_281 : decode cL_acts 281 = .ok (.iload 8, 2) := by decide +kernel
theorem dL_acts_283 : decode cL_acts 283 = .ok (.if_icmp .ne 7, 3) := by decide +kernel
theorem dL_acts_286 : decode cL_acts 286 = .ok (.iconst 1, 1) := by decide +kernel
theorem dL_acts_287 : decode cL_acts 287 = .ok (.goto 4, 3) := by decide +kernel
theorem dL_acts_290 : decode cL_acts 290 = .ok (.iconst 0, 1) := by decide +kernel
theorem dL_acts_291 : decode cL_acts 291 = .ok (.ireturn, 1) := by decide +kernel
theorem dL_acts_292 : decode cL_acts 292 = .ok (.iload 6, 2) := by decide +kernel
theorem dL_acts_294 : decode cL_acts 294 = .ok (.iconst 3, 1) := by decide +kernel
theorem dL_acts_295 : decode cL_acts 295 = .ok (.if_icmp .ne 74, 3) := by decide +kernel
theorem dL_acts_298 : decode cL_acts 298 = .ok (.iconst 1, 1) := by decide +kernel
theorem dL_acts_299 : decode cL_acts 299 = .ok (.iload 7, 2) := by decide +kernel
theorem dL_acts_301 : decode cL_acts 301 = .ok (.iconst 2, 1) := by decide +kernel
theorem dL_acts_302 : decode cL_acts 302 = .ok (.irem, 1) := by decide +kernel
theorem dL_acts_303 : decode cL_acts 303 = .ok (.ifCond .ne 13, 3) := by decide +kernel
theorem dL_acts_306 : decode cL_acts 306 = .ok (.iload 7, 2) := by decide +kernel
theorem dL_acts_308 : decode cL_acts 308 = .ok (.iconst 2, 1) := by decide +kernel
theorem dL_acts_309 : decode cL_acts 309 = .ok (.idiv, 1) := by decide +kernel
theorem dL_acts_310 : decode cL_acts 310 = .ok (.bipush 63, 2) := by decide +kernel
theorem dL_acts_312 : decode cL_acts 312 = .ok (.irem, 1) := by decide +kernel
theorem dL_acts_313 : decode cL_acts 313 = .ok (.goto 10, 3) := by decide +kernel
theorem dL_acts_316 : decode cL_acts 316 = .ok (.aload 5, 2) := by decide +kernel
theorem dL_acts_318 : decode cL_acts 318 = .ok (.iconst 5, 1) := by decide +kernel
theorem dL_acts_319 : decode cL_acts 319 = .ok (.iaload, 1) := by decide +kernel
theorem dL_acts_320 : decode cL_acts 320 = .ok (.bipush 60, 2) := by decide +kernel
theorem dL_acts_322 : decode cL_acts 322 = .ok (.irem, 1) := by decide +kernel
theorem dL_acts_323 : decode cL_acts 323 = .ok (.iadd, 1) := by decide +kernel
theorem dL_acts_324 : decode cL_acts 324 = .ok (.istore 8, 2) := by decide +kernel
theorem dL_acts_326 : decode cL_acts 326 = .ok (.aload 4, 2) := by decide +kernel
theorem dL_acts_328 : decode cL_acts 328 = .ok (.iload 8, 2) := by decide +kernel
theorem dL_acts_330 : decode cL_acts 330 = .ok (.iaload, 1) := by decide +kernel
theorem dL_acts_331 : decode cL_acts 331 = .ok (.istore 9, 2) := by decide +kernel
theorem dL_acts_333 : decode cL_acts 333 = .ok (.aload 4, 2) := by decide +kernel
theorem dL_acts_335 : decode cL_acts 335 = .ok (.iload 8, 2) := by decide +kernel
theorem dL_acts_337 : decode cL_acts 337 = .ok (.iload 7, 2) := by decide +kernel
theorem dL_acts_339 : decode cL_acts 339 = .ok (.sipush 128, 3) := by decide +kernel
theorem dL_acts_342 : decode cL_acts 342 = .ok (.idiv, 1) := by decide +kernel
theorem dL_acts_343 : decode cL_acts 343 = .ok (.bipush 10, 2) := by decide +kernel
theorem dL_acts_345 : decode cL_acts 345 = .ok (.irem, 1) := by decide +kernel
theorem dL_acts_346 : decode cL_acts 346 = .ok (.iastore, 1) := by decide +kernel
theorem dL_acts_347 : decode cL_acts 347 = .ok (.aload_n 0, 1) := by decide +kernel
theorem dL_acts_348 : decode cL_acts 348 = .ok (.iload 8, 2) := by decide +kernel
theorem dL_acts_350 : decode cL_acts 350 = .ok (.aload 4, 2) := by decide +kernel
theorem dL_acts_352 : decode cL_acts 352 = .ok (.iload 8, 2) := by decide +kernel
theorem dL_acts_354 : decode cL_acts 354 = .ok (.iaload, 1) := by decide +kernel
theorem dL_acts_355 : decode cL_acts 355 = .ok (.invokevirtual 116, 3) := by decide +kernel
theorem dL_acts_358 : decode cL_acts 358 = .ok (.iload 9, 2) := by decide +kernel
theorem dL_acts_360 : decode cL_acts 360 = .ok (.if_icmp .ne 7, 3) := by decide +kernel
theorem dL_acts_363 : decode cL_acts 363 = .ok (.iconst 1, 1) := by decide +kernel
theorem dL_acts_364 : decode cL_acts 364 = .ok (.goto 4, 3) := by decide +kernel
theorem dL_acts_367 : decode cL_acts 367 = .ok (.iconst 0, 1) := by decide +kernel
theorem dL_acts_368 : decode cL_acts 368 = .ok (.ireturn, 1) := by decide +kernel
theorem dL_acts_369 : decode cL_acts 369 = .ok (.iload 6, 2) := by decide +kernel
theorem dL_acts_371 : decode cL_acts 371 = .ok (.bipush 7, 2) := by decide +kernel
theorem dL_acts_373 : decode cL_acts 373 = .ok (.if_icmp .ge 130, 3) := by decide +kernel
theorem dL_acts_376 : decode cL_acts 376 = .ok (.iload 7, 2) := by decide +kernel
theorem dL_acts_378 : decode cL_acts 378 = .ok (.aload 5, 2) := by decide +kernel
theorem dL_acts_380 : decode cL_acts 380 = .ok (.iconst 1, 1) := by decide +kernel
theorem dL_acts_381 : decode cL_acts 381 = .ok (.iaload, 1) := by decide +kernel
theorem dL_acts_382 : decode cL_acts 382 = .ok (.irem, 1) := by decide +kernel
theorem dL_acts_383 : decode cL_acts 383 = .ok (.istore 8, 2) := by decide +kernel
theorem dL_acts_385 : decode cL_acts 385 = .ok (.aload_n 2, 1) := by decide +kernel
theorem dL_acts_386 : decode cL_acts 386 = .ok (.iconst 4, 1) := by decide +kernel
theorem dL_acts_387 : decode cL_acts 387 = .ok (.iload 8, 2) := by decide +kernel
theorem dL_acts_389 : decode cL_acts 389 = .ok (.imul, 1) := by decide +kernel
theorem dL_acts_390 : decode cL_acts 390 = .ok (.iconst 2, 1) := by decide +kernel
theorem dL_acts_391 : decode cL_acts 391 = .ok (.iadd, 1) := by decide +kernel
theorem dL_acts_392 : decode cL_acts 392 = .ok (.iaload, 1) := by decide +kernel
theorem dL_acts_393 : decode cL_acts 393 = .ok (.ifCond .ne 38, 3) := by decide +kernel
theorem dL_acts_396 : decode cL_acts 396 = .ok (.aload 5, 2) := by decide +kernel
theorem dL_acts_398 : decode cL_acts 398 = .ok (.iconst 2, 1) := by decide +kernel
theorem dL_acts_399 : decode cL_acts 399 = .ok (.iaload, 1) := by decide +kernel
theorem dL_acts_400 : decode cL_acts 400 = .ok (.ifCond .eq 27, 3) := by decide +kernel
theorem dL_acts_403 : decode cL_acts 403 = .ok (.aload_n 2, 1) := by decide +kernel
theorem dL_acts_404 : decode cL_acts 404 = .ok (.iconst 4, 1) := by decide +kernel
theorem dL_acts_405 : decode cL_acts 405 = .ok (.aload_n 3, 1) := by decide +kernel
theorem dL_acts_406 : decode cL_acts 406 = .ok (.aload 5, 2) := by decide +kernel
theorem dL_acts_408 : decode cL_acts 408 = .ok (.iconst 2, 1) := by decide +kernel
theorem dL_acts_409 : decode cL_acts 409 = .ok (.iaload, 1) := by decide +kernel
theorem dL_acts_410 : decode cL_acts 410 = .ok (.iconst 1, 1) := by decide +kernel
theorem dL_acts_411 : decode cL_acts 411 = .ok (.isub, 1) := by decide +kernel
theorem dL_acts_412 : decode cL_acts 412 = .ok (.iaload, 1) := by decide +kernel
theorem dL_acts_413 : decode cL_acts 413 = .ok (.imul, 1) := by decide +kernel
theorem dL_acts_414 : decode cL_acts 414 = .ok (.iconst 3, 1) := by decide +kernel
theorem dL_acts_415 : decode cL_acts 415 = .ok (.iadd, 1) := by decide +kernel
theorem dL_acts_416 : decode cL_acts 416 = .ok (.iaload, 1) := by decide +kernel
theorem dL_acts_417 : decode cL_acts 417 = .ok (.bipush 18, 2) := by decide +kernel
theorem dL_acts_419 : decode cL_acts 419 = .ok (.aload 5, 2) := by decide +kernel
theorem dL_acts_421 : decode cL_acts 421 = .ok (.iconst 3, 1) := by decide +kernel
theorem dL_acts_422 : decode cL_acts 422 = .ok (.iaload, 1) := by decide +kernel
theorem dL_acts_423 : decode cL_acts 423 = .ok (.iadd, 1) := by decide +kernel
theorem dL_acts_424 : decode cL_acts 424 = .ok (.if_icmp .lt 7, 3) := by decide +kernel
theorem dL_acts_427 : decode cL_acts 427 = .ok (.iconst 1, 1) := by decide +kernel
theorem dL_acts_428 : decode cL_acts 428 = .ok (.goto 4, 3) := by decide +kernel
theorem dL_acts_431 : decode cL_acts 431 = .ok (.iconst 0, 1) := by decide +kernel
theorem dL_acts_432 : decode cL_acts 432 = .ok (.istore 9, 2) := by decide +kernel
theorem dL_acts_434 : decode cL_acts 434 = .ok (.iload 9, 2) := by decide +kernel
theorem dL_acts_436 : decode cL_acts 436 = .ok (.ifCond .eq 38, 3) := by decide +kernel
theorem dL_acts_439 : decode cL_acts 439 = .ok (.aload_n 2, 1) := by decide +kernel
theorem dL_acts_440 : decode cL_acts 440 = .ok (.iconst 4, 1) := by decide +kernel
theorem dL_acts_441 : decode cL_acts 441 = .ok (.iload 8, 2) := by decide +kernel
theorem dL_acts_443 : decode cL_acts 443 = .ok (.imul, 1) := by decide +kernel
theorem dL_acts_444 : decode cL_acts 444 = .ok (.iconst 2, 1) := by decide +kernel
theorem dL_acts_445 : decode cL_acts 445 = .ok (.iadd, 1) := by decide +kernel
theorem dL_acts_446 : decode cL_acts 446 = .ok (.iconst 1, 1) := by decide +kernel
theorem dL_acts_447 : decode cL_acts 447 = .ok (.iastore, 1) := by decide +kernel
theorem dL_acts_448 : decode cL_acts 448 = .ok (.aload_n 2, 1) := by decide +kernel
theorem dL_acts_449 : decode cL_acts 449 = .ok (.iconst 4, 1) := by decide +kernel
theorem dL_acts_450 : decode cL_acts 450 = .ok (.iload 8, 2) := by decide +kernel
theorem dL_acts_452 : decode cL_acts 452 = .ok (.imul, 1) := by decide +kernel
theorem dL_acts_453 : decode cL_acts 453 = .ok (.iconst 3, 1) := by decide +kernel
theorem dL_acts_454 : decode cL_acts 454 = .ok (.iadd, 1) := by decide +kernel
theorem dL_acts_455 : decode cL_acts 455 = .ok (.bipush 9, 2) := by decide +kernel
theorem dL_acts_457 : decode cL_acts 457 = .ok (.iastore, 1) := by decide +kernel
theorem dL_acts_458 : decode cL_acts 458 = .ok (.aload_n 3, 1) := by decide +kernel
theorem dL_acts_459 : decode cL_acts 459 = .ok (.aload 5, 2) := by decide +kernel
theorem dL_acts_461 : decode cL_acts 461 = .ok (.iconst 2, 1) := by decide +kernel
theorem dL_acts_462 : decode cL_acts 462 = .ok (.iaload, 1) := by decide +kernel
theorem dL_acts_463 : decode cL_acts 463 = .ok (.iload 8, 2) := by decide +kernel
theorem dL_acts_465 : decode cL_acts 465 = .ok (.iastore, 1) := by decide +kernel
theorem dL_acts_466 : decode cL_acts 466 = .ok (.aload 5, 2) := by decide +kernel
theorem dL_acts_468 : decode cL_acts 468 = .ok (.iconst 2, 1) := by decide +kernel
theorem dL_acts_469 : decode cL_acts 469 = .ok (.dup2, 1) := by decide +kernel
theorem dL_acts_470 : decode cL_acts 470 = .ok (.iaload, 1) := by decide +kernel
theorem dL_acts_471 : decode cL_acts 471 = .ok (.iconst 1, 1) := by decide +kernel
theorem dL_acts_472 : decode cL_acts 472 = .ok (.iadd, 1) := by decide +kernel
theorem dL_acts_473 : decode cL_acts 473 = .ok (.iastore, 1) := by decide +kernel
theorem dL_acts_474 : decode cL_acts 474 = .ok (.aload_n 0, 1) := by decide +kernel
theorem dL_acts_475 : decode cL_acts 475 = .ok (.iload 8, 2) := by decide +kernel
theorem dL_acts_477 : decode cL_acts 477 = .ok (.invokestatic 119, 3) := by decide +kernel
theorem dL_acts_480 : decode cL_acts 480 = .ok (.iload 9, 2) := by decide +kernel
theorem dL_acts_482 : decode cL_acts 482 = .ok (.ifCond .eq 10, 3) := by decide +kernel
theorem dL_acts_485 : decode cL_acts 485 = .ok (.aload 5, 2) := by decide +kernel
theorem dL_acts_487 : decode cL_acts 487 = .ok (.iconst 2, 1) := by decide +kernel
theorem dL_acts_488 : decode cL_acts 488 = .ok (.iaload, 1) := by decide +kernel
theorem dL_acts_489 : decode cL_acts 489 = .ok (.goto 5, 3) := by decide +kernel
theorem dL_acts_492 : decode cL_acts 492 = .ok (.bipush (-2), 2) := by decide +kernel
theorem dL_acts_494 : decode cL_acts 494 = .ok (.if_icmp .ne 7, 3) := by decide +kernel
theorem dL_acts_497 : decode cL_acts 497 = .ok (.iconst 1, 1) := by decide +kernel
theorem dL_acts_498 : decode cL_acts 498 = .ok (.goto 4, 3) := by decide +kernel
theorem dL_acts_501 : decode cL_acts 501 = .ok (.iconst 0, 1) := by decide +kernel
theorem dL_acts_502 : decode cL_acts 502 = .ok (.ireturn, 1) := by decide +kernel
theorem dL_acts_503 : decode cL_acts 503 = .ok (.iload 6, 2) := by decide +kernel
theorem dL_acts_505 : decode cL_acts 505 = .ok (.bipush 11, 2) := by decide +kernel
theorem dL_acts_507 : decode cL_acts 507 = .ok (.if_icmp .ge 82, 3) := by decide +kernel
theorem dL_acts_510 : decode cL_acts 510 = .ok (.iload 6, 2) := by decide +kernel
theorem dL_acts_512 : decode cL_acts 512 = .ok (.bipush 7, 2) := by decide +kernel
theorem dL_acts_514 : decode cL_acts 514 = .ok (.if_icmp .ne 16, 3) := by decide +kernel
theorem dL_acts_517 : decode cL_acts 517 = .ok (.iload 7, 2) := by decide +kernel
theorem dL_acts_519 : decode cL_acts 519 = .ok (.bipush 6, 2) := by decide +kernel
theorem dL_acts_521 : decode cL_acts 521 = .ok (.irem, 1) := by decide +kernel
theorem dL_acts_522 : decode cL_acts 522 = .ok (.ifCond .ne 8, 3) := by decide +kernel
theorem dL_acts_525 : decode cL_acts 525 = .ok (.bipush 40, 2) := by decide +kernel
theorem dL_acts_527 : decode cL_acts 527 = .ok (.goto 9, 3) := by decide +kernel
theorem dL_acts_530 : decode cL_acts 530 = .ok (.iconst 1, 1) := by decide +kernel
theorem dL_acts_531 : decode cL_acts 531 = .ok (.iload 7, 2) := by decide +kernel
theorem dL_acts_533 : decode cL_acts 533 = .ok (.iconst 5, 1) := by decide +kernel
theorem dL_acts_534 : decode cL_acts 534 = .ok (.irem, 1) := by decide +kernel
theorem dL_acts_535 : decode cL_acts 535 = .ok (.iadd, 1) := by decide +kernel
theorem dL_acts_536 : decode cL_acts 536 = .ok (.istore 8, 2) := by decide +kernel
theorem dL_acts_538 : decode cL_acts 538 = .ok (.iconst 0, 1) := by decide +kernel
theorem dL_acts_539 : decode cL_acts 539 = .ok (.istore 9, 2) := by decide +kernel
theorem dL_acts_541 : decode cL_acts 541 = .ok (.iconst 0, 1) := by decide +kernel
theorem dL_acts_542 : decode cL_acts 542 = .ok (.istore 10, 2) := by decide +kernel
theorem dL_acts_544 : decode cL_acts 544 = .ok (.iload 10, 2) := by decide +kernel
theorem dL_acts_546 : decode cL_acts 546 = .ok (.iload 8, 2) := by decide +kernel
theorem dL_acts_548 : decode cL_acts 548 = .ok (.if_icmp .ge 24, 3) := by decide +kernel
theorem dL_acts_551 : decode cL_acts 551 = .ok (.iload 9, 2) := by decide +kernel
theorem dL_acts_553 : decode cL_acts 553 = .ok (.aload_n 1, 1) := by decide +kernel
theorem dL_acts_554 : decode cL_acts 554 = .ok (.aload_n 2, 1) := by decide +kernel
theorem dL_acts_555 : decode cL_acts 555 = .ok (.aload_n 3, 1) := by decide +kernel
theorem dL_acts_556 : decode cL_acts 556 = .ok (.aload 4, 2) := by decide +kernel
theorem dL_acts_558 : decode cL_acts 558 = .ok (.aload 5, 2) := by decide +kernel
theorem dL_acts_560 : decode cL_acts 560 = .ok (.invokestatic 122, 3) := by decide +kernel
theorem dL_acts_563 : decode cL_acts 563 = .ok (.iadd, 1) := by decide +kernel
theorem dL_acts_564 : decode cL_acts 564 = .ok (.istore 9, 2) := by decide +kernel
theorem dL_acts_566 : decode cL_acts 566 = .ok (.iinc 10 1, 3) := by decide +kernel
theorem dL_acts_569 : decode cL_acts 569 = .ok (.goto (-25), 3) := by decide +kernel
theorem dL_acts_572 : decode cL_acts 572 = .ok (.aload_n 0, 1) := by decide +kernel
theorem dL_acts_573 : decode cL_acts 573 = .ok (.iload 8, 2) := by decide +kernel
theorem dL_acts_575 : decode cL_acts 575 = .ok (.invokevirtual 126, 3) := by decide +kernel
theorem dL_acts_578 : decode cL_acts 578 = .ok (.iload 9, 2) := by decide +kernel
theorem dL_acts_580 : decode cL_acts 580 = .ok (.if_icmp .ne 7, 3) := by decide +kernel
theorem dL_acts_583 : decode cL_acts 583 = .ok (.iconst 1, 1) := by decide +kernel
theorem dL_acts_584 : decode cL_acts 584 = .ok (.goto 4, 3) := by decide +kernel
theorem dL_acts_587 : decode cL_acts 587 = .ok (.iconst 0, 1) := by decide +kernel
theorem dL_acts_588 : decode cL_acts 588 = .ok (.ireturn, 1) := by decide +kernel
theorem dL_acts_589 : decode cL_acts 589 = .ok (.aload_n 0, 1) := by decide +kernel
theorem dL_acts_590 : decode cL_acts 590 = .ok (.aload_n 1, 1) := by decide +kernel
theorem dL_acts_591 : decode cL_acts 591 = .ok (.aload_n 2, 1) := by decide +kernel
theorem dL_acts_592 : decode cL_acts 592 = .ok (.aload 5, 2) := by decide +kernel
theorem dL_acts_594 : decode cL_acts 594 = .ok (.iload 6, 2) := by decide +kernel
theorem dL_acts_596 : decode cL_acts 596 = .ok (.bipush 11, 2) := by decide +kernel
theorem dL_acts_598 : decode cL_acts 598 = .ok (.isub, 1) := by decide +kernel
theorem dL_acts_599 : decode cL_acts 599 = .ok (.iload 7, 2) := by decide +kernel
theorem dL_acts_601 : decode cL_acts 601 = .ok (.invokestatic 129, 3) := by decide +kernel
theorem dL_acts_604 : decode cL_acts 604 = .ok (.ireturn, 1) := by decide +kernel
set_option maxRecDepth 20000 in
theorem ggL_holds_X2_init : GoodIn wsL_holds wsX2_init := goodIn_r _ [8, 9, 10, 11, 12, 13, 14, 15, 16, 4, 17, 18, 19, 20, 21, 22, 23, 24, 25, 359, 360, 361, 362, 363, 364, 365, 366, 367, 368, 369, 370] (by decide +kernel) (by decide +kernel)
set_option maxRecDepth 20000 in
theorem gL_holds_X2_init : GoodIn wsL_holds (wsX2_init) := ggL_holds_X2_init
set_option maxRecDepth 20000 in
theorem ggL_holds_L_from : GoodIn wsL_holds wsL_from := goodIn_r _ [29, 30, 31] (by decide +kernel) (by decide +kernel)
set_option maxRecDepth 20000 in
theorem gL_holds_L_from : GoodIn wsL_holds (va_wsS RL 134 yL_from wsL_from) := goodIn_app (goodIn_of _ (by decide +kernel)) ggL_holds_L_from
set_option maxHeartbeats 4000000 in
set_option maxRecDepth 100000 in
theorem ggL_holds_L_acts : GoodIn wsL_holds wsL_acts := goodIn_ca (goodIn_ca (goodIn_ca (goodIn_r _ [34, 35, 36, 37, 3, 38, 39, 40, 41, 42, 18, 13, 12, 43, 44, 45, 46, 47, 48, 49, 50, 51, 10, 11, 52, 53, 54, 55, 56, 57, 58, 59, 60, 61, 62, 19, 15, 14, 63, 64, 65, 66, 67, 68, 69, 70, 71, 72, 73, 74, 75, 76, 77, 78, 79, 80, 22, 23, 81, 82, 83, 84, 17, 85, 86, 28, 87, 88, 89, 90, 91, 92, 93, 20, 16, 94, 95, 96, 97, 98, 99, 100, 101, 102, 103, 104, 105, 106, 107, 108, 109, 110, 111, 112, 113, 114, 115, 116, 117, 118, 119, 120, 121, 122, 123, 124, 125, 126, 127, 128, 129, 130, 131, 132, 133, 134, 135, 136, 137, 138, 21, 139, 140, 141, 142, 143, 144, 145, 146, 147, 148, 149, 150, 151, 152, 153, 154, 155, 156, 157, 158, 159, 160, 161, 162, 163, 164, 165, 166, 167, 168, 169, 170, 24, 171, 172, 173, 174, 175, 176, 177, 178, 179, 180, 181, 182, 183, 184, 185, 186, 187, 25, 188, 189, 190, 191, 192, 193, 194, 195, 196, 197, 198, 199, 200, 201, 202, 203, 204, 205, 206, 207, 208, 209, 210, 211, 212, 213, 214, 215, 216, 217, 218, 219, 220, 221, 222, 223, 224, 225, 226, 227, 228, 229, 230, 231, 232, 233, 234, 235, 236, 237, 238, 239, 240, 241, 242, 243, 244, 245, 246, 247, 248, 249, 250, 251, 252, 253, 254, 255, 256, 257, 258, 259, 260, 261, 262, 263, 264, 265, 266, 267, 268, 269, 270, 271, 272, 273, 359, 360, 361, 362, 363, 364, 365, 366, 367, 368, 369, 370, 371, 372, 373, 374, 375, 376, 377, 378, 379, 380, 381, 382, 383, 384] rfl (by decide +kernel)) (goodIn_sub (fun _ h => List.mem_cons_of_mem _ (List.mem_append_left _ (List.mem_append_left _ (List.mem_append_right _ h)))) (by decide +kernel))) (goodIn_sub (fun _ h => List.mem_cons_of_mem _ (List.mem_append_left _ (List.mem_append_right _ h))) (by decide +kernel))) (goodIn_sub (fun _ h => List.mem_cons_of_mem _ (List.mem_append_right _ h)) (by decide +kernel))
set_option maxRecDepth 20000 in
theorem gL_holds_L_acts : GoodIn wsL_holds (va_wsS RL 139 yL_acts wsL_acts) := goodIn_app (goodIn_of _ (by decide +kernel)) ggL_holds_L_acts
set_option maxHeartbeats 4000000 in
set_option maxRecDepth 100000 in
theorem ggL_holds_L_isTold : GoodIn wsL_holds wsL_isTold := goodIn_ca (goodIn_ca (goodIn_r _ [276, 277, 278, 279, 3, 280, 21, 281, 282, 283, 284, 18, 285, 286, 287, 288, 24, 289, 290, 291, 292, 25, 123, 124, 28, 125, 120, 121, 122, 293, 294, 295, 296, 134, 223, 224, 225, 226, 100, 101, 13, 45, 46, 47, 297, 298, 299, 300, 265, 301, 302, 303, 304, 273, 202, 203, 44, 204, 53, 205, 206, 54, 305, 306, 307, 308, 221, 93, 95, 309, 310, 311, 64, 312, 70, 313, 314, 198, 199, 200, 201, 315, 316, 317, 152, 149, 153, 318, 148, 150, 319, 320, 321, 322, 16, 323, 324, 325, 326, 327, 328, 329, 330, 331, 197, 332, 333, 334, 335, 96, 97, 98, 99, 15, 336, 337, 338, 339, 94, 340, 341, 342, 343, 231, 232, 233, 234, 235, 236, 237, 238, 55, 56, 57, 210, 211, 212, 344, 345, 346, 347, 39, 40, 348, 349, 350, 351, 352, 353, 354, 355, 356, 357, 358, 253, 359, 360, 361, 362, 363, 364, 365, 366, 367, 368, 369, 370, 371, 372, 373, 374, 375, 376, 377, 378, 379, 380, 381, 382, 383, 384] rfl (by decide +kernel)) (goodIn_sub (fun _ h => List.mem_cons_of_mem _ (List.mem_append_right _ h)) (by decide +kernel))) (goodIn_sub (fun _ h => List.mem_cons_of_mem _ (List.mem_append_left _ (List.mem_append_left _ (List.mem_append_right _ h)))) (by decide +kernel))
set_option maxRecDepth 20000 in
theorem gL_holds_L_isTold : GoodIn wsL_holds (va_wsS RL 143 yL_isTold wsL_isTold) := goodIn_app (goodIn_of _ (by decide +kernel)) ggL_holds_L_isTold
theorem dL_holds_0 : decode cL_holds 0 = .ok (.new 24, 3) := by decide +kernel
theorem dL_holds_3 : decode cL_holds 3 = .ok (.dup, 1) := by decide +kernel
theorem dL_holds_4 : decode cL_holds 4 = .ok (.invokespecial 133, 3) := by decide +kernel
theorem dL_holds_7 : decode cL_holds 7 = .ok (.astore_n 1, 1) := by decide +kernel
theorem dL_holds_8 : decode cL_holds 8 = .ok (.bipush 64, 2) := by decide +kernel
theorem dL_holds_10 : decode cL_holds 10 = .ok (.newarray .int, 2) := by decide +kernel
theorem dL_holds_12 : decode cL_holds 12 = .ok (.astore_n 2, 1) := by decide +kernel
theorem dL_holds_13 : decode cL_holds 13 = .ok (.bipush 20, 2) := by decide +kernel
theorem dL_holds_15 : decode cL_holds 15 = .ok (.newarray .int, 2) := by decide +kernel
theorem dL_holds_17 : decode cL_holds 17 = .ok (.astore_n 3, 1) := by decide +kernel
theorem dL_holds_18 : decode cL_holds 18 = .ok (.iconst 5, 1) := by decide +kernel
theorem dL_holds_19 : decode cL_holds 19 = .ok (.newarray .int, 2) := by decide +kernel
theorem dL_holds_21 : decode cL_holds 21 = .ok (.astore 4, 2) := by decide +kernel
theorem dL_holds_23 : decode cL_holds 23 = .ok (.bipush 64, 2) := by decide +kernel
theorem dL_holds_25 : decode cL_holds 25 = .ok (.newarray .int, 2) := by decide +kernel
theorem dL_holds_27 : decode cL_holds 27 = .ok (.astore 5, 2) := by decide +kernel
theorem dL_holds_29 : decode cL_holds 29 = .ok (.bipush 8, 2) := by decide +kernel
theorem dL_holds_31 : decode cL_holds 31 = .ok (.newarray .int, 2) := by decide +kernel
theorem dL_holds_33 : decode cL_holds 33 = .ok (.astore 6, 2) := by decide +kernel
theorem dL_holds_35 : decode cL_holds 35 = .ok (.aload 6, 2) := by decide +kernel
theorem dL_holds_37 : decode cL_holds 37 = .ok (.iconst 3, 1) := by decide +kernel
theorem dL_holds_38 : decode cL_holds 38 = .ok (.iconst 2, 1) := by decide +kernel
theorem dL_holds_39 : decode cL_holds 39 = .ok (.iastore, 1) := by decide +kernel
theorem dL_holds_40 : decode cL_holds 40 = .ok (.iconst 1, 1) := by decide +kernel
theorem dL_holds_41 : decode cL_holds 41 = .ok (.istore 7, 2) := by decide +kernel
theorem dL_holds_43 : decode cL_holds 43 = .ok (.iconst 0, 1) := by decide +kernel
theorem dL_holds_44 : decode cL_holds 44 = .ok (.istore 8, 2) := by decide +kernel
theorem dL_holds_46 : decode cL_holds 46 = .ok (.iload 8, 2) := by decide +kernel
theorem dL_holds_48 : decode cL_holds 48 = .ok (.sipush 130, 3) := by decide +kernel
theorem dL_holds_51 : decode cL_holds 51 = .ok (.if_icmp .ge 116, 3) := by decide +kernel
theorem dL_holds_54 : decode cL_holds 54 = .ok (.iload 7, 2) := by decide +kernel
theorem dL_holds_56 : decode cL_holds 56 = .ok (.ifCond .eq 111, 3) := by decide +kernel
theorem dL_holds_59 : decode cL_holds 59 = .ok (.iload 8, 2) := by decide +kernel
theorem dL_holds_61 : decode cL_holds 61 = .ok (.iconst 4, 1) := by decide +kernel
theorem dL_holds_62 : decode cL_holds 62 = .ok (.if_icmp .ge 7, 3) := by decide +kernel
theorem dL_holds_65 : decode cL_holds 65 = .ok (.iconst 0, 1) := by decide +kernel
theorem dL_holds_66 : decode cL_holds 66 = .ok (.goto 24, 3) := by decide +kernel
theorem dL_holds_69 : decode cL_holds 69 = .ok (.iload 8, 2) := by decide +kernel
theorem dL_holds_71 : decode cL_holds 71 = .ok (.bipush 7, 2) := by decide +kernel
theorem dL_holds_73 : decode cL_holds 73 = .ok (.if_icmp .ge 7, 3) := by decide +kernel
theorem dL_holds_76 : decode cL_holds 76 = .ok (.iconst 1, 1) := by decide +kernel
theorem dL_holds_77 : decode cL_holds 77 = .ok (.goto 13, 3) := by decide +kernel
theorem dL_holds_80 : decode cL_holds 80 = .ok (.aload_n 0, 1) := by decide +kernel
theorem dL_holds_81 : decode cL_holds 81 = .ok (.iconst 2, 1) := by decide +kernel
theorem dL_holds_82 : decode cL_holds 82 = .ok (.iload 8, 2) := by decide +kernel
theorem dL_holds_84 : decode cL_holds 84 = .ok (.imul, 1) := by decide +kernel
theorem dL_holds_85 : decode cL_holds 85 = .ok (.bipush 25, 2) := by decide +kernel
theorem dL_holds_87 : decode cL_holds 87 = .ok (.invokestatic 134, 3) := by decide +kernel
theorem dL_holds_90 : decode cL_holds 90 = .ok (.istore 9, 2) := by decide +kernel
theorem dL_holds_92 : decode cL_holds 92 = .ok (.aload_n 1, 1) := by decide +kernel
theorem dL_holds_93 : decode cL_holds 93 = .ok (.aload_n 2, 1) := by decide +kernel
theorem dL_holds_94 : decode cL_holds 94 = .ok (.aload_n 3, 1) := by decide +kernel
theorem dL_holds_95 : decode cL_holds 95 = .ok (.aload 4, 2) := by decide +kernel
theorem dL_holds_97 : decode cL_holds 97 = .ok (.aload 5, 2) := by decide +kernel
theorem dL_holds_99 : decode cL_holds 99 = .ok (.aload 6, 2) := by decide +kernel
theorem dL_holds_101 : decode cL_holds 101 = .ok (.iload 9, 2) := by decide +kernel
theorem dL_holds_103 : decode cL_holds 103 = .ok (.aload_n 0, 1) := by decide +kernel
theorem dL_holds_104 : decode cL_holds 104 = .ok (.iconst 2, 1) := by decide +kernel
theorem dL_holds_105 : decode cL_holds 105 = .ok (.iload 8, 2) := by decide +kernel
theorem dL_holds_107 : decode cL_holds 107 = .ok (.imul, 1) := by decide +kernel
theorem dL_holds_108 : decode cL_holds 108 = .ok (.iconst 1, 1) := by decide +kernel
theorem dL_holds_109 : decode cL_holds 109 = .ok (.iadd, 1) := by decide +kernel
theorem dL_holds_110 : decode cL_holds 110 = .ok (.ldc 138, 2) := by decide +kernel
theorem dL_holds_112 : decode cL_holds 112 = .ok (.invokestatic 134, 3) := by decide +kernel
theorem dL_holds_115 : decode cL_holds 115 = .ok (.invokestatic 139, 3) := by decide +kernel
theorem dL_holds_118 : decode cL_holds 118 = .ok (.ifCond .eq 40, 3) := by decide +kernel
theorem dL_holds_121 : decode cL_holds 121 = .ok (.iload 8, 2) := by decide +kernel
theorem dL_holds_123 : decode cL_holds 123 = .ok (.iconst 2, 1) := by decide +kernel
theorem dL_holds_124 : decode cL_holds 124 = .ok (.irem, 1) := by decide +kernel
theorem dL_holds_125 : decode cL_holds 125 = .ok (.ifCond .eq 29, 3) := by decide +kernel
theorem dL_holds_128 : decode cL_holds 128 = .ok (.aload_n 1, 1) := by decide +kernel
theorem dL_holds_129 : decode cL_holds 129 = .ok (.aload_n 2, 1) := by decide +kernel
theorem dL_holds_130 : decode cL_holds 130 = .ok (.aload_n 3, 1) := by decide +kernel
theorem dL_holds_131 : decode cL_holds 131 = .ok (.aload 4, 2) := by decide +kernel
theorem dL_holds_133 : decode cL_holds 133 = .ok (.aload 6, 2) := by decide +kernel
theorem dL_holds_135 : decode cL_holds 135 = .ok (.aload_n 0, 1) := by decide +kernel
theorem dL_holds_136 : decode cL_holds 136 = .ok (.sipush 300, 3) := by decide +kernel
theorem dL_holds_139 : decode cL_holds 139 = .ok (.iload 8, 2) := by decide +kernel
theorem dL_holds_141 : decode cL_holds 141 = .ok (.iadd, 1) := by decide +kernel
theorem dL_holds_142 : decode cL_holds 142 = .ok (.sipush 1024, 3) := by decide +kernel
theorem dL_holds_145 : decode cL_holds 145 = .ok (.invokestatic 134, 3) := by decide +kernel
theorem dL_holds_148 : decode cL_holds 148 = .ok (.invokestatic 143, 3) := by decide +kernel
theorem dL_holds_151 : decode cL_holds 151 = .ok (.ifCond .eq 7, 3) := by decide +kernel
theorem dL_holds_154 : decode cL_holds 154 = .ok (.iconst 1, 1) := by decide +kernel
theorem dL_holds_155 : decode cL_holds 155 = .ok (.goto 4, 3) := by decide +kernel
theorem dL_holds_158 : decode cL_holds 158 = .ok (.iconst 0, 1) := by decide +kernel
theorem dL_holds_159 : decode cL_holds 159 = .ok (.istore 7, 2) := by decide +kernel
theorem dL_holds_161 : decode cL_holds 161 = .ok (.iinc 8 1, 3) := by decide +kernel
theorem dL_holds_164 : decode cL_holds 164 = .ok (.goto (-118), 3) := by decide +kernel
theorem dL_holds_167 : decode cL_holds 167 = .ok (.iload 7, 2) := by decide +kernel
theorem dL_holds_169 : decode cL_holds 169 = .ok (.ireturn, 1) := by decide +kernel
set_option maxHeartbeats 4000000 in
set_option maxRecDepth 100000 in
theorem ggL_isHeld_L_holds : GoodIn wsL_isHeld wsL_holds := goodIn_ca (goodIn_ca (goodIn_ca (goodIn_r _ [7, 8, 9, 10, 11, 12, 13, 14, 15, 16, 17, 18, 19, 20, 21, 22, 23, 24, 25, 26, 27, 28, 29, 30, 31, 32, 33, 34, 6, 35, 36, 37, 38, 39, 40, 41, 42, 43, 44, 45, 46, 47, 48, 49, 50, 51, 52, 53, 54, 55, 56, 57, 58, 59, 60, 61, 62, 63, 64, 65, 66, 67, 68, 69, 70, 71, 72, 73, 74, 75, 76, 77, 78, 79, 80, 81, 82, 83, 84, 85, 86, 87, 88, 89, 90, 91, 92, 93, 3, 94, 95, 96, 97, 98, 99, 100, 101, 102, 103, 104, 105, 106, 107, 108, 109, 110, 111, 112, 113, 114, 115, 116, 117, 118, 119, 120, 121, 122, 123, 124, 125, 126, 127, 128, 129, 130, 131, 132, 133, 134, 135, 136, 137, 138, 139, 140, 141, 142, 143, 144, 145, 146, 147, 148, 149, 150, 151, 152, 153, 154, 155, 156, 157, 158, 159, 160, 161, 162, 163, 164, 165, 166, 167, 168, 169, 170, 171, 172, 173, 174, 175, 176, 177, 178, 179, 180, 181, 182, 183, 184, 185, 186, 187, 188, 189, 190, 191, 192, 193, 194, 195, 196, 197, 198, 199, 200, 201, 202, 203, 204, 205, 206, 207, 208, 209, 210, 211, 212, 213, 214, 215, 216, 217, 218, 219, 220, 2, 221, 222, 223, 224, 225, 226, 227, 228, 229, 230, 231, 232, 233, 234, 235, 236, 237, 238, 239, 240, 241, 242, 243, 244, 245, 246, 247, 248, 249, 250, 251, 252, 253, 254, 255, 256, 257, 258, 259, 260, 261, 262, 263, 264, 265, 266, 267, 268, 269, 270, 271, 272, 273, 274, 275, 276, 277, 278, 279, 280, 281, 282, 283, 284, 285, 286, 287, 288, 289, 290, 291, 292, 293, 294, 295, 296, 297, 298, 299, 300, 301, 302, 303, 304, 305, 306, 307, 308, 309, 310, 311, 312, 313, 314, 315, 316, 317, 318, 319, 320, 321, 322, 323, 324, 325, 326, 327, 328, 329, 330, 331, 332, 333, 334, 335, 336, 337, 338, 339, 340, 341, 342, 343, 344, 345, 346, 347, 348, 349, 350, 351, 352, 353, 354, 355, 356, 357, 358, 359, 360, 361, 362, 363, 364, 365, 366, 367, 368, 369, 370, 371, 372, 373, 374, 375, 376, 377, 378, 379, 380, 381, 382, 383, 384, 385, 386, 387, 388] rfl (by decide +kernel)) (goodIn_sub (fun _ h => List.mem_cons_of_mem _ (List.mem_append_left _ (List.mem_append_left _ (List.mem_append_right _ h)))) (by decide +kernel))) (goodIn_sub (fun _ h => List.mem_cons_of_mem _ (List.mem_append_left _ (List.mem_append_right _ h))) (by decide +kernel))) (goodIn_sub (fun _ h => List.mem_cons_of_mem _ (List.mem_append_right _ h)) (by decide +kernel))
set_option maxRecDepth 20000 in
theorem gL_isHeld_L_holds : GoodIn wsL_isHeld (va_wsS RL 147 yL_holds wsL_holds) := goodIn_app (goodIn_of _ (by decide +kernel)) ggL_isHeld_L_holds
theorem dL_isHeld_0 : decode cL_isHeld 0 = .ok (.aload_n 0, 1) := by decide +kernel
theorem dL_isHeld_1 : decode cL_isHeld 1 = .ok (.invokestatic 147, 3) := by decide +kernel
theorem dL_isHeld_4 : decode cL_isHeld 4 = .ok (.ireturn, 1) := by decide +kernel
theorem dL_isHeld_5 : decode cL_isHeld 5 = .ok (.astore_n 1, 1) := by decide +kernel
theorem dL_isHeld_6 : decode cL_isHeld 6 = .ok (.iconst 0, 1) := by decide +kernel
theorem dL_isHeld_7 : decode cL_isHeld 7 = .ok (.ireturn, 1) := by decide +kernel
theorem dL_isHeld_8 : decode cL_isHeld 8 = .ok (.astore_n 1, 1) := by decide +kernel
theorem dL_isHeld_9 : decode cL_isHeld 9 = .ok (.iconst 0, 1) := by decide +kernel
theorem dL_isHeld_10 : decode cL_isHeld 10 = .ok (.ireturn, 1) := by decide +kernel
theorem dL_isHeld_11 : decode cL_isHeld 11 = .ok (.astore_n 1, 1) := by decide +kernel
theorem dL_isHeld_12 : decode cL_isHeld 12 = .ok (.iconst 0, 1) := by decide +kernel
theorem dL_isHeld_13 : decode cL_isHeld 13 = .ok (.ireturn, 1) := by decide +kernel
set_option maxHeartbeats 4000000 in
set_option maxRecDepth 100000 in
theorem ggL_law_L_isHeld : GoodIn wsL_law wsL_isHeld := goodIn_ca (goodIn_ca (goodIn_ca (goodIn_r _ [3, 4, 5, 6, 7, 8, 2, 9, 10, 11, 12, 13, 14, 15, 16, 17, 18, 19, 20, 21, 22, 23, 24, 25, 26, 27, 28, 29, 30, 31, 32, 33, 34, 35, 36, 37, 38, 39, 40, 41, 42, 43, 44, 45, 46, 47, 48, 49, 50, 51, 52, 53, 54, 55, 56, 57, 58, 59, 60, 61, 62, 63, 64, 65, 66, 67, 68, 69, 70, 71, 72, 73, 74, 75, 76, 77, 78, 79, 80, 81, 82, 83, 84, 85, 86, 87, 88, 89, 90, 91, 92, 93, 94, 95, 96, 97, 98, 99, 100, 101, 102, 103, 104, 105, 106, 107, 108, 109, 110, 111, 112, 113, 114, 115, 116, 117, 118, 119, 120, 121, 122, 123, 124, 125, 126, 127, 128, 129, 130, 131, 132, 133, 134, 135, 136, 137, 138, 139, 140, 141, 142, 143, 144, 145, 146, 147, 148, 149, 150, 151, 152, 153, 154, 155, 156, 157, 158, 159, 160, 161, 162, 163, 164, 165, 166, 167, 168, 169, 170, 171, 172, 173, 174, 175, 176, 177, 178, 179, 180, 181, 182, 183, 184, 185, 186, 187, 188, 189, 190, 191, 192, 193, 194, 195, 196, 197, 198, 199, 200, 201, 202, 203, 204, 205, 206, 207, 208, 209, 210, 211, 212, 213, 214, 215, 216, 217, 218, 219, 220, 221, 222, 223, 224, 225, 226, 227, 228, 229, 230, 231, 232, 233, 234, 235, 236, 237, 238, 239, 240, 241, 242, 243, 244, 245, 246, 247, 248, 249, 250, 251, 252, 253, 254, 255, 256, 257, 258, 259, 260, 261, 262, 263, 264, 265, 266, 267, 268, 269, 270, 271, 272, 273, 274, 275, 276, 277, 278, 279, 280, 281, 282, 283, 284, 285, 286, 287, 288, 289, 290, 291, 292, 293, 294, 295, 296, 297, 298, 299, 300, 301, 302, 303, 304, 305, 306, 307, 308, 309, 310, 311, 312, 313, 314, 315, 316, 317, 318, 319, 320, 321, 322, 323, 324, 325, 326, 327, 328, 329, 330, 331, 332, 333, 334, 335, 336, 337, 338, 339, 340, 341, 342, 343, 344, 345, 346, 347, 348, 349, 350, 351, 352, 353, 354, 355, 356, 357, 358, 359, 360, 361, 362, 363, 364, 365, 366, 367, 368, 369, 370, 371, 372, 373, 374, 375, 376, 377, 378, 379, 380, 381, 382, 383, 384, 385, 386, 387, 388, 389, 390] rfl (by decide +kernel)) (goodIn_sub (fun _ h => List.mem_append_left _ (List.mem_append_left _ (List.mem_append_right _ h))) (by decide +kernel))) (goodIn_sub (fun _ h => List.mem_append_left _ (List.mem_append_right _ h)) (by decide +kernel))) (goodIn_sub (fun _ h => List.mem_append_right _ h) (by decide +kernel))
set_option maxRecDepth 20000 in
theorem gL_law_L_isHeld : GoodIn wsL_law (va_wsS RL 153 yL_isHeld wsL_isHeld) := goodIn_app (goodIn_of _ (by decide +kernel)) ggL_law_L_isHeld
theorem dL_law_0 : decode cL_law 0 = .ok (.aload_n 0, 1) := by decide +kernel
theorem dL_law_1 : decode cL_law 1 = .ok (.invokestatic 153, 3) := by decide +kernel
theorem dL_law_4 : decode cL_law 4 = .ok (.ireturn, 1) := by decide +kernel
abbrev vwCl : List vw_C := [(RX0, TX0, 7), (RX1, TX1, 7), (RX2, TX2, 12)]
