set_option maxRecDepth 20000 in
theorem ggX3_setRules_X3_goes : GoodIn wsX3_setRules wsX3_goes := goodIn_r _ [10, 11, 12, 13, 14, 15, 16, 17, 18, 19, 20, 21, 22, 23, 24, 25, 26, 27, 28, 29, 30, 31, 32, 33] (by decide +kernel) (by decide +kernel)
set_option maxRecDepth 20000 in
theorem gX3_setRules_X3_goes : GoodIn wsX3_setRules (wsV RX3 66 RX3 yX3_goes wsX3_goes) := goodIn_app (goodIn_of _ (by decide +kernel)) ggX3_setRules_X3_goes
theorem dX3_setRules_0 : decode cX3_setRules 0 = .ok (.aload_n 0, 1) := by decide +kernel
theorem dX3_setRules_1 : decode cX3_setRules 1 = .ok (.iload_n 1, 1) := by decide +kernel
theorem dX3_setRules_2 : decode cX3_setRules 2 = .ok (.iconst 1, 1) := by decide +kernel
theorem dX3_setRules_3 : decode cX3_setRules 3 = .ok (.bipush 20, 2) := by decide +kernel
theorem dX3_setRules_5 : decode cX3_setRules 5 = .ok (.invokestatic 59, 3) := by decide +kernel
theorem dX3_setRules_8 : decode cX3_setRules 8 = .ok (.ifCond .eq 17, 3) := by decide +kernel
theorem dX3_setRules_11 : decode cX3_setRules 11 = .ok (.iload_n 2, 1) := by decide +kernel
theorem dX3_setRules_12 : decode cX3_setRules 12 = .ok (.iconst 0, 1) := by decide +kernel
theorem dX3_setRules_13 : decode cX3_setRules 13 = .ok (.bipush 9, 2) := by decide +kernel
theorem dX3_setRules_15 : decode cX3_setRules 15 = .ok (.invokestatic 59, 3) := by decide +kernel
theorem dX3_setRules_18 : decode cX3_setRules 18 = .ok (.ifCond .eq 7, 3) := by decide +kernel
theorem dX3_setRules_21 : decode cX3_setRules 21 = .ok (.iconst 1, 1) := by decide +kernel
theorem dX3_setRules_22 : decode cX3_setRules 22 = .ok (.goto 4, 3) := by decide +kernel
theorem dX3_setRules_25 : decode cX3_setRules 25 = .ok (.iconst 0, 1) := by decide +kernel
theorem dX3_setRules_26 : decode cX3_setRules 26 = .ok (.iconst 1, 1) := by decide +kernel
theorem dX3_setRules_27 : decode cX3_setRules 27 = .ok (.iconst 1, 1) := by decide +kernel
theorem dX3_setRules_28 : decode cX3_setRules 28 = .ok (.invokevirtual 66, 3) := by decide +kernel
theorem dX3_setRules_31 : decode cX3_setRules 31 = .ok (.ifCond .ne 5, 3) := by decide +kernel
theorem dX3_setRules_34 : decode cX3_setRules 34 = .ok (.iconst 0, 1) := by decide +kernel
theorem dX3_setRules_35 : decode cX3_setRules 35 = .ok (.ireturn, 1) := by decide +kernel
theorem dX3_setRules_36 : decode cX3_setRules 36 = .ok (.aload_n 0, 1) := by decide +kernel
theorem dX3_setRules_37 : decode cX3_setRules 37 = .ok (.getfield 46, 3) := by decide +kernel
theorem dX3_setRules_40 : decode cX3_setRules 40 = .ok (.istore_n 3, 1) := by decide +kernel
theorem dX3_setRules_41 : decode cX3_setRules 41 = .ok (.aload_n 0, 1) := by decide +kernel
theorem dX3_setRules_42 : decode cX3_setRules 42 = .ok (.iload_n 1, 1) := by decide +kernel
theorem dX3_setRules_43 : decode cX3_setRules 43 = .ok (.putfield 46, 3) := by decide +kernel
theorem dX3_setRules_46 : decode cX3_setRules 46 = .ok (.aload_n 0, 1) := by decide +kernel
theorem dX3_setRules_47 : decode cX3_setRules 47 = .ok (.iload_n 2, 1) := by decide +kernel
theorem dX3_setRules_48 : decode cX3_setRules 48 = .ok (.putfield 99, 3) := by decide +kernel
theorem dX3_setRules_51 : decode cX3_setRules 51 = .ok (.iload_n 3, 1) := by decide +kernel
theorem dX3_setRules_52 : decode cX3_setRules 52 = .ok (.ireturn, 1) := by decide +kernel
set_option maxRecDepth 20000 in
theorem ggX3_setGust_X3_in : GoodIn wsX3_setGust wsX3_in := goodIn_r _ [5] (by decide +kernel) (by decide +kernel)
set_option maxRecDepth 20000 in
theorem gX3_setGust_X3_in : GoodIn wsX3_setGust (va_wsS RX3 59 yX3_in wsX3_in) := goodIn_app (goodIn_of _ (by decide +kernel)) ggX3_setGust_X3_in
set_option maxRecDepth 20000 in
theorem ggX3_setGust_X3_goes : GoodIn wsX3_setGust wsX3_goes := goodIn_r _ [9, 10, 11, 12, 13, 14, 15, 16, 17, 18, 19, 20, 21, 22, 23, 24, 25, 26, 27, 28, 29, 30, 31, 32] (by decide +kernel) (by decide +kernel)
set_option maxRecDepth 20000 in
theorem gX3_setGust_X3_goes : GoodIn wsX3_setGust (wsV RX3 66 RX3 yX3_goes wsX3_goes) := goodIn_app (goodIn_of _ (by decide +kernel)) ggX3_setGust_X3_goes
theorem dX3_setGust_0 : decode cX3_setGust 0 = .ok (.aload_n 0, 1) := by decide +kernel
theorem dX3_setGust_1 : decode cX3_setGust 1 = .ok (.iload_n 1, 1) := by decide +kernel
theorem dX3_setGust_2 : decode cX3_setGust 2 = .ok (.iconst 1, 1) := by decide +kernel
theorem dX3_setGust_3 : decode cX3_setGust 3 = .ok (.sipush 400, 3) := by decide +kernel
theorem dX3_setGust_6 : decode cX3_setGust 6 = .ok (.invokestatic 59, 3) := by decide +kernel
theorem dX3_setGust_9 : decode cX3_setGust 9 = .ok (.ifCond .eq 17, 3) := by decide +kernel
theorem dX3_setGust_12 : decode cX3_setGust 12 = .ok (.iload_n 2, 1) := by decide +kernel
theorem dX3_setGust_13 : decode cX3_setGust 13 = .ok (.iconst 0, 1) := by decide +kernel
theorem dX3_setGust_14 : decode cX3_setGust 14 = .ok (.bipush 9, 2) := by decide +kernel
theorem dX3_setGust_16 : decode cX3_setGust 16 = .ok (.invokestatic 59, 3) := by decide +kernel
theorem dX3_setGust_19 : decode cX3_setGust 19 = .ok (.ifCond .eq 7, 3) := by decide +kernel
theorem dX3_setGust_22 : decode cX3_setGust 22 = .ok (.iconst 1, 1) := by decide +kernel
theorem dX3_setGust_23 : decode cX3_setGust 23 = .ok (.goto 4, 3) := by decide +kernel
theorem dX3_setGust_26 : decode cX3_setGust 26 = .ok (.iconst 0, 1) := by decide +kernel
theorem dX3_setGust_27 : decode cX3_setGust 27 = .ok (.iconst 1, 1) := by decide +kernel
theorem dX3_setGust_28 : decode cX3_setGust 28 = .ok (.iconst 1, 1) := by decide +kernel
theorem dX3_setGust_29 : decode cX3_setGust 29 = .ok (.invokevirtual 66, 3) := by decide +kernel
theorem dX3_setGust_32 : decode cX3_setGust 32 = .ok (.ifCond .ne 5, 3) := by decide +kernel
theorem dX3_setGust_35 : decode cX3_setGust 35 = .ok (.iconst 0, 1) := by decide +kernel
theorem dX3_setGust_36 : decode cX3_setGust 36 = .ok (.ireturn, 1) := by decide +kernel
theorem dX3_setGust_37 : decode cX3_setGust 37 = .ok (.aload_n 0, 1) := by decide +kernel
theorem dX3_setGust_38 : decode cX3_setGust 38 = .ok (.getfield 50, 3) := by decide +kernel
theorem dX3_setGust_41 : decode cX3_setGust 41 = .ok (.iload_n 1, 1) := by decide +kernel
theorem dX3_setGust_42 : decode cX3_setGust 42 = .ok (.iaload, 1) := by decide +kernel
theorem dX3_setGust_43 : decode cX3_setGust 43 = .ok (.istore_n 3, 1) := by decide +kernel
theorem dX3_setGust_44 : decode cX3_setGust 44 = .ok (.aload_n 0, 1) := by decide +kernel
theorem dX3_setGust_45 : decode cX3_setGust 45 = .ok (.getfield 50, 3) := by decide +kernel
theorem dX3_setGust_48 : decode cX3_setGust 48 = .ok (.iload_n 1, 1) := by decide +kernel
theorem dX3_setGust_49 : decode cX3_setGust 49 = .ok (.iload_n 2, 1) := by decide +kernel
theorem dX3_setGust_50 : decode cX3_setGust 50 = .ok (.iastore, 1) := by decide +kernel
theorem dX3_setGust_51 : decode cX3_setGust 51 = .ok (.iload_n 3, 1) := by decide +kernel
theorem dX3_setGust_52 : decode cX3_setGust 52 = .ok (.ireturn, 1) := by decide +kernel
set_option maxRecDepth 20000 in
theorem ggX3_floatsMove_X3_darkens : GoodIn wsX3_floatsMove wsX3_darkens := goodIn_r _ [14, 15, 16, 17, 18, 19, 20, 21, 22, 23, 24, 25, 26, 27, 28, 29, 30, 31, 32, 33, 34, 35, 36, 37] (by decide +kernel) (by decide +kernel)
set_option maxRecDepth 20000 in
theorem gX3_floatsMove_X3_darkens : GoodIn wsX3_floatsMove (wsV RX3 88 RX3 yX3_darkens wsX3_darkens) := goodIn_app (goodIn_of _ (by decide +kernel)) ggX3_floatsMove_X3_darkens
theorem dX3_floatsMove_0 : decode cX3_floatsMove 0 = .ok (.iconst (-1), 1) := by decide +kernel
theorem dX3_floatsMove_1 : decode cX3_floatsMove 1 = .ok (.istore_n 1, 1) := by decide +kernel
theorem dX3_floatsMove_2 : decode cX3_floatsMove 2 = .ok (.iconst 0, 1) := by decide +kernel
theorem dX3_floatsMove_3 : decode cX3_floatsMove 3 = .ok (.istore_n 2, 1) := by decide +kernel
theorem dX3_floatsMove_4 : decode cX3_floatsMove 4 = .ok (.iload_n 2, 1) := by decide +kernel
theorem dX3_floatsMove_5 : decode cX3_floatsMove 5 = .ok (.aload_n 0, 1) := by decide +kernel
theorem dX3_floatsMove_6 : decode cX3_floatsMove 6 = .ok (.getfield 108, 3) := by decide +kernel
theorem dX3_floatsMove_9 : decode cX3_floatsMove 9 = .ok (.if_icmp .ge 113, 3) := by decide +kernel
theorem dX3_floatsMove_12 : decode cX3_floatsMove 12 = .ok (.aload_n 0, 1) := by decide +kernel
theorem dX3_floatsMove_13 : decode cX3_floatsMove 13 = .ok (.getfield 43, 3) := by decide +kernel
theorem dX3_floatsMove_16 : decode cX3_floatsMove 16 = .ok (.iload_n 2, 1) := by decide +kernel
theorem dX3_floatsMove_17 : decode cX3_floatsMove 17 = .ok (.iaload, 1) := by decide +kernel
theorem dX3_floatsMove_18 : decode cX3_floatsMove 18 = .ok (.istore_n 3, 1) := by decide +kernel
theorem dX3_floatsMove_19 : decode cX3_floatsMove 19 = .ok (.aload_n 0, 1) := by decide +kernel
theorem dX3_floatsMove_20 : decode cX3_floatsMove 20 = .ok (.getfield 37, 3) := by decide +kernel
theorem dX3_floatsMove_23 : decode cX3_floatsMove 23 = .ok (.iload_n 3, 1) := by decide +kernel
theorem dX3_floatsMove_24 : decode cX3_floatsMove 24 = .ok (.iaload, 1) := by decide +kernel
theorem dX3_floatsMove_25 : decode cX3_floatsMove 25 = .ok (.iconst 1, 1) := by decide +kernel
theorem dX3_floatsMove_26 : decode cX3_floatsMove 26 = .ok (.if_icmp .ne 90, 3) := by decide +kernel
theorem dX3_floatsMove_29 : decode cX3_floatsMove 29 = .ok (.aload_n 0, 1) := by decide +kernel
theorem dX3_floatsMove_30 : decode cX3_floatsMove 30 = .ok (.getfield 40, 3) := by decide +kernel
theorem dX3_floatsMove_33 : decode cX3_floatsMove 33 = .ok (.iload_n 3, 1) := by decide +kernel
theorem dX3_floatsMove_34 : decode cX3_floatsMove 34 = .ok (.iaload, 1) := by decide +kernel
theorem dX3_floatsMove_35 : decode cX3_floatsMove 35 = .ok (.aload_n 0, 1) := by decide +kernel
theorem dX3_floatsMove_36 : decode cX3_floatsMove 36 = .ok (.getfield 31, 3) := by decide +kernel
theorem dX3_floatsMove_39 : decode cX3_floatsMove 39 = .ok (.iload_n 3, 1) := by decide +kernel
theorem dX3_floatsMove_40 : decode cX3_floatsMove 40 = .ok (.iaload, 1) := by decide +kernel
theorem dX3_floatsMove_41 : decode cX3_floatsMove 41 = .ok (.iadd, 1) := by decide +kernel
theorem dX3_floatsMove_42 : decode cX3_floatsMove 42 = .ok (.istore 4, 2) := by decide +kernel
theorem dX3_floatsMove_44 : decode cX3_floatsMove 44 = .ok (.iload_n 1, 1) := by decide +kernel
theorem dX3_floatsMove_45 : decode cX3_floatsMove 45 = .ok (.iconst (-1), 1) := by decide +kernel
theorem dX3_floatsMove_46 : decode cX3_floatsMove 46 = .ok (.if_icmp .ne 8, 3) := by decide +kernel
theorem dX3_floatsMove_49 : decode cX3_floatsMove 49 = .ok (.iload 4, 2) := by decide +kernel
theorem dX3_floatsMove_51 : decode cX3_floatsMove 51 = .ok (.goto 17, 3) := by decide +kernel
theorem dX3_floatsMove_54 : decode cX3_floatsMove 54 = .ok (.aload_n 0, 1) := by decide +kernel
theorem dX3_floatsMove_55 : decode cX3_floatsMove 55 = .ok (.getfield 40, 3) := by decide +kernel
theorem dX3_floatsMove_58 : decode cX3_floatsMove 58 = .ok (.iload_n 1, 1) := by decide +kernel
theorem dX3_floatsMove_59 : decode cX3_floatsMove 59 = .ok (.iaload, 1) := by decide +kernel
theorem dX3_floatsMove_60 : decode cX3_floatsMove 60 = .ok (.bipush 9, 2) := by decide +kernel
theorem dX3_floatsMove_62 : decode cX3_floatsMove 62 = .ok (.isub, 1) := by decide +kernel
theorem dX3_floatsMove_63 : decode cX3_floatsMove 63 = .ok (.aload_n 0, 1) := by decide +kernel
theorem dX3_floatsMove_64 : decode cX3_floatsMove 64 = .ok (.getfield 46, 3) := by decide +kernel
theorem dX3_floatsMove_67 : decode cX3_floatsMove 67 = .ok (.isub, 1) := by decide +kernel
theorem dX3_floatsMove_68 : decode cX3_floatsMove 68 = .ok (.istore 5, 2) := by decide +kernel
theorem dX3_floatsMove_70 : decode cX3_floatsMove 70 = .ok (.iload 4, 2) := by decide +kernel
theorem dX3_floatsMove_72 : decode cX3_floatsMove 72 = .ok (.iload 5, 2) := by decide +kernel
theorem dX3_floatsMove_74 : decode cX3_floatsMove 74 = .ok (.if_icmp .ge 8, 3) := by decide +kernel
theorem dX3_floatsMove_77 : decode cX3_floatsMove 77 = .ok (.iload 4, 2) := by decide +kernel
theorem dX3_floatsMove_79 : decode cX3_floatsMove 79 = .ok (.goto 5, 3) := by decide +kernel
theorem dX3_floatsMove_82 : decode cX3_floatsMove 82 = .ok (.iload 5, 2) := by decide +kernel
theorem dX3_floatsMove_84 : decode cX3_floatsMove 84 = .ok (.istore 4, 2) := by decide +kernel
theorem dX3_floatsMove_86 : decode cX3_floatsMove 86 = .ok (.aload_n 0, 1) := by decide +kernel
theorem dX3_floatsMove_87 : decode cX3_floatsMove 87 = .ok (.getfield 40, 3) := by decide +kernel
theorem dX3_floatsMove_90 : decode cX3_floatsMove 90 = .ok (.iload_n 3, 1) := by decide +kernel
theorem dX3_floatsMove_91 : decode cX3_floatsMove 91 = .ok (.iload 4, 2) := by decide +kernel
theorem dX3_floatsMove_93 : decode cX3_floatsMove 93 = .ok (.aload_n 0, 1) := by decide +kernel
theorem dX3_floatsMove_94 : decode cX3_floatsMove 94 = .ok (.getfield 40, 3) := by decide +kernel
theorem dX3_floatsMove_97 : decode cX3_floatsMove 97 = .ok (.iload_n 3, 1) := by decide +kernel
theorem dX3_floatsMove_98 : decode cX3_floatsMove 98 = .ok (.iaload, 1) := by decide +kernel
theorem dX3_floatsMove_99 : decode cX3_floatsMove 99 = .ok (.if_icmp .le 8, 3) := by decide +kernel
theorem dX3_floatsMove_102 : decode cX3_floatsMove 102 = .ok (.iload 4, 2) := by decide +kernel
theorem dX3_floatsMove_104 : decode cX3_floatsMove 104 = .ok (.goto 9, 3) := by decide +kernel
theorem dX3_floatsMove_107 : decode cX3_floatsMove 107 = .ok (.aload_n 0, 1) := by decide +kernel
theorem dX3_floatsMove_108 : decode cX3_floatsMove 108 = .ok (.getfield 40, 3) := by decide +kernel
theorem dX3_floatsMove_111 : decode cX3_floatsMove 111 = .ok (.iload_n 3, 1) := by decide +kernel
theorem dX3_floatsMove_112 : decode cX3_floatsMove 112 = .ok (.iaload, 1) := by decide +kernel
theorem dX3_floatsMove_113 : decode cX3_floatsMove 113 = .ok (.iastore, 1) := by decide +kernel
theorem dX3_floatsMove_114 : decode cX3_floatsMove 114 = .ok (.iload_n 3, 1) := by decide +kernel
theorem dX3_floatsMove_115 : decode cX3_floatsMove 115 = .ok (.istore_n 1, 1) := by decide +kernel
theorem dX3_floatsMove_116 : decode cX3_floatsMove 116 = .ok (.iinc 2 1, 3) := by decide +kernel
theorem dX3_floatsMove_119 : decode cX3_floatsMove 119 = .ok (.goto (-115), 3) := by decide +kernel
theorem dX3_floatsMove_122 : decode cX3_floatsMove 122 = .ok (.iconst 0, 1) := by decide +kernel
theorem dX3_floatsMove_123 : decode cX3_floatsMove 123 = .ok (.istore_n 2, 1) := by decide +kernel
theorem dX3_floatsMove_124 : decode cX3_floatsMove 124 = .ok (.iload_n 2, 1) := by decide +kernel
theorem dX3_floatsMove_125 : decode cX3_floatsMove 125 = .ok (.aload_n 0, 1) := by decide +kernel
theorem dX3_floatsMove_126 : decode cX3_floatsMove 126 = .ok (.getfield 63, 3) := by decide +kernel
theorem dX3_floatsMove_129 : decode cX3_floatsMove 129 = .ok (.if_icmp .ge 69, 3) := by decide +kernel
theorem dX3_floatsMove_132 : decode cX3_floatsMove 132 = .ok (.aload_n 0, 1) := by decide +kernel
theorem dX3_floatsMove_133 : decode cX3_floatsMove 133 = .ok (.getfield 37, 3) := by decide +kernel
theorem dX3_floatsMove_136 : decode cX3_floatsMove 136 = .ok (.iload_n 2, 1) := by decide +kernel
theorem dX3_floatsMove_137 : decode cX3_floatsMove 137 = .ok (.iaload, 1) := by decide +kernel
theorem dX3_floatsMove_138 : decode cX3_floatsMove 138 = .ok (.iconst 1, 1) := by decide +kernel
theorem dX3_floatsMove_139 : decode cX3_floatsMove 139 = .ok (.if_icmp .ne 53, 3) := by decide +kernel
theorem dX3_floatsMove_142 : decode cX3_floatsMove 142 = .ok (.aload_n 0, 1) := by decide +kernel
theorem dX3_floatsMove_143 : decode cX3_floatsMove 143 = .ok (.getfield 40, 3) := by decide +kernel
theorem dX3_floatsMove_146 : decode cX3_floatsMove 146 = .ok (.iload_n 2, 1) := by decide +kernel
theorem dX3_floatsMove_147 : decode cX3_floatsMove 147 = .ok (.iaload, 1) := by decide +kernel
theorem dX3_floatsMove_148 : decode cX3_floatsMove 148 = .ok (.sipush 500, 3) := by decide +kernel
theorem dX3_floatsMove_151 : decode cX3_floatsMove 151 = .ok (.if_icmp .lt 41, 3) := by decide +kernel
theorem dX3_floatsMove_154 : decode cX3_floatsMove 154 = .ok (.aload_n 0, 1) := by decide +kernel
theorem dX3_floatsMove_155 : decode cX3_floatsMove 155 = .ok (.getfield 37, 3) := by decide +kernel
theorem dX3_floatsMove_158 : decode cX3_floatsMove 158 = .ok (.iload_n 2, 1) := by decide +kernel
theorem dX3_floatsMove_159 : decode cX3_floatsMove 159 = .ok (.iconst 2, 1) := by decide +kernel
theorem dX3_floatsMove_160 : decode cX3_floatsMove 160 = .ok (.iastore, 1) := by decide +kernel
theorem dX3_floatsMove_161 : decode cX3_floatsMove 161 = .ok (.iconst 0, 1) := by decide +kernel
theorem dX3_floatsMove_162 : decode cX3_floatsMove 162 = .ok (.istore_n 3, 1) := by decide +kernel
theorem dX3_floatsMove_163 : decode cX3_floatsMove 163 = .ok (.iload_n 3, 1) := by decide +kernel
theorem dX3_floatsMove_164 : decode cX3_floatsMove 164 = .ok (.aload_n 0, 1) := by decide +kernel
theorem dX3_floatsMove_165 : decode cX3_floatsMove 165 = .ok (.getfield 56, 3) := by decide +kernel
theorem dX3_floatsMove_168 : decode cX3_floatsMove 168 = .ok (.if_icmp .ge 24, 3) := by decide +kernel
theorem dX3_floatsMove_171 : decode cX3_floatsMove 171 = .ok (.aload_n 0, 1) := by decide +kernel
theorem dX3_floatsMove_172 : decode cX3_floatsMove 172 = .ok (.getfield 25, 3) := by decide +kernel
theorem dX3_floatsMove_175 : decode cX3_floatsMove 175 = .ok (.iload_n 3, 1) := by decide +kernel
theorem dX3_floatsMove_176 : decode cX3_floatsMove 176 = .ok (.iaload, 1) := by decide +kernel
theorem dX3_floatsMove_177 : decode cX3_floatsMove 177 = .ok (.iload_n 2, 1) := by decide +kernel
theorem dX3_floatsMove_178 : decode cX3_floatsMove 178 = .ok (.if_icmp .ne 8, 3) := by decide +kernel
theorem dX3_floatsMove_181 : decode cX3_floatsMove 181 = .ok (.aload_n 0, 1) := by decide +kernel
theorem dX3_floatsMove_182 : decode cX3_floatsMove 182 = .ok (.iload_n 3, 1) := by decide +kernel
theorem dX3_floatsMove_183 : decode cX3_floatsMove 183 = .ok (.invokevirtual 88, 3) := by decide +kernel
theorem dX3_floatsMove_186 : decode cX3_floatsMove 186 = .ok (.iinc 3 1, 3) := by decide +kernel
theorem dX3_floatsMove_189 : decode cX3_floatsMove 189 = .ok (.goto (-26), 3) := by decide +kernel
theorem dX3_floatsMove_192 : decode cX3_floatsMove 192 = .ok (.iinc 2 1, 3) := by decide +kernel
theorem dX3_floatsMove_195 : decode cX3_floatsMove 195 = .ok (.goto (-71), 3) := by decide +kernel
theorem dX3_floatsMove_198 : decode cX3_floatsMove 198 = .ok (.return_, 1) := by decide +kernel
set_option maxRecDepth 20000 in
theorem ggX3_burns_X3_isNear : GoodIn wsX3_burns wsX3_isNear := goodIn_r _ [14, 4, 15, 16, 17, 18, 19, 13, 20, 21, 22, 23, 24, 25, 26, 27, 28, 29, 30, 31, 32, 33, 34, 35, 36, 37, 38, 39, 40, 41, 42, 43, 44, 45, 46, 47, 48, 49] (by decide +kernel) (by decide +kernel)
set_option maxRecDepth 20000 in
theorem gX3_burns_X3_isNear : GoodIn wsX3_burns (wsV RX3 105 RX3 yX3_isNear wsX3_isNear) := goodIn_app (goodIn_of _ (by decide +kernel)) ggX3_burns_X3_isNear
theorem dX3_burns_0 : decode cX3_burns 0 = .ok (.aload_n 0, 1) := by decide +kernel
theorem dX3_burns_1 : decode cX3_burns 1 = .ok (.getfield 118, 3) := by decide +kernel
theorem dX3_burns_4 : decode cX3_burns 4 = .ok (.sipush 400, 3) := by decide +kernel
theorem dX3_burns_7 : decode cX3_burns 7 = .ok (.if_icmp .gt 15, 3) := by decide +kernel
theorem dX3_burns_10 : decode cX3_burns 10 = .ok (.aload_n 0, 1) := by decide +kernel
theorem dX3_burns_11 : decode cX3_burns 11 = .ok (.getfield 50, 3) := by decide +kernel
theorem dX3_burns_14 : decode cX3_burns 14 = .ok (.aload_n 0, 1) := by decide +kernel
theorem dX3_burns_15 : decode cX3_burns 15 = .ok (.getfield 118, 3) := by decide +kernel
theorem dX3_burns_18 : decode cX3_burns 18 = .ok (.iaload, 1) := by decide +kernel
theorem dX3_burns_19 : decode cX3_burns 19 = .ok (.goto 4, 3) := by decide +kernel
theorem dX3_burns_22 : decode cX3_burns 22 = .ok (.iconst 0, 1) := by decide +kernel
theorem dX3_burns_23 : decode cX3_burns 23 = .ok (.istore_n 1, 1) := by decide +kernel
theorem dX3_burns_24 : decode cX3_burns 24 = .ok (.iconst 0, 1) := by decide +kernel
theorem dX3_burns_25 : decode cX3_burns 25 = .ok (.istore_n 2, 1) := by decide +kernel
theorem dX3_burns_26 : decode cX3_burns 26 = .ok (.iload_n 2, 1) := by decide +kernel
theorem dX3_burns_27 : decode cX3_burns 27 = .ok (.aload_n 0, 1) := by decide +kernel
theorem dX3_burns_28 : decode cX3_burns 28 = .ok (.getfield 56, 3) := by decide +kernel
theorem dX3_burns_31 : decode cX3_burns 31 = .ok (.if_icmp .ge 55, 3) := by decide +kernel
theorem dX3_burns_34 : decode cX3_burns 34 = .ok (.aload_n 0, 1) := by decide +kernel
theorem dX3_burns_35 : decode cX3_burns 35 = .ok (.getfield 19, 3) := by decide +kernel
theorem dX3_burns_38 : decode cX3_burns 38 = .ok (.iload_n 2, 1) := by decide +kernel
theorem dX3_burns_39 : decode cX3_burns 39 = .ok (.iaload, 1) := by decide +kernel
theorem dX3_burns_40 : decode cX3_burns 40 = .ok (.iconst 1, 1) := by decide +kernel
theorem dX3_burns_41 : decode cX3_burns 41 = .ok (.if_icmp .ne 39, 3) := by decide +kernel
theorem dX3_burns_44 : decode cX3_burns 44 = .ok (.aload_n 0, 1) := by decide +kernel
theorem dX3_burns_45 : decode cX3_burns 45 = .ok (.getfield 13, 3) := by decide +kernel
theorem dX3_burns_48 : decode cX3_burns 48 = .ok (.iload_n 2, 1) := by decide +kernel
theorem dX3_burns_49 : decode cX3_burns 49 = .ok (.iaload, 1) := by decide +kernel
theorem dX3_burns_50 : decode cX3_burns 50 = .ok (.aload_n 0, 1) := by decide +kernel
theorem dX3_burns_51 : decode cX3_burns 51 = .ok (.getfield 7, 3) := by decide +kernel
theorem dX3_burns_54 : decode cX3_burns 54 = .ok (.iload_n 2, 1) := by decide +kernel
theorem dX3_burns_55 : decode cX3_burns 55 = .ok (.iaload, 1) := by decide +kernel
theorem dX3_burns_56 : decode cX3_burns 56 = .ok (.iconst 3, 1) := by decide +kernel
theorem dX3_burns_57 : decode cX3_burns 57 = .ok (.idiv, 1) := by decide +kernel
theorem dX3_burns_58 : decode cX3_burns 58 = .ok (.iadd, 1) := by decide +kernel
theorem dX3_burns_59 : decode cX3_burns 59 = .ok (.iload_n 1, 1) := by decide +kernel
theorem dX3_burns_60 : decode cX3_burns 60 = .ok (.if_icmp .ge 20, 3) := by decide +kernel
theorem dX3_burns_63 : decode cX3_burns 63 = .ok (.aload_n 0, 1) := by decide +kernel
theorem dX3_burns_64 : decode cX3_burns 64 = .ok (.getfield 19, 3) := by decide +kernel
theorem dX3_burns_67 : decode cX3_burns 67 = .ok (.iload_n 2, 1) := by decide +kernel
theorem dX3_burns_68 : decode cX3_burns 68 = .ok (.iconst 0, 1) := by decide +kernel
theorem dX3_burns_69 : decode cX3_burns 69 = .ok (.iastore, 1) := by decide +kernel
theorem dX3_burns_70 : decode cX3_burns 70 = .ok (.aload_n 0, 1) := by decide +kernel
theorem dX3_burns_71 : decode cX3_burns 71 = .ok (.dup, 1) := by decide +kernel
theorem dX3_burns_72 : decode cX3_burns 72 = .ok (.getfield 121, 3) := by decide +kernel
theorem dX3_burns_75 : decode cX3_burns 75 = .ok (.iconst 1, 1) := by decide +kernel
theorem dX3_burns_76 : decode cX3_burns 76 = .ok (.iadd, 1) := by decide +kernel
theorem dX3_burns_77 : decode cX3_burns 77 = .ok (.putfield 121, 3) := by decide +kernel
theorem dX3_burns_80 : decode cX3_burns 80 = .ok (.iinc 2 1, 3) := by decide +kernel
theorem dX3_burns_83 : decode cX3_burns 83 = .ok (.goto (-57), 3) := by decide +kernel
theorem dX3_burns_86 : decode cX3_burns 86 = .ok (.iconst 0, 1) := by decide +kernel
theorem dX3_burns_87 : decode cX3_burns 87 = .ok (.istore_n 2, 1) := by decide +kernel
theorem dX3_burns_88 : decode cX3_burns 88 = .ok (.iload_n 2, 1) := by decide +kernel
theorem dX3_burns_89 : decode cX3_burns 89 = .ok (.aload_n 0, 1) := by decide +kernel
theorem dX3_burns_90 : decode cX3_burns 90 = .ok (.getfield 56, 3) := by decide +kernel
theorem dX3_burns_93 : decode cX3_burns 93 = .ok (.if_icmp .ge 49, 3) := by decide +kernel
theorem dX3_burns_96 : decode cX3_burns 96 = .ok (.aload_n 0, 1) := by decide +kernel
theorem dX3_burns_97 : decode cX3_burns 97 = .ok (.getfield 19, 3) := by decide +kernel
theorem dX3_burns_100 : decode cX3_burns 100 = .ok (.iload_n 2, 1) := by decide +kernel
theorem dX3_burns_101 : decode cX3_burns 101 = .ok (.iaload, 1) := by decide +kernel
theorem dX3_burns_102 : decode cX3_burns 102 = .ok (.iconst 1, 1) := by decide +kernel
theorem dX3_burns_103 : decode cX3_burns 103 = .ok (.if_icmp .ne 33, 3) := by decide +kernel
theorem dX3_burns_106 : decode cX3_burns 106 = .ok (.aload_n 0, 1) := by decide +kernel
theorem dX3_burns_107 : decode cX3_burns 107 = .ok (.getfield 22, 3) := by decide +kernel
theorem dX3_burns_110 : decode cX3_burns 110 = .ok (.iload_n 2, 1) := by decide +kernel
theorem dX3_burns_111 : decode cX3_burns 111 = .ok (.dup2, 1) := by decide +kernel
theorem dX3_burns_112 : decode cX3_burns 112 = .ok (.iaload, 1) := by decide +kernel
theorem dX3_burns_113 : decode cX3_burns 113 = .ok (.iconst 1, 1) := by decide +kernel
theorem dX3_burns_114 : decode cX3_burns 114 = .ok (.isub, 1) := by decide +kernel
theorem dX3_burns_115 : decode cX3_burns 115 = .ok (.iastore, 1) := by decide +kernel
theorem dX3_burns_116 : decode cX3_burns 116 = .ok (.aload_n 0, 1) := by decide +kernel
theorem dX3_burns_117 : decode cX3_burns 117 = .ok (.getfield 19, 3) := by decide +kernel
theorem dX3_burns_120 : decode cX3_burns 120 = .ok (.iload_n 2, 1) := by decide +kernel
theorem dX3_burns_121 : decode cX3_burns 121 = .ok (.aload_n 0, 1) := by decide +kernel
theorem dX3_burns_122 : decode cX3_burns 122 = .ok (.getfield 22, 3) := by decide +kernel
theorem dX3_burns_125 : decode cX3_burns 125 = .ok (.iload_n 2, 1) := by decide +kernel
theorem dX3_burns_126 : decode cX3_burns 126 = .ok (.iaload, 1) := by decide +kernel
theorem dX3_burns_127 : decode cX3_burns 127 = .ok (.ifCond .ne 7, 3) := by decide +kernel
theorem dX3_burns_130 : decode cX3_burns 130 = .ok (.iconst 2, 1) := by decide +kernel
theorem dX3_burns_131 : decode cX3_burns 131 = .ok (.goto 4, 3) := by decide +kernel
theorem dX3_burns_134 : decode cX3_burns 134 = .ok (.iconst 1, 1) := by decide +kernel
theorem dX3_burns_135 : decode cX3_burns 135 = .ok (.iastore, 1) := by decide +kernel
theorem dX3_burns_136 : decode cX3_burns 136 = .ok (.iinc 2 1, 3) := by decide +kernel
theorem dX3_burns_139 : decode cX3_burns 139 = .ok (.goto (-51), 3) := by decide +kernel
theorem dX3_burns_142 : decode cX3_burns 142 = .ok (.iconst 0, 1) := by decide +kernel
theorem dX3_burns_143 : decode cX3_burns 143 = .ok (.istore_n 2, 1) := by decide +kernel
theorem dX3_burns_144 : decode cX3_burns 144 = .ok (.iload_n 2, 1) := by decide +kernel
theorem dX3_burns_145 : decode cX3_burns 145 = .ok (.aload_n 0, 1) := by decide +kernel
theorem dX3_burns_146 : decode cX3_burns 146 = .ok (.getfield 56, 3) := by decide +kernel
theorem dX3_burns_149 : decode cX3_burns 149 = .ok (.if_icmp .ge 45, 3) := by decide +kernel
theorem dX3_burns_152 : decode cX3_burns 152 = .ok (.aload_n 0, 1) := by decide +kernel
theorem dX3_burns_153 : decode cX3_burns 153 = .ok (.getfield 19, 3) := by decide +kernel
theorem dX3_burns_156 : decode cX3_burns 156 = .ok (.iload_n 2, 1) := by decide +kernel
theorem dX3_burns_157 : decode cX3_burns 157 = .ok (.iaload, 1) := by decide +kernel
theorem dX3_burns_158 : decode cX3_burns 158 = .ok (.iconst 1, 1) := by decide +kernel
theorem dX3_burns_159 : decode cX3_burns 159 = .ok (.if_icmp .ne 29, 3) := by decide +kernel
theorem dX3_burns_162 : decode cX3_burns 162 = .ok (.aload_n 0, 1) := by decide +kernel
theorem dX3_burns_163 : decode cX3_burns 163 = .ok (.iload_n 2, 1) := by decide +kernel
theorem dX3_burns_164 : decode cX3_burns 164 = .ok (.iload_n 2, 1) := by decide +kernel
theorem dX3_burns_165 : decode cX3_burns 165 = .ok (.invokevirtual 105, 3) := by decide +kernel
theorem dX3_burns_168 : decode cX3_burns 168 = .ok (.ifCond .eq 20, 3) := by decide +kernel
theorem dX3_burns_171 : decode cX3_burns 171 = .ok (.aload_n 0, 1) := by decide +kernel
theorem dX3_burns_172 : decode cX3_burns 172 = .ok (.getfield 19, 3) := by decide +kernel
theorem dX3_burns_175 : decode cX3_burns 175 = .ok (.iload_n 2, 1) := by decide +kernel
theorem dX3_burns_176 : decode cX3_burns 176 = .ok (.iconst 0, 1) := by decide +kernel
theorem dX3_burns_177 : decode cX3_burns 177 = .ok (.iastore, 1) := by decide +kernel
theorem dX3_burns_178 : decode cX3_burns 178 = .ok (.aload_n 0, 1) := by decide +kernel
theorem dX3_burns_179 : decode cX3_burns 179 = .ok (.dup, 1) := by decide +kernel
theorem dX3_burns_180 : decode cX3_burns 180 = .ok (.getfield 124, 3) := by decide +kernel
theorem dX3_burns_183 : decode cX3_burns 183 = .ok (.iconst 1, 1) := by decide +kernel
theorem dX3_burns_184 : decode cX3_burns 184 = .ok (.iadd, 1) := by decide +kernel
theorem dX3_burns_185 : decode cX3_burns 185 = .ok (.putfield 124, 3) := by decide +kernel
theorem dX3_burns_188 : decode cX3_burns 188 = .ok (.iinc 2 1, 3) := by decide +kernel
theorem dX3_burns_191 : decode cX3_burns 191 = .ok (.goto (-47), 3) := by decide +kernel
theorem dX3_burns_194 : decode cX3_burns 194 = .ok (.return_, 1) := by decide +kernel
theorem dX3_lit_0 : decode cX3_lit 0 = .ok (.iconst 0, 1) := by decide +kernel
theorem dX3_lit_1 : decode cX3_lit 1 = .ok (.istore_n 1, 1) := by decide +kernel
theorem dX3_lit_2 : decode cX3_lit 2 = .ok (.iconst 0, 1) := by decide +kernel
theorem dX3_lit_3 : decode cX3_lit 3 = .ok (.istore_n 2, 1) := by decide +kernel
theorem dX3_lit_4 : decode cX3_lit 4 = .ok (.iload_n 2, 1) := by decide +kernel
theorem dX3_lit_5 : decode cX3_lit 5 = .ok (.aload_n 0, 1) := by decide +kernel
theorem dX3_lit_6 : decode cX3_lit 6 = .ok (.getfield 56, 3) := by decide +kernel
theorem dX3_lit_9 : decode cX3_lit 9 = .ok (.if_icmp .ge 27, 3) := by decide +kernel
theorem dX3_lit_12 : decode cX3_lit 12 = .ok (.iload_n 1, 1) := by decide +kernel
theorem dX3_lit_13 : decode cX3_lit 13 = .ok (.aload_n 0, 1) := by decide +kernel
theorem dX3_lit_14 : decode cX3_lit 14 = .ok (.getfield 19, 3) := by decide +kernel
theorem dX3_lit_17 : decode cX3_lit 17 = .ok (.iload_n 2, 1) := by decide +kernel
theorem dX3_lit_18 : decode cX3_lit 18 = .ok (.iaload, 1) := by decide +kernel
theorem dX3_lit_19 : decode cX3_lit 19 = .ok (.iconst 1, 1) := by decide +kernel
theorem dX3_lit_20 : decode cX3_lit 20 = .ok (.if_icmp .ne 7, 3) := by decide +kernel
theorem dX3_lit_23 : decode cX3_lit 23 = .ok (.iconst 1, 1) := by decide +kernel
theorem dX3_lit_24 : decode cX3_lit 24 = .ok (.goto 4, 3) := by decide +kernel
theorem dX3_lit_27 : decode cX3_lit 27 = .ok (.iconst 0, 1) := by decide +kernel
theorem dX3_lit_28 : decode cX3_lit 28 = .ok (.iadd, 1) := by decide +kernel
theorem dX3_lit_29 : decode cX3_lit 29 = .ok (.istore_n 1, 1) := by decide +kernel
theorem dX3_lit_30 : decode cX3_lit 30 = .ok (.iinc 2 1, 3) := by decide +kernel
theorem dX3_lit_33 : decode cX3_lit 33 = .ok (.goto (-29), 3) := by decide +kernel
theorem dX3_lit_36 : decode cX3_lit 36 = .ok (.iload_n 1, 1) := by decide +kernel
theorem dX3_lit_37 : decode cX3_lit 37 = .ok (.ireturn, 1) := by decide +kernel
set_option maxRecDepth 20000 in
theorem ggX3_pass_X3_in : GoodIn wsX3_pass wsX3_in := goodIn_r _ [5] (by decide +kernel) (by decide +kernel)
set_option maxRecDepth 20000 in
theorem gX3_pass_X3_in : GoodIn wsX3_pass (va_wsS RX3 59 yX3_in wsX3_in) := goodIn_app (goodIn_of _ (by decide +kernel)) ggX3_pass_X3_in
set_option maxRecDepth 20000 in
theorem ggX3_pass_X3_goes : GoodIn wsX3_pass wsX3_goes := goodIn_r _ [9, 10, 58, 59, 60, 61, 62, 63, 64, 65, 66, 67, 68, 69, 70, 71, 72, 73, 74, 75, 76, 77, 78, 79] (by decide +kernel) (by decide +kernel)
set_option maxRecDepth 20000 in
theorem gX3_pass_X3_goes : GoodIn wsX3_pass (wsV RX3 66 RX3 yX3_goes wsX3_goes) := goodIn_app (goodIn_of _ (by decide +kernel)) ggX3_pass_X3_goes
set_option maxRecDepth 20000 in
theorem ggX3_pass_X3_lit : GoodIn wsX3_pass wsX3_lit := goodIn_r _ [14, 15, 16, 58, 59, 60, 61, 62, 63, 64, 65, 66, 67, 68, 69, 70, 71, 72, 73, 74, 75, 76, 77, 78, 79] (by decide +kernel) (by decide +kernel)
set_option maxRecDepth 20000 in
theorem gX3_pass_X3_lit : GoodIn wsX3_pass (wsV RX3 127 RX3 yX3_lit wsX3_lit) := goodIn_app (goodIn_of _ (by decide +kernel)) ggX3_pass_X3_lit
set_option maxRecDepth 20000 in
theorem ggX3_pass_X3_floatsMove : GoodIn wsX3_pass wsX3_floatsMove := goodIn_r _ [20, 21, 22, 23, 24, 25, 26, 27, 15, 28, 29, 30, 31, 4, 32, 16, 58, 59, 60, 61, 62, 63, 64, 65, 66, 67, 68, 69, 70, 71, 72, 73, 74, 75, 76, 77, 78, 79] (by decide +kernel) (by decide +kernel)
set_option maxRecDepth 20000 in
theorem gX3_pass_X3_floatsMove : GoodIn wsX3_pass (wsV RX3 130 RX3 yX3_floatsMove wsX3_floatsMove) := goodIn_app (goodIn_of _ (by decide +kernel)) ggX3_pass_X3_floatsMove
set_option maxRecDepth 20000 in
theorem ggX3_pass_X3_burns : GoodIn wsX3_pass wsX3_burns := goodIn_r _ [36, 1, 37, 15, 16, 38, 39, 40, 41, 42, 43, 44, 45, 4, 46, 47, 48, 49, 50, 51, 52, 53, 54, 55, 56, 24, 28, 57, 58, 59, 60, 61, 62, 63, 64, 65, 66, 67, 68, 69, 70, 71, 72, 73, 74, 75, 76, 77, 78, 79] (by decide +kernel) (by decide +kernel)
set_option maxRecDepth 20000 in
theorem gX3_pass_X3_burns : GoodIn wsX3_pass (wsV RX3 133 RX3 yX3_burns wsX3_burns) := goodIn_app (goodIn_of _ (by decide +kernel)) ggX3_pass_X3_burns
theorem dX3_pass_0 : decode cX3_pass 0 = .ok (.aload_n 0, 1) := by decide +kernel
theorem dX3_pass_1 : decode cX3_pass 1 = .ok (.iload_n 1, 1) := by decide +kernel
theorem dX3_pass_2 : decode cX3_pass 2 = .ok (.iconst 1, 1) := by decide +kernel
theorem dX3_pass_3 : decode cX3_pass 3 = .ok (.bipush 60, 2) := by decide +kernel
theorem dX3_pass_5 : decode cX3_pass 5 = .ok (.invokestatic 59, 3) := by decide +kernel
theorem dX3_pass_8 : decode cX3_pass 8 = .ok (.iconst 1, 1) := by decide +kernel
theorem dX3_pass_9 : decode cX3_pass 9 = .ok (.iconst 1, 1) := by decide +kernel
theorem dX3_pass_10 : decode cX3_pass 10 = .ok (.invokevirtual 66, 3) := by decide +kernel
theorem dX3_pass_13 : decode cX3_pass 13 = .ok (.ifCond .ne 5, 3) := by decide +kernel
theorem dX3_pass_16 : decode cX3_pass 16 = .ok (.iconst 0, 1) := by decide +kernel
theorem dX3_pass_17 : decode cX3_pass 17 = .ok (.ireturn, 1) := by decide +kernel
theorem dX3_pass_18 : decode cX3_pass 18 = .ok (.aload_n 0, 1) := by decide +kernel
theorem dX3_pass_19 : decode cX3_pass 19 = .ok (.invokevirtual 127, 3) := by decide +kernel
theorem dX3_pass_22 : decode cX3_pass 22 = .ok (.istore_n 2, 1) := by decide +kernel
theorem dX3_pass_23 : decode cX3_pass 23 = .ok (.iconst 0, 1) := by decide +kernel
theorem dX3_pass_24 : decode cX3_pass 24 = .ok (.istore_n 3, 1) := by decide +kernel
theorem dX3_pass_25 : decode cX3_pass 25 = .ok (.iload_n 3, 1) := by decide +kernel
theorem dX3_pass_26 : decode cX3_pass 26 = .ok (.iload_n 1, 1) := by decide +kernel
theorem dX3_pass_27 : decode cX3_pass 27 = .ok (.if_icmp .ge 27, 3) := by decide +kernel
theorem dX3_pass_30 : decode cX3_pass 30 = .ok (.aload_n 0, 1) := by decide +kernel
theorem dX3_pass_31 : decode cX3_pass 31 = .ok (.dup, 1) := by decide +kernel
theorem dX3_pass_32 : decode cX3_pass 32 = .ok (.getfield 118, 3) := by decide +kernel
theorem dX3_pass_35 : decode cX3_pass 35 = .ok (.iconst 1, 1) := by decide +kernel
theorem dX3_pass_36 : decode cX3_pass 36 = .ok (.iadd, 1) := by decide +kernel
theorem dX3_pass_37 : decode cX3_pass 37 = .ok (.putfield 118, 3) := by decide +kernel
theorem dX3_pass_40 : decode cX3_pass 40 = .ok (.aload_n 0, 1) := by decide +kernel
theorem dX3_pass_41 : decode cX3_pass 41 = .ok (.invokevirtual 130, 3) := by decide +kernel
theorem dX3_pass_44 : decode cX3_pass 44 = .ok (.aload_n 0, 1) := by decide +kernel
theorem dX3_pass_45 : decode cX3_pass 45 = .ok (.invokevirtual 133, 3) := by decide +kernel
theorem dX3_pass_48 : decode cX3_pass 48 = .ok (.iinc 3 1, 3) := by decide +kernel
theorem dX3_pass_51 : decode cX3_pass 51 = .ok (.goto (-26), 3) := by decide +kernel
theorem dX3_pass_54 : decode cX3_pass 54 = .ok (.iload_n 2, 1) := by decide +kernel
theorem dX3_pass_55 : decode cX3_pass 55 = .ok (.aload_n 0, 1) := by decide +kernel
theorem dX3_pass_56 : decode cX3_pass 56 = .ok (.invokevirtual 127, 3) := by decide +kernel
theorem dX3_pass_59 : decode cX3_pass 59 = .ok (.isub, 1) := by decide +kernel
theorem dX3_pass_60 : decode cX3_pass 60 = .ok (.ireturn, 1) := by decide +kernel
theorem dX3_time_0 : decode cX3_time 0 = .ok (.aload_n 0, 1) := by decide +kernel
theorem dX3_time_1 : decode cX3_time 1 = .ok (.iconst 0, 1) := by decide +kernel
theorem dX3_time_2 : decode cX3_time 2 = .ok (.putfield 53, 3) := by decide +kernel
theorem dX3_time_5 : decode cX3_time 5 = .ok (.aload_n 0, 1) := by decide +kernel
theorem dX3_time_6 : decode cX3_time 6 = .ok (.getfield 118, 3) := by decide +kernel
theorem dX3_time_9 : decode cX3_time 9 = .ok (.ireturn, 1) := by decide +kernel
theorem dX3_lanterns_0 : decode cX3_lanterns 0 = .ok (.aload_n 0, 1) := by decide +kernel
theorem dX3_lanterns_1 : decode cX3_lanterns 1 = .ok (.iconst 0, 1) := by decide +kernel
theorem dX3_lanterns_2 : decode cX3_lanterns 2 = .ok (.putfield 53, 3) := by decide +kernel
theorem dX3_lanterns_5 : decode cX3_lanterns 5 = .ok (.aload_n 0, 1) := by decide +kernel
theorem dX3_lanterns_6 : decode cX3_lanterns 6 = .ok (.getfield 56, 3) := by decide +kernel
theorem dX3_lanterns_9 : decode cX3_lanterns 9 = .ok (.ireturn, 1) := by decide +kernel
set_option maxRecDepth 20000 in
theorem ggX3_stateOf_X3_isLantern : GoodIn wsX3_stateOf wsX3_isLantern := goodIn_r _ [6, 7, 8, 9, 5, 10, 16, 17, 18, 19, 20, 21, 22, 23, 24, 25, 26, 27, 28, 29, 30, 31, 32, 33, 34, 35, 36, 37] (by decide +kernel) (by decide +kernel)
set_option maxRecDepth 20000 in
theorem gX3_stateOf_X3_isLantern : GoodIn wsX3_stateOf (wsV RX3 74 RX3 yX3_isLantern wsX3_isLantern) := goodIn_app (goodIn_of _ (by decide +kernel)) ggX3_stateOf_X3_isLantern
set_option maxRecDepth 20000 in
theorem ggX3_stateOf_X3_goes : GoodIn wsX3_stateOf wsX3_goes := goodIn_r _ [14, 15, 16, 17, 18, 19, 20, 21, 22, 23, 24, 25, 26, 27, 28, 29, 30, 31, 32, 33, 34, 35, 36, 37] (by decide +kernel) (by decide +kernel)
set_option maxRecDepth 20000 in
theorem gX3_stateOf_X3_goes : GoodIn wsX3_stateOf (wsV RX3 66 RX3 yX3_goes wsX3_goes) := goodIn_app (goodIn_of _ (by decide +kernel)) ggX3_stateOf_X3_goes
theorem dX3_stateOf_0 : decode cX3_stateOf 0 = .ok (.aload_n 0, 1) := by decide +kernel
theorem dX3_stateOf_1 : decode cX3_stateOf 1 = .ok (.aload_n 0, 1) := by decide +kernel
theorem dX3_stateOf_2 : decode cX3_stateOf 2 = .ok (.iload_n 1, 1) := by decide +kernel
theorem dX3_stateOf_3 : decode cX3_stateOf 3 = .ok (.invokevirtual 74, 3) := by decide +kernel
theorem dX3_stateOf_6 : decode cX3_stateOf 6 = .ok (.iconst 1, 1) := by decide +kernel
theorem dX3_stateOf_7 : decode cX3_stateOf 7 = .ok (.iconst 1, 1) := by decide +kernel
theorem dX3_stateOf_8 : decode cX3_stateOf 8 = .ok (.invokevirtual 66, 3) := by decide +kernel
theorem dX3_stateOf_11 : decode cX3_stateOf 11 = .ok (.ifCond .eq 12, 3) := by decide +kernel
theorem dX3_stateOf_14 : decode cX3_stateOf 14 = .ok (.aload_n 0, 1) := by decide +kernel
theorem dX3_stateOf_15 : decode cX3_stateOf 15 = .ok (.getfield 19, 3) := by decide +kernel
theorem dX3_stateOf_18 : decode cX3_stateOf 18 = .ok (.iload_n 1, 1) := by decide +kernel
theorem dX3_stateOf_19 : decode cX3_stateOf 19 = .ok (.iaload, 1) := by decide +kernel
theorem dX3_stateOf_20 : decode cX3_stateOf 20 = .ok (.goto 4, 3) := by decide +kernel
theorem dX3_stateOf_23 : decode cX3_stateOf 23 = .ok (.iconst 0, 1) := by decide +kernel
theorem dX3_stateOf_24 : decode cX3_stateOf 24 = .ok (.ireturn, 1) := by decide +kernel
set_option maxRecDepth 20000 in
theorem ggX3_left_X3_isLantern : GoodIn wsX3_left wsX3_isLantern := goodIn_r _ [6, 7, 8, 9, 5, 10, 16, 17, 18, 19, 20, 21, 22, 23, 24, 25, 26, 27, 28, 29, 30, 31, 32, 33, 34, 35, 36, 37] (by decide +kernel) (by decide +kernel)
set_option maxRecDepth 20000 in
theorem gX3_left_X3_isLantern : GoodIn wsX3_left (wsV RX3 74 RX3 yX3_isLantern wsX3_isLantern) := goodIn_app (goodIn_of _ (by decide +kernel)) ggX3_left_X3_isLantern
set_option maxRecDepth 20000 in
theorem ggX3_left_X3_goes : GoodIn wsX3_left wsX3_goes := goodIn_r _ [14, 15, 16, 17, 18, 19, 20, 21, 22, 23, 24, 25, 26, 27, 28, 29, 30, 31, 32, 33, 34, 35, 36, 37] (by decide +kernel) (by decide +kernel)
set_option maxRecDepth 20000 in
theorem gX3_left_X3_goes : GoodIn wsX3_left (wsV RX3 66 RX3 yX3_goes wsX3_goes) := goodIn_app (goodIn_of _ (by decide +kernel)) ggX3_left_X3_goes
theorem dX3_left_0 : decode cX3_left 0 = .ok (.aload_n 0, 1) := by decide +kernel
theorem dX3_left_1 : decode cX3_left 1 = .ok (.aload_n 0, 1) := by decide +kernel
theorem dX3_left_2 : decode cX3_left 2 = .ok (.iload_n 1, 1) := by decide +kernel
theorem dX3_left_3 : decode cX3_left 3 = .ok (.invokevirtual 74, 3) := by decide +kernel
theorem dX3_left_6 : decode cX3_left 6 = .ok (.iconst 1, 1) := by decide +kernel
theorem dX3_left_7 : decode cX3_left 7 = .ok (.iconst 1, 1) := by decide +kernel
theorem dX3_left_8 : decode cX3_left 8 = .ok (.invokevirtual 66, 3) := by decide +kernel
theorem dX3_left_11 : decode cX3_left 11 = .ok (.ifCond .eq 12, 3) := by decide +kernel
theorem dX3_left_14 : decode cX3_left 14 = .ok (.aload_n 0, 1) := by decide +kernel
theorem dX3_left_15 : decode cX3_left 15 = .ok (.getfield 22, 3) := by decide +kernel
theorem dX3_left_18 : decode cX3_left 18 = .ok (.iload_n 1, 1) := by decide +kernel
theorem dX3_left_19 : decode cX3_left 19 = .ok (.iaload, 1) := by decide +kernel
theorem dX3_left_20 : decode cX3_left 20 = .ok (.goto 4, 3) := by decide +kernel
theorem dX3_left_23 : decode cX3_left 23 = .ok (.iconst 0, 1) := by decide +kernel
theorem dX3_left_24 : decode cX3_left 24 = .ok (.ireturn, 1) := by decide +kernel
set_option maxRecDepth 20000 in
theorem ggX3_placeOf_X3_isLantern : GoodIn wsX3_placeOf wsX3_isLantern := goodIn_r _ [5, 6, 7, 8, 4, 9, 27, 28, 29, 30, 31, 32, 33, 34, 35, 36, 37, 38, 39, 40, 41, 42, 43, 44, 45, 46, 47, 48] (by decide +kernel) (by decide +kernel)
set_option maxRecDepth 20000 in
theorem gX3_placeOf_X3_isLantern : GoodIn wsX3_placeOf (wsV RX3 74 RX3 yX3_isLantern wsX3_isLantern) := goodIn_app (goodIn_of _ (by decide +kernel)) ggX3_placeOf_X3_isLantern
set_option maxRecDepth 20000 in
theorem ggX3_placeOf_X3_goes : GoodIn wsX3_placeOf wsX3_goes := goodIn_r _ [13, 14, 27, 28, 29, 30, 31, 32, 33, 34, 35, 36, 37, 38, 39, 40, 41, 42, 43, 44, 45, 46, 47, 48] (by decide +kernel) (by decide +kernel)
set_option maxRecDepth 20000 in
theorem gX3_placeOf_X3_goes : GoodIn wsX3_placeOf (wsV RX3 66 RX3 yX3_goes wsX3_goes) := goodIn_app (goodIn_of _ (by decide +kernel)) ggX3_placeOf_X3_goes
set_option maxRecDepth 20000 in
theorem ggX3_placeOf_X3_hasPlace : GoodIn wsX3_placeOf wsX3_hasPlace := goodIn_r _ [18, 19, 20, 27, 28, 29, 30, 31, 32, 33, 34, 35, 36, 37, 38, 39, 40, 41, 42, 43, 44, 45, 46, 47, 48] (by decide +kernel) (by decide +kernel)
set_option maxRecDepth 20000 in
theorem gX3_placeOf_X3_hasPlace : GoodIn wsX3_placeOf (wsV RX3 102 RX3 yX3_hasPlace wsX3_hasPlace) := goodIn_app (goodIn_of _ (by decide +kernel)) ggX3_placeOf_X3_hasPlace
set_option maxRecDepth 20000 in
theorem ggX3_placeOf_X3_place : GoodIn wsX3_placeOf wsX3_place := goodIn_r _ [24, 25, 19, 26, 27, 28, 29, 30, 31, 32, 33, 34, 35, 36, 37, 38, 39, 40, 41, 42, 43, 44, 45, 46, 47, 48] (by decide +kernel) (by decide +kernel)
set_option maxRecDepth 20000 in
theorem gX3_placeOf_X3_place : GoodIn wsX3_placeOf (wsV RX3 92 RX3 yX3_place wsX3_place) := goodIn_app (goodIn_of _ (by decide +kernel)) ggX3_placeOf_X3_place
theorem dX3_placeOf_0 : decode cX3_placeOf 0 = .ok (.aload_n 0, 1) := by decide +kernel
theorem dX3_placeOf_1 : decode cX3_placeOf 1 = .ok (.aload_n 0, 1) := by decide +kernel
theorem dX3_placeOf_2 : decode cX3_placeOf 2 = .ok (.iload_n 1, 1) := by decide +kernel
theorem dX3_placeOf_3 : decode cX3_placeOf 3 = .ok (.invokevirtual 74, 3) := by decide +kernel
theorem dX3_placeOf_6 : decode cX3_placeOf 6 = .ok (.iconst 1, 1) := by decide +kernel
theorem dX3_placeOf_7 : decode cX3_placeOf 7 = .ok (.iconst 1, 1) := by decide +kernel
theorem dX3_placeOf_8 : decode cX3_placeOf 8 = .ok (.invokevirtual 66, 3) := by decide +kernel
theorem dX3_placeOf_11 : decode cX3_placeOf 11 = .ok (.ifCond .eq 23, 3) := by decide +kernel
theorem dX3_placeOf_14 : decode cX3_placeOf 14 = .ok (.aload_n 0, 1) := by decide +kernel
theorem dX3_placeOf_15 : decode cX3_placeOf 15 = .ok (.iload_n 1, 1) := by decide +kernel
theorem dX3_placeOf_16 : decode cX3_placeOf 16 = .ok (.invokevirtual 102, 3) := by decide +kernel
theorem dX3_placeOf_19 : decode cX3_placeOf 19 = .ok (.ifCond .eq 11, 3) := by decide +kernel
theorem dX3_placeOf_22 : decode cX3_placeOf 22 = .ok (.aload_n 0, 1) := by decide +kernel
theorem dX3_placeOf_23 : decode cX3_placeOf 23 = .ok (.iload_n 1, 1) := by decide +kernel
theorem dX3_placeOf_24 : decode cX3_placeOf 24 = .ok (.invokevirtual 92, 3) := by decide +kernel
theorem dX3_placeOf_27 : decode cX3_placeOf 27 = .ok (.goto 8, 3) := by decide +kernel
theorem dX3_placeOf_30 : decode cX3_placeOf 30 = .ok (.iconst (-1), 1) := by decide +kernel
theorem dX3_placeOf_31 : decode cX3_placeOf 31 = .ok (.goto 4, 3) := by decide +kernel
theorem dX3_placeOf_34 : decode cX3_placeOf 34 = .ok (.iconst 0, 1) := by decide +kernel
theorem dX3_placeOf_35 : decode cX3_placeOf 35 = .ok (.ireturn, 1) := by decide +kernel
set_option maxRecDepth 20000 in
theorem ggX3_nearest_X3_isLantern : GoodIn wsX3_nearest wsX3_isLantern := goodIn_r _ [7, 1, 8, 9, 6, 10, 32, 33, 34, 35, 36, 37, 38, 39, 40, 41, 42, 43, 44, 45, 46, 47, 48, 49, 50, 51, 52, 53] (by decide +kernel) (by decide +kernel)
set_option maxRecDepth 20000 in
theorem gX3_nearest_X3_isLantern : GoodIn wsX3_nearest (wsV RX3 74 RX3 yX3_isLantern wsX3_isLantern) := goodIn_app (goodIn_of _ (by decide +kernel)) ggX3_nearest_X3_isLantern
set_option maxRecDepth 20000 in
theorem ggX3_nearest_X3_goes : GoodIn wsX3_nearest wsX3_goes := goodIn_r _ [14, 15, 32, 33, 34, 35, 36, 37, 38, 39, 40, 41, 42, 43, 44, 45, 46, 47, 48, 49, 50, 51, 52, 53] (by decide +kernel) (by decide +kernel)
set_option maxRecDepth 20000 in
theorem gX3_nearest_X3_goes : GoodIn wsX3_nearest (wsV RX3 66 RX3 yX3_goes wsX3_goes) := goodIn_app (goodIn_of _ (by decide +kernel)) ggX3_nearest_X3_goes
set_option maxRecDepth 20000 in
theorem ggX3_nearest_X3_hasPlace : GoodIn wsX3_nearest wsX3_hasPlace := goodIn_r _ [19, 20, 21, 32, 33, 34, 35, 36, 37, 38, 39, 40, 41, 42, 43, 44, 45, 46, 47, 48, 49, 50, 51, 52, 53] (by decide +kernel) (by decide +kernel)
set_option maxRecDepth 20000 in
theorem gX3_nearest_X3_hasPlace : GoodIn wsX3_nearest (wsV RX3 102 RX3 yX3_hasPlace wsX3_hasPlace) := goodIn_app (goodIn_of _ (by decide +kernel)) ggX3_nearest_X3_hasPlace
set_option maxRecDepth 20000 in
theorem ggX3_nearest_X3_distance : GoodIn wsX3_nearest wsX3_distance := goodIn_r _ [25, 26, 27, 28, 6, 29, 30, 20, 31, 32, 33, 34, 35, 36, 37, 38, 39, 40, 41, 42, 43, 44, 45, 46, 47, 48, 49, 50, 51, 52, 53] (by decide +kernel) (by decide +kernel)
set_option maxRecDepth 20000 in
theorem gX3_nearest_X3_distance : GoodIn wsX3_nearest (wsV RX3 95 RX3 yX3_distance wsX3_distance) := goodIn_app (goodIn_of _ (by decide +kernel)) ggX3_nearest_X3_distance
theorem dX3_nearest_0 : decode cX3_nearest 0 = .ok (.aload_n 0, 1) := by decide +kernel
theorem dX3_nearest_1 : decode cX3_nearest 1 = .ok (.aload_n 0, 1) := by decide +kernel
theorem dX3_nearest_2 : decode cX3_nearest 2 = .ok (.iload_n 1, 1) := by decide +kernel
theorem dX3_nearest_3 : decode cX3_nearest 3 = .ok (.invokevirtual 74, 3) := by decide +kernel
theorem dX3_nearest_6 : decode cX3_nearest 6 = .ok (.iconst 1, 1) := by decide +kernel
theorem dX3_nearest_7 : decode cX3_nearest 7 = .ok (.iconst 1, 1) := by decide +kernel
theorem dX3_nearest_8 : decode cX3_nearest 8 = .ok (.invokevirtual 66, 3) := by decide +kernel
theorem dX3_nearest_11 : decode cX3_nearest 11 = .ok (.ifCond .ne 5, 3) := by decide +kernel
theorem dX3_nearest_14 : decode cX3_nearest 14 = .ok (.iconst 0, 1) := by decide +kernel
theorem dX3_nearest_15 : decode cX3_nearest 15 = .ok (.ireturn, 1) := by decide +kernel
theorem dX3_nearest_16 : decode cX3_nearest 16 = .ok (.iconst (-1), 1) := by decide +kernel
theorem dX3_nearest_17 : decode cX3_nearest 17 = .ok (.istore_n 2, 1) := by decide +kernel
theorem dX3_nearest_18 : decode cX3_nearest 18 = .ok (.iconst 0, 1) := by decide +kernel
theorem dX3_nearest_19 : decode cX3_nearest 19 = .ok (.istore_n 3, 1) := by decide +kernel
theorem dX3_nearest_20 : decode cX3_nearest 20 = .ok (.iload_n 3, 1) := by decide +kernel
theorem dX3_nearest_21 : decode cX3_nearest 21 = .ok (.aload_n 0, 1) := by decide +kernel
theorem dX3_nearest_22 : decode cX3_nearest 22 = .ok (.getfield 56, 3) := by decide +kernel
theorem dX3_nearest_25 : decode cX3_nearest 25 = .ok (.if_icmp .ge 58, 3) := by decide +kernel
theorem dX3_nearest_28 : decode cX3_nearest 28 = .ok (.aload_n 0, 1) := by decide +kernel
theorem dX3_nearest_29 : decode cX3_nearest 29 = .ok (.iload_n 1, 1) := by decide +kernel
theorem dX3_nearest_30 : decode cX3_nearest 30 = .ok (.invokevirtual 102, 3) := by decide +kernel
theorem dX3_nearest_33 : decode cX3_nearest 33 = .ok (.ifCond .eq 50, 3) := by decide +kernel
theorem dX3_nearest_36 : decode cX3_nearest 36 = .ok (.iload_n 3, 1) := by decide +kernel
theorem dX3_nearest_37 : decode cX3_nearest 37 = .ok (.iload_n 1, 1) := by decide +kernel
theorem dX3_nearest_38 : decode cX3_nearest 38 = .ok (.if_icmp .eq 39, 3) := by decide +kernel
theorem dX3_nearest_41 : decode cX3_nearest 41 = .ok (.aload_n 0, 1) := by decide +kernel
theorem dX3_nearest_42 : decode cX3_nearest 42 = .ok (.getfield 19, 3) := by decide +kernel
theorem dX3_nearest_45 : decode cX3_nearest 45 = .ok (.iload_n 3, 1) := by decide +kernel
theorem dX3_nearest_46 : decode cX3_nearest 46 = .ok (.iaload, 1) := by decide +kernel
theorem dX3_nearest_47 : decode cX3_nearest 47 = .ok (.iconst 1, 1) := by decide +kernel
theorem dX3_nearest_48 : decode cX3_nearest 48 = .ok (.if_icmp .ne 29, 3) := by decide +kernel
theorem dX3_nearest_51 : decode cX3_nearest 51 = .ok (.aload_n 0, 1) := by decide +kernel
theorem dX3_nearest_52 : decode cX3_nearest 52 = .ok (.iload_n 3, 1) := by decide +kernel
theorem dX3_nearest_53 : decode cX3_nearest 53 = .ok (.iload_n 1, 1) := by decide +kernel
theorem dX3_nearest_54 : decode cX3_nearest 54 = .ok (.invokevirtual 95, 3) := by decide +kernel
theorem dX3_nearest_57 : decode cX3_nearest 57 = .ok (.istore 4, 2) := by decide +kernel
theorem dX3_nearest_59 : decode cX3_nearest 59 = .ok (.iload_n 2, 1) := by decide +kernel
theorem dX3_nearest_60 : decode cX3_nearest 60 = .ok (.iconst (-1), 1) := by decide +kernel
theorem dX3_nearest_61 : decode cX3_nearest 61 = .ok (.if_icmp .eq 9, 3) := by decide +kernel
theorem dX3_nearest_64 : decode cX3_nearest 64 = .ok (.iload 4, 2) := by decide +kernel
theorem dX3_nearest_66 : decode cX3_nearest 66 = .ok (.iload_n 2, 1) := by decide +kernel
theorem dX3_nearest_67 : decode cX3_nearest 67 = .ok (.if_icmp .ge 8, 3) := by decide +kernel
theorem dX3_nearest_70 : decode cX3_nearest 70 = .ok (.iload 4, 2) := by decide +kernel
theorem dX3_nearest_72 : decode cX3_nearest 72 = .ok (.goto 4, 3) := by decide +kernel
theorem dX3_nearest_75 : decode cX3_nearest 75 = .ok (.iload_n 2, 1) := by decide +kernel
theorem dX3_nearest_76 : decode cX3_nearest 76 = .ok (.istore_n 2, 1) := by decide +kernel
theorem dX3_nearest_77 : decode cX3_nearest 77 = .ok (.iinc 3 1, 3) := by decide +kernel
theorem dX3_nearest_80 : decode cX3_nearest 80 = .ok (.goto (-60), 3) := by decide +kernel
theorem dX3_nearest_83 : decode cX3_nearest 83 = .ok (.iload_n 2, 1) := by decide +kernel
theorem dX3_nearest_84 : decode cX3_nearest 84 = .ok (.ireturn, 1) := by decide +kernel
set_option maxRecDepth 20000 in
theorem ggX3_nearestOfAll_X3_nearest : GoodIn wsX3_nearestOfAll wsX3_nearest := goodIn_r _ [5, 6, 7, 8, 9, 10, 4, 11, 12, 13, 14, 15, 16, 17, 18, 19, 20, 21, 22, 23, 24, 25, 26, 27, 28, 29, 30, 31, 32, 33, 34, 35, 36, 37, 38, 39, 40, 41, 42, 43, 44, 45, 46, 47, 48, 49, 50, 51, 52, 53, 54, 55, 56, 57] (by decide +kernel) (by decide +kernel)
set_option maxRecDepth 20000 in
theorem gX3_nearestOfAll_X3_nearest : GoodIn wsX3_nearestOfAll (wsV RX3 136 RX3 yX3_nearest wsX3_nearest) := goodIn_app (goodIn_of _ (by decide +kernel)) ggX3_nearestOfAll_X3_nearest
theorem dX3_nearestOfAll_0 : decode cX3_nearestOfAll 0 = .ok (.aload_n 0, 1) := by decide +kernel
theorem dX3_nearestOfAll_1 : decode cX3_nearestOfAll 1 = .ok (.iload_n 1, 1) := by decide +kernel
theorem dX3_nearestOfAll_2 : decode cX3_nearestOfAll 2 = .ok (.invokevirtual 136, 3) := by decide +kernel
theorem dX3_nearestOfAll_5 : decode cX3_nearestOfAll 5 = .ok (.ireturn, 1) := by decide +kernel
theorem dX3_blownOut_0 : decode cX3_blownOut 0 = .ok (.aload_n 0, 1) := by decide +kernel
theorem dX3_blownOut_1 : decode cX3_blownOut 1 = .ok (.iconst 0, 1) := by decide +kernel
theorem dX3_blownOut_2 : decode cX3_blownOut 2 = .ok (.putfield 53, 3) := by decide +kernel
theorem dX3_blownOut_5 : decode cX3_blownOut 5 = .ok (.aload_n 0, 1) := by decide +kernel
theorem dX3_blownOut_6 : decode cX3_blownOut 6 = .ok (.getfield 121, 3) := by decide +kernel
theorem dX3_blownOut_9 : decode cX3_blownOut 9 = .ok (.ireturn, 1) := by decide +kernel
theorem dX3_ordered_0 : decode cX3_ordered 0 = .ok (.aload_n 0, 1) := by decide +kernel
theorem dX3_ordered_1 : decode cX3_ordered 1 = .ok (.iconst 0, 1) := by decide +kernel
theorem dX3_ordered_2 : decode cX3_ordered 2 = .ok (.putfield 53, 3) := by decide +kernel
theorem dX3_ordered_5 : decode cX3_ordered 5 = .ok (.aload_n 0, 1) := by decide +kernel
theorem dX3_ordered_6 : decode cX3_ordered 6 = .ok (.getfield 124, 3) := by decide +kernel
theorem dX3_ordered_9 : decode cX3_ordered 9 = .ok (.ireturn, 1) := by decide +kernel
set_option maxRecDepth 20000 in
theorem ggX3_sortOf_X3_isFloat : GoodIn wsX3_sortOf wsX3_isFloat := goodIn_r _ [6, 7, 8, 9, 5, 10, 16, 17, 18, 19, 20, 21, 22, 23, 24, 25, 26, 27, 28, 29, 30, 31, 32, 33, 34, 35, 36, 37] (by decide +kernel) (by decide +kernel)
set_option maxRecDepth 20000 in
theorem gX3_sortOf_X3_isFloat : GoodIn wsX3_sortOf (wsV RX3 78 RX3 yX3_isFloat wsX3_isFloat) := goodIn_app (goodIn_of _ (by decide +kernel)) ggX3_sortOf_X3_isFloat
set_option maxRecDepth 20000 in
theorem ggX3_sortOf_X3_goes : GoodIn wsX3_sortOf wsX3_goes := goodIn_r _ [14, 15, 16, 17, 18, 19, 20, 21, 22, 23, 24, 25, 26, 27, 28, 29, 30, 31, 32, 33, 34, 35, 36, 37] (by decide +kernel) (by decide +kernel)
set_option maxRecDepth 20000 in
theorem gX3_sortOf_X3_goes : GoodIn wsX3_sortOf (wsV RX3 66 RX3 yX3_goes wsX3_goes) := goodIn_app (goodIn_of _ (by decide +kernel)) ggX3_sortOf_X3_goes
theorem dX3_sortOf_0 : decode cX3_sortOf 0 = .ok (.aload_n 0, 1) := by decide +kernel
theorem dX3_sortOf_1 : decode cX3_sortOf 1 = .ok (.aload_n 0, 1) := by decide +kernel
theorem dX3_sortOf_2 : decode cX3_sortOf 2 = .ok (.iload_n 1, 1) := by decide +kernel
theorem dX3_sortOf_3 : decode cX3_sortOf 3 = .ok (.invokevirtual 78, 3) := by decide +kernel
theorem dX3_sortOf_6 : decode cX3_sortOf 6 = .ok (.iconst 1, 1) := by decide +kernel
theorem dX3_sortOf_7 : decode cX3_sortOf 7 = .ok (.iconst 1, 1) := by decide +kernel
theorem dX3_sortOf_8 : decode cX3_sortOf 8 = .ok (.invokevirtual 66, 3) := by decide +kernel
theorem dX3_sortOf_11 : decode cX3_sortOf 11 = .ok (.ifCond .eq 12, 3) := by decide +kernel
theorem dX3_sortOf_14 : decode cX3_sortOf 14 = .ok (.aload_n 0, 1) := by decide +kernel
theorem dX3_sortOf_15 : decode cX3_sortOf 15 = .ok (.getfield 37, 3) := by decide +kernel
theorem dX3_sortOf_18 : decode cX3_sortOf 18 = .ok (.iload_n 1, 1) := by decide +kernel
theorem dX3_sortOf_19 : decode cX3_sortOf 19 = .ok (.iaload, 1) := by decide +kernel
theorem dX3_sortOf_20 : decode cX3_sortOf 20 = .ok (.goto 4, 3) := by decide +kernel
theorem dX3_sortOf_23 : decode cX3_sortOf 23 = .ok (.iconst 0, 1) := by decide +kernel
theorem dX3_sortOf_24 : decode cX3_sortOf 24 = .ok (.ireturn, 1) := by decide +kernel
set_option maxRecDepth 20000 in
theorem ggX3_front_X3_isFloat : GoodIn wsX3_front wsX3_isFloat := goodIn_r _ [7, 8, 9, 10, 6, 11, 17, 18, 19, 20, 21, 22, 23, 24, 25, 26, 27, 28, 29, 30, 31, 32, 33, 34, 35, 36, 37, 38] (by decide +kernel) (by decide +kernel)
set_option maxRecDepth 20000 in
theorem gX3_front_X3_isFloat : GoodIn wsX3_front (wsV RX3 78 RX3 yX3_isFloat wsX3_isFloat) := goodIn_app (goodIn_of _ (by decide +kernel)) ggX3_front_X3_isFloat
set_option maxRecDepth 20000 in
theorem ggX3_front_X3_goes : GoodIn wsX3_front wsX3_goes := goodIn_r _ [15, 16, 17, 18, 19, 20, 21, 22, 23, 24, 25, 26, 27, 28, 29, 30, 31, 32, 33, 34, 35, 36, 37, 38] (by decide +kernel) (by decide +kernel)
set_option maxRecDepth 20000 in
theorem gX3_front_X3_goes : GoodIn wsX3_front (wsV RX3 66 RX3 yX3_goes wsX3_goes) := goodIn_app (goodIn_of _ (by decide +kernel)) ggX3_front_X3_goes
theorem dX3_front_0 : decode cX3_front 0 = .ok (.aload_n 0, 1) := by decide +kernel
theorem dX3_front_1 : decode cX3_front 1 = .ok (.aload_n 0, 1) := by decide +kernel
theorem dX3_front_2 : decode cX3_front 2 = .ok (.iload_n 1, 1) := by decide +kernel
theorem dX3_front_3 : decode cX3_front 3 = .ok (.invokevirtual 78, 3) := by decide +kernel
theorem dX3_front_6 : decode cX3_front 6 = .ok (.iconst 1, 1) := by decide +kernel
theorem dX3_front_7 : decode cX3_front 7 = .ok (.iconst 1, 1) := by decide +kernel
theorem dX3_front_8 : decode cX3_front 8 = .ok (.invokevirtual 66, 3) := by decide +kernel
theorem dX3_front_11 : decode cX3_front 11 = .ok (.ifCond .eq 26, 3) := by decide +kernel
theorem dX3_front_14 : decode cX3_front 14 = .ok (.aload_n 0, 1) := by decide +kernel
theorem dX3_front_15 : decode cX3_front 15 = .ok (.getfield 37, 3) := by decide +kernel
theorem dX3_front_18 : decode cX3_front 18 = .ok (.iload_n 1, 1) := by decide +kernel
theorem dX3_front_19 : decode cX3_front 19 = .ok (.iaload, 1) := by decide +kernel
theorem dX3_front_20 : decode cX3_front 20 = .ok (.iconst 1, 1) := by decide +kernel
theorem dX3_front_21 : decode cX3_front 21 = .ok (.if_icmp .ne 12, 3) := by decide +kernel
theorem dX3_front_24 : decode cX3_front 24 = .ok (.aload_n 0, 1) := by decide +kernel
theorem dX3_front_25 : decode cX3_front 25 = .ok (.getfield 40, 3) := by decide +kernel
theorem dX3_front_28 : decode cX3_front 28 = .ok (.iload_n 1, 1) := by decide +kernel
theorem dX3_front_29 : decode cX3_front 29 = .ok (.iaload, 1) := by decide +kernel
theorem dX3_front_30 : decode cX3_front 30 = .ok (.goto 8, 3) := by decide +kernel
theorem dX3_front_33 : decode cX3_front 33 = .ok (.iconst (-1), 1) := by decide +kernel
theorem dX3_front_34 : decode cX3_front 34 = .ok (.goto 4, 3) := by decide +kernel
theorem dX3_front_37 : decode cX3_front 37 = .ok (.iconst 0, 1) := by decide +kernel
theorem dX3_front_38 : decode cX3_front 38 = .ok (.ireturn, 1) := by decide +kernel
set_option maxRecDepth 20000 in
theorem ggX3_load_X3_isFloat : GoodIn wsX3_load wsX3_isFloat := goodIn_r _ [5, 6, 7, 8, 4, 9, 28, 29, 30, 31, 32, 33, 34, 35, 36, 37, 38, 39, 40, 41, 42, 43, 44, 45, 46, 47, 48, 49] (by decide +kernel) (by decide +kernel)
set_option maxRecDepth 20000 in
theorem gX3_load_X3_isFloat : GoodIn wsX3_load (wsV RX3 78 RX3 yX3_isFloat wsX3_isFloat) := goodIn_app (goodIn_of _ (by decide +kernel)) ggX3_load_X3_isFloat
set_option maxRecDepth 20000 in
theorem ggX3_load_X3_goes : GoodIn wsX3_load wsX3_goes := goodIn_r _ [13, 14, 28, 29, 30, 31, 32, 33, 34, 35, 36, 37, 38, 39, 40, 41, 42, 43, 44, 45, 46, 47, 48, 49] (by decide +kernel) (by decide +kernel)
set_option maxRecDepth 20000 in
theorem gX3_load_X3_goes : GoodIn wsX3_load (wsV RX3 66 RX3 yX3_goes wsX3_goes) := goodIn_app (goodIn_of _ (by decide +kernel)) ggX3_load_X3_goes
set_option maxRecDepth 20000 in
theorem ggX3_load_X3_loadOf : GoodIn wsX3_load wsX3_loadOf := goodIn_r _ [18, 19, 20, 21, 22, 23, 4, 24, 25, 26, 27, 28, 29, 30, 31, 32, 33, 34, 35, 36, 37, 38, 39, 40, 41, 42, 43, 44, 45, 46, 47, 48, 49] (by decide +kernel) (by decide +kernel)
set_option maxRecDepth 20000 in
theorem gX3_load_X3_loadOf : GoodIn wsX3_load (wsV RX3 81 RX3 yX3_loadOf wsX3_loadOf) := goodIn_app (goodIn_of _ (by decide +kernel)) ggX3_load_X3_loadOf
theorem dX3_load_0 : decode cX3_load 0 = .ok (.aload_n 0, 1) := by decide +kernel
theorem dX3_load_1 : decode cX3_load 1 = .ok (.aload_n 0, 1) := by decide +kernel
theorem dX3_load_2 : decode cX3_load 2 = .ok (.iload_n 1, 1) := by decide +kernel
theorem dX3_load_3 : decode cX3_load 3 = .ok (.invokevirtual 78, 3) := by decide +kernel
theorem dX3_load_6 : decode cX3_load 6 = .ok (.iconst 1, 1) := by decide +kernel
theorem dX3_load_7 : decode cX3_load 7 = .ok (.iconst 1, 1) := by decide +kernel
theorem dX3_load_8 : decode cX3_load 8 = .ok (.invokevirtual 66, 3) := by decide +kernel
theorem dX3_load_11 : decode cX3_load 11 = .ok (.ifCond .eq 11, 3) := by decide +kernel
theorem dX3_load_14 : decode cX3_load 14 = .ok (.aload_n 0, 1) := by decide +kernel
theorem dX3_load_15 : decode cX3_load 15 = .ok (.iload_n 1, 1) := by decide +kernel
theorem dX3_load_16 : decode cX3_load 16 = .ok (.invokevirtual 81, 3) := by decide +kernel
theorem dX3_load_19 : decode cX3_load 19 = .ok (.goto 4, 3) := by decide +kernel
theorem dX3_load_22 : decode cX3_load 22 = .ok (.iconst 0, 1) := by decide +kernel
theorem dX3_load_23 : decode cX3_load 23 = .ok (.ireturn, 1) := by decide +kernel
theorem dX3_alike_0 : decode cX3_alike 0 = .ok (.iconst 0, 1) := by decide +kernel
theorem dX3_alike_1 : decode cX3_alike 1 = .ok (.istore_n 3, 1) := by decide +kernel
theorem dX3_alike_2 : decode cX3_alike 2 = .ok (.iconst 0, 1) := by decide +kernel
theorem dX3_alike_3 : decode cX3_alike 3 = .ok (.istore 4, 2) := by decide +kernel
theorem dX3_alike_5 : decode cX3_alike 5 = .ok (.iload 4, 2) := by decide +kernel
theorem dX3_alike_7 : decode cX3_alike 7 = .ok (.aload_n 0, 1) := by decide +kernel
theorem dX3_alike_8 : decode cX3_alike 8 = .ok (.getfield 56, 3) := by decide +kernel
theorem dX3_alike_11 : decode cX3_alike 11 = .ok (.if_icmp .ge 47, 3) := by decide +kernel
theorem dX3_alike_14 : decode cX3_alike 14 = .ok (.iload_n 3, 1) := by decide +kernel
theorem dX3_alike_15 : decode cX3_alike 15 = .ok (.aload_n 0, 1) := by decide +kernel
theorem dX3_alike_16 : decode cX3_alike 16 = .ok (.getfield 25, 3) := by decide +kernel
theorem dX3_alike_19 : decode cX3_alike 19 = .ok (.iload 4, 2) := by decide +kernel
theorem dX3_alike_21 : decode cX3_alike 21 = .ok (.iaload, 1) := by decide +kernel
theorem dX3_alike_22 : decode cX3_alike 22 = .ok (.iload_n 1, 1) := by decide +kernel
theorem dX3_alike_23 : decode cX3_alike 23 = .ok (.if_icmp .ne 26, 3) := by decide +kernel
theorem dX3_alike_26 : decode cX3_alike 26 = .ok (.aload_n 0, 1) := by decide +kernel
theorem dX3_alike_27 : decode cX3_alike 27 = .ok (.getfield 19, 3) := by decide +kernel
theorem dX3_alike_30 : decode cX3_alike 30 = .ok (.iload 4, 2) := by decide +kernel
theorem dX3_alike_32 : decode cX3_alike 32 = .ok (.iaload, 1) := by decide +kernel
theorem dX3_alike_33 : decode cX3_alike 33 = .ok (.iconst 1, 1) := by decide +kernel
theorem dX3_alike_34 : decode cX3_alike 34 = .ok (.if_icmp .ne 15, 3) := by decide +kernel
theorem dX3_alike_37 : decode cX3_alike 37 = .ok (.iconst 1, 1) := by decide +kernel
theorem dX3_alike_38 : decode cX3_alike 38 = .ok (.aload_n 0, 1) := by decide +kernel
theorem dX3_alike_39 : decode cX3_alike 39 = .ok (.getfield 28, 3) := by decide +kernel
theorem dX3_alike_42 : decode cX3_alike 42 = .ok (.iload 4, 2) := by decide +kernel
theorem dX3_alike_44 : decode cX3_alike 44 = .ok (.iaload, 1) := by decide +kernel
theorem dX3_alike_45 : decode cX3_alike 45 = .ok (.ishl, 1) := by decide +kernel
theorem dX3_alike_46 : decode cX3_alike 46 = .ok (.goto 4, 3) := by decide +kernel
theorem dX3_alike_49 : decode cX3_alike 49 = .ok (.iconst 0, 1) := by decide +kernel
theorem dX3_alike_50 : decode cX3_alike 50 = .ok (.ior, 1) := by decide +kernel
theorem dX3_alike_51 : decode cX3_alike 51 = .ok (.istore_n 3, 1) := by decide +kernel
theorem dX3_alike_52 : decode cX3_alike 52 = .ok (.iinc 4 1, 3) := by decide +kernel
theorem dX3_alike_55 : decode cX3_alike 55 = .ok (.goto (-50), 3) := by decide +kernel
theorem dX3_alike_58 : decode cX3_alike 58 = .ok (.iconst 0, 1) := by decide +kernel
theorem dX3_alike_59 : decode cX3_alike 59 = .ok (.istore 4, 2) := by decide +kernel
theorem dX3_alike_61 : decode cX3_alike 61 = .ok (.iconst 0, 1) := by decide +kernel
theorem dX3_alike_62 : decode cX3_alike 62 = .ok (.istore 5, 2) := by decide +kernel
theorem dX3_alike_64 : decode cX3_alike 64 = .ok (.iload 5, 2) := by decide +kernel
theorem dX3_alike_66 : decode cX3_alike 66 = .ok (.bipush 10, 2) := by decide +kernel
theorem dX3_alike_68 : decode cX3_alike 68 = .ok (.if_icmp .ge 34, 3) := by decide +kernel
theorem dX3_alike_71 : decode cX3_alike 71 = .ok (.iload 4, 2) := by decide +kernel
theorem dX3_alike_73 : decode cX3_alike 73 = .ok (.iload_n 3, 1) := by decide +kernel
theorem dX3_alike_74 : decode cX3_alike 74 = .ok (.iload 5, 2) := by decide +kernel
theorem dX3_alike_76 : decode cX3_alike 76 = .ok (.ishr, 1) := by decide +kernel
theorem dX3_alike_77 : decode cX3_alike 77 = .ok (.iconst 1, 1) := by decide +kernel
theorem dX3_alike_78 : decode cX3_alike 78 = .ok (.iand, 1) := by decide +kernel
theorem dX3_alike_79 : decode cX3_alike 79 = .ok (.iload_n 2, 1) := by decide +kernel
theorem dX3_alike_80 : decode cX3_alike 80 = .ok (.iload 5, 2) := by decide +kernel
theorem dX3_alike_82 : decode cX3_alike 82 = .ok (.ishr, 1) := by decide +kernel
theorem dX3_alike_83 : decode cX3_alike 83 = .ok (.iconst 1, 1) := by decide +kernel
theorem dX3_alike_84 : decode cX3_alike 84 = .ok (.iand, 1) := by decide +kernel
theorem dX3_alike_85 : decode cX3_alike 85 = .ok (.if_icmp .ne 7, 3) := by decide +kernel
theorem dX3_alike_88 : decode cX3_alike 88 = .ok (.iconst 1, 1) := by decide +kernel
theorem dX3_alike_89 : decode cX3_alike 89 = .ok (.goto 4, 3) := by decide +kernel
theorem dX3_alike_92 : decode cX3_alike 92 = .ok (.iconst 0, 1) := by decide +kernel
theorem dX3_alike_93 : decode cX3_alike 93 = .ok (.iadd, 1) := by decide +kernel
theorem dX3_alike_94 : decode cX3_alike 94 = .ok (.istore 4, 2) := by decide +kernel
theorem dX3_alike_96 : decode cX3_alike 96 = .ok (.iinc 5 1, 3) := by decide +kernel
theorem dX3_alike_99 : decode cX3_alike 99 = .ok (.goto (-35), 3) := by decide +kernel
theorem dX3_alike_102 : decode cX3_alike 102 = .ok (.iload 4, 2) := by decide +kernel
theorem dX3_alike_104 : decode cX3_alike 104 = .ok (.ireturn, 1) := by decide +kernel
set_option maxRecDepth 20000 in
theorem ggX3_likeness_X3_isFloat : GoodIn wsX3_likeness wsX3_isFloat := goodIn_r _ [5, 6, 7, 8, 4, 9, 23, 24, 25, 26, 27, 28, 29, 30, 31, 32, 33, 34, 35, 36, 37, 38, 39, 40, 41, 42, 43, 44] (by decide +kernel) (by decide +kernel)
set_option maxRecDepth 20000 in
theorem gX3_likeness_X3_isFloat : GoodIn wsX3_likeness (wsV RX3 78 RX3 yX3_isFloat wsX3_isFloat) := goodIn_app (goodIn_of _ (by decide +kernel)) ggX3_likeness_X3_isFloat
set_option maxRecDepth 20000 in
theorem ggX3_likeness_X3_in : GoodIn wsX3_likeness wsX3_in := goodIn_r _ [9] (by decide +kernel) (by decide +kernel)
set_option maxRecDepth 20000 in
theorem gX3_likeness_X3_in : GoodIn wsX3_likeness (va_wsS RX3 59 yX3_in wsX3_in) := goodIn_app (goodIn_of _ (by decide +kernel)) ggX3_likeness_X3_in
set_option maxRecDepth 20000 in
theorem ggX3_likeness_X3_goes : GoodIn wsX3_likeness wsX3_goes := goodIn_r _ [13, 14, 23, 24, 25, 26, 27, 28, 29, 30, 31, 32, 33, 34, 35, 36, 37, 38, 39, 40, 41, 42, 43, 44] (by decide +kernel) (by decide +kernel)
set_option maxRecDepth 20000 in
theorem gX3_likeness_X3_goes : GoodIn wsX3_likeness (wsV RX3 66 RX3 yX3_goes wsX3_goes) := goodIn_app (goodIn_of _ (by decide +kernel)) ggX3_likeness_X3_goes
set_option maxRecDepth 20000 in
theorem ggX3_likeness_X3_alike : GoodIn wsX3_likeness wsX3_alike := goodIn_r _ [18, 19, 20, 21, 22, 23, 24, 25, 26, 27, 28, 29, 30, 31, 32, 33, 34, 35, 36, 37, 38, 39, 40, 41, 42, 43, 44] (by decide +kernel) (by decide +kernel)
set_option maxRecDepth 20000 in
theorem gX3_likeness_X3_alike : GoodIn wsX3_likeness (wsV RX3 139 RX3 yX3_alike wsX3_alike) := goodIn_app (goodIn_of _ (by decide +kernel)) ggX3_likeness_X3_alike
theorem dX3_likeness_0 : decode cX3_likeness 0 = .ok (.aload_n 0, 1) := by decide +kernel
theorem dX3_likeness_1 : decode cX3_likeness 1 = .ok (.aload_n 0, 1) := by decide +kernel
theorem dX3_likeness_2 : decode cX3_likeness 2 = .ok (.iload_n 1, 1) := by decide +kernel
theorem dX3_likeness_3 : decode cX3_likeness 3 = .ok (.invokevirtual 78, 3) := by decide +kernel
theorem dX3_likeness_6 : decode cX3_likeness 6 = .ok (.iload_n 2, 1) := by decide +kernel
theorem dX3_likeness_7 : decode cX3_likeness 7 = .ok (.iconst 0, 1) := by decide +kernel
theorem dX3_likeness_8 : decode cX3_likeness 8 = .ok (.sipush 1023, 3) := by decide +kernel
theorem dX3_likeness_11 : decode cX3_likeness 11 = .ok (.invokestatic 59, 3) := by decide +kernel
theorem dX3_likeness_14 : decode cX3_likeness 14 = .ok (.iconst 1, 1) := by decide +kernel
theorem dX3_likeness_15 : decode cX3_likeness 15 = .ok (.invokevirtual 66, 3) := by decide +kernel
theorem dX3_likeness_18 : decode cX3_likeness 18 = .ok (.ifCond .eq 12, 3) := by decide +kernel
theorem dX3_likeness_21 : decode cX3_likeness 21 = .ok (.aload_n 0, 1) := by decide +kernel
theorem dX3_likeness_22 : decode cX3_likeness 22 = .ok (.iload_n 1, 1) := by decide +kernel
theorem dX3_likeness_23 : decode cX3_likeness 23 = .ok (.iload_n 2, 1) := by decide +kernel
theorem dX3_likeness_24 : decode cX3_likeness 24 = .ok (.invokevirtual 139, 3) := by decide +kernel
theorem dX3_likeness_27 : decode cX3_likeness 27 = .ok (.goto 4, 3) := by decide +kernel
theorem dX3_likeness_30 : decode cX3_likeness 30 = .ok (.iconst 0, 1) := by decide +kernel
theorem dX3_likeness_31 : decode cX3_likeness 31 = .ok (.ireturn, 1) := by decide +kernel
set_option maxRecDepth 20000 in
theorem ggX3_prize_X3_in : GoodIn wsX3_prize wsX3_in := goodIn_r _ [7] (by decide +kernel) (by decide +kernel)
set_option maxRecDepth 20000 in
theorem gX3_prize_X3_in : GoodIn wsX3_prize (va_wsS RX3 59 yX3_in wsX3_in) := goodIn_app (goodIn_of _ (by decide +kernel)) ggX3_prize_X3_in
set_option maxRecDepth 20000 in
theorem ggX3_prize_X3_goes : GoodIn wsX3_prize wsX3_goes := goodIn_r _ [11, 12, 21, 22, 23, 24, 25, 26, 27, 28, 29, 30, 31, 32, 33, 34, 35, 36, 37, 38, 39, 40, 41, 42] (by decide +kernel) (by decide +kernel)
set_option maxRecDepth 20000 in
theorem gX3_prize_X3_goes : GoodIn wsX3_prize (wsV RX3 66 RX3 yX3_goes wsX3_goes) := goodIn_app (goodIn_of _ (by decide +kernel)) ggX3_prize_X3_goes
set_option maxRecDepth 20000 in
theorem ggX3_prize_X3_alike : GoodIn wsX3_prize wsX3_alike := goodIn_r _ [16, 17, 18, 19, 20, 21, 22, 23, 24, 25, 26, 27, 28, 29, 30, 31, 32, 33, 34, 35, 36, 37, 38, 39, 40, 41, 42] (by decide +kernel) (by decide +kernel)
set_option maxRecDepth 20000 in
theorem gX3_prize_X3_alike : GoodIn wsX3_prize (wsV RX3 139 RX3 yX3_alike wsX3_alike) := goodIn_app (goodIn_of _ (by decide +kernel)) ggX3_prize_X3_alike
theorem dX3_prize_0 : decode cX3_prize 0 = .ok (.aload_n 0, 1) := by decide +kernel
theorem dX3_prize_1 : decode cX3_prize 1 = .ok (.iload_n 1, 1) := by decide +kernel
theorem dX3_prize_2 : decode cX3_prize 2 = .ok (.iconst 0, 1) := by decide +kernel
theorem dX3_prize_3 : decode cX3_prize 3 = .ok (.sipush 1023, 3) := by decide +kernel
theorem dX3_prize_6 : decode cX3_prize 6 = .ok (.invokestatic 59, 3) := by decide +kernel
theorem dX3_prize_9 : decode cX3_prize 9 = .ok (.iconst 1, 1) := by decide +kernel
theorem dX3_prize_10 : decode cX3_prize 10 = .ok (.iconst 1, 1) := by decide +kernel
theorem dX3_prize_11 : decode cX3_prize 11 = .ok (.invokevirtual 66, 3) := by decide +kernel
theorem dX3_prize_14 : decode cX3_prize 14 = .ok (.ifCond .ne 5, 3) := by decide +kernel
theorem dX3_prize_17 : decode cX3_prize 17 = .ok (.iconst 0, 1) := by decide +kernel
theorem dX3_prize_18 : decode cX3_prize 18 = .ok (.ireturn, 1) := by decide +kernel
theorem dX3_prize_19 : decode cX3_prize 19 = .ok (.iconst (-1), 1) := by decide +kernel
theorem dX3_prize_20 : decode cX3_prize 20 = .ok (.istore_n 2, 1) := by decide +kernel
theorem dX3_prize_21 : decode cX3_prize 21 = .ok (.iconst 0, 1) := by decide +kernel
theorem dX3_prize_22 : decode cX3_prize 22 = .ok (.istore_n 3, 1) := by decide +kernel
theorem dX3_prize_23 : decode cX3_prize 23 = .ok (.iload_n 3, 1) := by decide +kernel
theorem dX3_prize_24 : decode cX3_prize 24 = .ok (.aload_n 0, 1) := by decide +kernel
theorem dX3_prize_25 : decode cX3_prize 25 = .ok (.getfield 108, 3) := by decide +kernel
theorem dX3_prize_28 : decode cX3_prize 28 = .ok (.if_icmp .ge 72, 3) := by decide +kernel
theorem dX3_prize_31 : decode cX3_prize 31 = .ok (.iload_n 2, 1) := by decide +kernel
theorem dX3_prize_32 : decode cX3_prize 32 = .ok (.iconst (-1), 1) := by decide +kernel
theorem dX3_prize_33 : decode cX3_prize 33 = .ok (.if_icmp .eq 23, 3) := by decide +kernel
theorem dX3_prize_36 : decode cX3_prize 36 = .ok (.aload_n 0, 1) := by decide +kernel
theorem dX3_prize_37 : decode cX3_prize 37 = .ok (.aload_n 0, 1) := by decide +kernel
theorem dX3_prize_38 : decode cX3_prize 38 = .ok (.getfield 43, 3) := by decide +kernel
theorem dX3_prize_41 : decode cX3_prize 41 = .ok (.iload_n 3, 1) := by decide +kernel
theorem dX3_prize_42 : decode cX3_prize 42 = .ok (.iaload, 1) := by decide +kernel
theorem dX3_prize_43 : decode cX3_prize 43 = .ok (.iload_n 1, 1) := by decide +kernel
theorem dX3_prize_44 : decode cX3_prize 44 = .ok (.invokevirtual 139, 3) := by decide +kernel
theorem dX3_prize_47 : decode cX3_prize 47 = .ok (.aload_n 0, 1) := by decide +kernel
theorem dX3_prize_48 : decode cX3_prize 48 = .ok (.iload_n 2, 1) := by decide +kernel
theorem dX3_prize_49 : decode cX3_prize 49 = .ok (.iload_n 1, 1) := by decide +kernel
theorem dX3_prize_50 : decode cX3_prize 50 = .ok (.invokevirtual 139, 3) := by decide +kernel
theorem dX3_prize_53 : decode cX3_prize 53 = .ok (.if_icmp .le 7, 3) := by decide +kernel
theorem dX3_prize_56 : decode cX3_prize 56 = .ok (.iconst 1, 1) := by decide +kernel
theorem dX3_prize_57 : decode cX3_prize 57 = .ok (.goto 4, 3) := by decide +kernel
theorem dX3_prize_60 : decode cX3_prize 60 = .ok (.iconst 0, 1) := by decide +kernel
theorem dX3_prize_61 : decode cX3_prize 61 = .ok (.istore 4, 2) := by decide +kernel
theorem dX3_prize_63 : decode cX3_prize 63 = .ok (.aload_n 0, 1) := by decide +kernel
theorem dX3_prize_64 : decode cX3_prize 64 = .ok (.getfield 37, 3) := by decide +kernel
theorem dX3_prize_67 : decode cX3_prize 67 = .ok (.aload_n 0, 1) := by decide +kernel
theorem dX3_prize_68 : decode cX3_prize 68 = .ok (.getfield 43, 3) := by decide +kernel
