theorem dX3_prize_71 : decode cX3_prize 71 = .ok (.iload_n 3, 1) := by decide +kernel
theorem dX3_prize_72 : decode cX3_prize 72 = .ok (.iaload, 1) := by decide +kernel
theorem dX3_prize_73 : decode cX3_prize 73 = .ok (.iaload, 1) := by decide +kernel
theorem dX3_prize_74 : decode cX3_prize 74 = .ok (.iconst 1, 1) := by decide +kernel
theorem dX3_prize_75 : decode cX3_prize 75 = .ok (.if_icmp .ne 17, 3) := by decide +kernel
theorem dX3_prize_78 : decode cX3_prize 78 = .ok (.iload 4, 2) := by decide +kernel
theorem dX3_prize_80 : decode cX3_prize 80 = .ok (.ifCond .eq 12, 3) := by decide +kernel
theorem dX3_prize_83 : decode cX3_prize 83 = .ok (.aload_n 0, 1) := by decide +kernel
theorem dX3_prize_84 : decode cX3_prize 84 = .ok (.getfield 43, 3) := by decide +kernel
theorem dX3_prize_87 : decode cX3_prize 87 = .ok (.iload_n 3, 1) := by decide +kernel
theorem dX3_prize_88 : decode cX3_prize 88 = .ok (.iaload, 1) := by decide +kernel
theorem dX3_prize_89 : decode cX3_prize 89 = .ok (.goto 4, 3) := by decide +kernel
theorem dX3_prize_92 : decode cX3_prize 92 = .ok (.iload_n 2, 1) := by decide +kernel
theorem dX3_prize_93 : decode cX3_prize 93 = .ok (.istore_n 2, 1) := by decide +kernel
theorem dX3_prize_94 : decode cX3_prize 94 = .ok (.iinc 3 1, 3) := by decide +kernel
theorem dX3_prize_97 : decode cX3_prize 97 = .ok (.goto (-74), 3) := by decide +kernel
theorem dX3_prize_100 : decode cX3_prize 100 = .ok (.iload_n 2, 1) := by decide +kernel
theorem dX3_prize_101 : decode cX3_prize 101 = .ok (.ireturn, 1) := by decide +kernel
theorem dJ9_max_7cf53_0 : decode cJ9_max_7cf53 0 = .ok (.iload_n 0, 1) := by decide +kernel
theorem dJ9_max_7cf53_1 : decode cJ9_max_7cf53 1 = .ok (.iload_n 1, 1) := by decide +kernel
theorem dJ9_max_7cf53_2 : decode cJ9_max_7cf53 2 = .ok (.if_icmp .lt 7, 3) := by decide +kernel
theorem dJ9_max_7cf53_5 : decode cJ9_max_7cf53 5 = .ok (.iload_n 0, 1) := by decide +kernel
theorem dJ9_max_7cf53_6 : decode cJ9_max_7cf53 6 = .ok (.goto 4, 3) := by decide +kernel
theorem dJ9_max_7cf53_9 : decode cJ9_max_7cf53 9 = .ok (.iload_n 1, 1) := by decide +kernel
theorem dJ9_max_7cf53_10 : decode cJ9_max_7cf53 10 = .ok (.ireturn, 1) := by decide +kernel
theorem dJ9_min_7cf53_0 : decode cJ9_min_7cf53 0 = .ok (.iload_n 0, 1) := by decide +kernel
theorem dJ9_min_7cf53_1 : decode cJ9_min_7cf53 1 = .ok (.iload_n 1, 1) := by decide +kernel
theorem dJ9_min_7cf53_2 : decode cJ9_min_7cf53 2 = .ok (.if_icmp .gt 7, 3) := by decide +kernel
theorem dJ9_min_7cf53_5 : decode cJ9_min_7cf53 5 = .ok (.iload_n 0, 1) := by decide +kernel
theorem dJ9_min_7cf53_6 : decode cJ9_min_7cf53 6 = .ok (.goto 4, 3) := by decide +kernel
theorem dJ9_min_7cf53_9 : decode cJ9_min_7cf53 9 = .ok (.iload_n 1, 1) := by decide +kernel
theorem dJ9_min_7cf53_10 : decode cJ9_min_7cf53 10 = .ok (.ireturn, 1) := by decide +kernel
abbrev vwCl : List vw_C := [(RX0, TX0, 7), (RX1, TX1, 7), (RX2, TX2, 12), (RX3, TX3, 22)]

