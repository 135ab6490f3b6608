theorem dX2_hasRoomToLaunch_11 : decode cX2_hasRoomToLaunch 11 = .ok (.istore 4, 2) := by decide +kernel
theorem dX2_hasRoomToLaunch_13 : decode cX2_hasRoomToLaunch 13 = .ok (.iload 4, 2) := by decide +kernel
theorem dX2_hasRoomToLaunch_15 : decode cX2_hasRoomToLaunch 15 = .ok (.iload_n 3, 1) := by decide +kernel
theorem dX2_hasRoomToLaunch_16 : decode cX2_hasRoomToLaunch 16 = .ok (.if_icmp .ge 32, 3) := by decide +kernel
theorem dX2_hasRoomToLaunch_19 : decode cX2_hasRoomToLaunch 19 = .ok (.aload_n 2, 1) := by decide +kernel
theorem dX2_hasRoomToLaunch_20 : decode cX2_hasRoomToLaunch 20 = .ok (.iload 4, 2) := by decide +kernel
theorem dX2_hasRoomToLaunch_22 : decode cX2_hasRoomToLaunch 22 = .ok (.aaload, 1) := by decide +kernel
theorem dX2_hasRoomToLaunch_23 : decode cX2_hasRoomToLaunch 23 = .ok (.astore 5, 2) := by decide +kernel
theorem dX2_hasRoomToLaunch_25 : decode cX2_hasRoomToLaunch 25 = .ok (.aload 5, 2) := by decide +kernel
theorem dX2_hasRoomToLaunch_27 : decode cX2_hasRoomToLaunch 27 = .ok (.ifnull 15, 3) := by decide +kernel
theorem dX2_hasRoomToLaunch_30 : decode cX2_hasRoomToLaunch 30 = .ok (.aload 5, 2) := by decide +kernel
theorem dX2_hasRoomToLaunch_32 : decode cX2_hasRoomToLaunch 32 = .ok (.getfield 94, 3) := by decide +kernel
theorem dX2_hasRoomToLaunch_35 : decode cX2_hasRoomToLaunch 35 = .ok (.iconst 1, 1) := by decide +kernel
theorem dX2_hasRoomToLaunch_36 : decode cX2_hasRoomToLaunch 36 = .ok (.if_icmp .ne 6, 3) := by decide +kernel
theorem dX2_hasRoomToLaunch_39 : decode cX2_hasRoomToLaunch 39 = .ok (.aload 5, 2) := by decide +kernel
theorem dX2_hasRoomToLaunch_41 : decode cX2_hasRoomToLaunch 41 = .ok (.astore_n 1, 1) := by decide +kernel
theorem dX2_hasRoomToLaunch_42 : decode cX2_hasRoomToLaunch 42 = .ok (.iinc 4 1, 3) := by decide +kernel
theorem dX2_hasRoomToLaunch_45 : decode cX2_hasRoomToLaunch 45 = .ok (.goto (-32), 3) := by decide +kernel
theorem dX2_hasRoomToLaunch_48 : decode cX2_hasRoomToLaunch 48 = .ok (.aload_n 1, 1) := by decide +kernel
theorem dX2_hasRoomToLaunch_49 : decode cX2_hasRoomToLaunch 49 = .ok (.ifnull 17, 3) := by decide +kernel
theorem dX2_hasRoomToLaunch_52 : decode cX2_hasRoomToLaunch 52 = .ok (.aload_n 1, 1) := by decide +kernel
theorem dX2_hasRoomToLaunch_53 : decode cX2_hasRoomToLaunch 53 = .ok (.invokevirtual 202, 3) := by decide +kernel
theorem dX2_hasRoomToLaunch_56 : decode cX2_hasRoomToLaunch 56 = .ok (.bipush 9, 2) := by decide +kernel
theorem dX2_hasRoomToLaunch_58 : decode cX2_hasRoomToLaunch 58 = .ok (.aload_n 0, 1) := by decide +kernel
theorem dX2_hasRoomToLaunch_59 : decode cX2_hasRoomToLaunch 59 = .ok (.getfield 41, 3) := by decide +kernel
theorem dX2_hasRoomToLaunch_62 : decode cX2_hasRoomToLaunch 62 = .ok (.iadd, 1) := by decide +kernel
theorem dX2_hasRoomToLaunch_63 : decode cX2_hasRoomToLaunch 63 = .ok (.if_icmp .lt 7, 3) := by decide +kernel
theorem dX2_hasRoomToLaunch_66 : decode cX2_hasRoomToLaunch 66 = .ok (.iconst 1, 1) := by decide +kernel
theorem dX2_hasRoomToLaunch_67 : decode cX2_hasRoomToLaunch 67 = .ok (.goto 4, 3) := by decide +kernel
theorem dX2_hasRoomToLaunch_70 : decode cX2_hasRoomToLaunch 70 = .ok (.iconst 0, 1) := by decide +kernel
theorem dX2_hasRoomToLaunch_71 : decode cX2_hasRoomToLaunch 71 = .ok (.ireturn, 1) := by decide +kernel
set_option maxRecDepth 20000 in
theorem ggX2_passOne_X2_moveRafts : GoodIn wsX2_passOne wsX2_moveRafts := goodIn_r _ [6, 7, 8, 9, 10, 11, 12, 13, 14, 15, 16, 17, 18, 19, 20, 21, 22, 23, 24, 25, 26, 27, 98, 99, 100, 101, 102, 103, 104, 105, 106, 107, 108, 109, 110, 111, 112, 113, 114, 115, 116] (by decide +kernel) (by decide +kernel)
set_option maxRecDepth 20000 in
theorem gX2_passOne_X2_moveRafts : GoodIn wsX2_passOne (wsV RX2 205 RX2 yX2_moveRafts wsX2_moveRafts) := goodIn_app (goodIn_of _ (by decide +kernel)) ggX2_passOne_X2_moveRafts
set_option maxRecDepth 20000 in
theorem ggX2_passOne_X2_letRaftsGo : GoodIn wsX2_passOne wsX2_letRaftsGo := goodIn_r _ [31, 7, 8, 32, 33, 34, 35, 13, 36, 37, 38, 39, 40, 41, 42, 43, 98, 99, 100, 101, 102, 103, 104, 105, 106, 107, 108, 109, 110, 111, 112, 113, 114, 115, 116, 117, 118, 119, 120, 121, 122, 123] (by decide +kernel) (by decide +kernel)
set_option maxRecDepth 20000 in
theorem gX2_passOne_X2_letRaftsGo : GoodIn wsX2_passOne (wsV RX2 208 RX2 yX2_letRaftsGo wsX2_letRaftsGo) := goodIn_app (goodIn_of _ (by decide +kernel)) ggX2_passOne_X2_letRaftsGo
set_option maxRecDepth 20000 in
theorem ggX2_passOne_X2_blowGust : GoodIn wsX2_passOne wsX2_blowGust := goodIn_r _ [47, 1, 48, 49, 50, 51, 52, 53, 5, 54, 55, 56, 57, 41, 58, 59, 60, 61, 39, 40, 42, 43, 98, 99, 100, 101, 102, 103, 104, 105, 106, 107, 108, 109, 117, 118, 119, 120, 121, 122, 123] (by decide +kernel) (by decide +kernel)
set_option maxRecDepth 20000 in
theorem gX2_passOne_X2_blowGust : GoodIn wsX2_passOne (wsV RX2 211 RX2 yX2_blowGust wsX2_blowGust) := goodIn_app (goodIn_of _ (by decide +kernel)) ggX2_passOne_X2_blowGust
set_option maxRecDepth 20000 in
theorem ggX2_passOne_X2_burnCandles : GoodIn wsX2_passOne wsX2_burnCandles := goodIn_r _ [65, 49, 50, 66, 67, 68, 41, 69, 70, 43, 98, 99, 100, 101, 102, 103, 104, 105, 106, 107, 108, 109, 117, 118, 119, 120, 121, 122, 123] (by decide +kernel) (by decide +kernel)
set_option maxRecDepth 20000 in
theorem gX2_passOne_X2_burnCandles : GoodIn wsX2_passOne (wsV RX2 214 RX2 yX2_burnCandles wsX2_burnCandles) := goodIn_app (goodIn_of _ (by decide +kernel)) ggX2_passOne_X2_burnCandles
set_option maxRecDepth 20000 in
theorem ggX2_passOne_X2_sendMarshal : GoodIn wsX2_passOne wsX2_sendMarshal := goodIn_r _ [74, 49, 50, 75, 76, 77, 78, 5, 79, 80, 81, 82, 83, 84, 85, 86, 87, 88, 41, 89, 90, 91, 92, 93, 94, 95, 96, 97, 61, 39, 40, 42, 43, 98, 99, 100, 101, 102, 103, 104, 105, 106, 107, 108, 109, 117, 118, 119, 120, 121, 122, 123, 110, 111, 112, 113, 114, 115, 116] (by decide +kernel) (by decide +kernel)
set_option maxRecDepth 20000 in
theorem gX2_passOne_X2_sendMarshal : GoodIn wsX2_passOne (wsV RX2 217 RX2 yX2_sendMarshal wsX2_sendMarshal) := goodIn_app (goodIn_of _ (by decide +kernel)) ggX2_passOne_X2_sendMarshal
theorem dX2_passOne_0 : decode cX2_passOne 0 = .ok (.aload_n 0, 1) := by decide +kernel
theorem dX2_passOne_1 : decode cX2_passOne 1 = .ok (.dup, 1) := by decide +kernel
theorem dX2_passOne_2 : decode cX2_passOne 2 = .ok (.getfield 38, 3) := by decide +kernel
theorem dX2_passOne_5 : decode cX2_passOne 5 = .ok (.iconst 1, 1) := by decide +kernel
theorem dX2_passOne_6 : decode cX2_passOne 6 = .ok (.iadd, 1) := by decide +kernel
theorem dX2_passOne_7 : decode cX2_passOne 7 = .ok (.putfield 38, 3) := by decide +kernel
theorem dX2_passOne_10 : decode cX2_passOne 10 = .ok (.aload_n 0, 1) := by decide +kernel
theorem dX2_passOne_11 : decode cX2_passOne 11 = .ok (.invokevirtual 205, 3) := by decide +kernel
theorem dX2_passOne_14 : decode cX2_passOne 14 = .ok (.aload_n 0, 1) := by decide +kernel
theorem dX2_passOne_15 : decode cX2_passOne 15 = .ok (.invokevirtual 208, 3) := by decide +kernel
theorem dX2_passOne_18 : decode cX2_passOne 18 = .ok (.aload_n 0, 1) := by decide +kernel
theorem dX2_passOne_19 : decode cX2_passOne 19 = .ok (.invokevirtual 211, 3) := by decide +kernel
theorem dX2_passOne_22 : decode cX2_passOne 22 = .ok (.aload_n 0, 1) := by decide +kernel
theorem dX2_passOne_23 : decode cX2_passOne 23 = .ok (.invokevirtual 214, 3) := by decide +kernel
theorem dX2_passOne_26 : decode cX2_passOne 26 = .ok (.aload_n 0, 1) := by decide +kernel
theorem dX2_passOne_27 : decode cX2_passOne 27 = .ok (.invokevirtual 217, 3) := by decide +kernel
theorem dX2_passOne_30 : decode cX2_passOne 30 = .ok (.return_, 1) := by decide +kernel
set_option maxRecDepth 20000 in
theorem ggX2_moveRafts_X1_moveBehind : GoodIn wsX2_moveRafts wsX1_moveBehind := goodIn_r _ [8, 9, 10, 11, 12, 13, 14, 15, 16, 17, 18, 19, 20, 7, 21, 34, 35, 36, 37, 38, 39, 40] (by decide +kernel) (by decide +kernel)
set_option maxRecDepth 20000 in
theorem gX2_moveRafts_X1_moveBehind : GoodIn wsX2_moveRafts (wsV RX2 220 RX1 yX1_moveBehind wsX1_moveBehind) := goodIn_app (goodIn_of _ (by decide +kernel)) ggX2_moveRafts_X1_moveBehind
theorem dX2_moveRafts_0 : decode cX2_moveRafts 0 = .ok (.aconst_null, 1) := by decide +kernel
theorem dX2_moveRafts_1 : decode cX2_moveRafts 1 = .ok (.astore_n 1, 1) := by decide +kernel
theorem dX2_moveRafts_2 : decode cX2_moveRafts 2 = .ok (.aload_n 0, 1) := by decide +kernel
theorem dX2_moveRafts_3 : decode cX2_moveRafts 3 = .ok (.getfield 21, 3) := by decide +kernel
theorem dX2_moveRafts_6 : decode cX2_moveRafts 6 = .ok (.astore_n 2, 1) := by decide +kernel
theorem dX2_moveRafts_7 : decode cX2_moveRafts 7 = .ok (.aload_n 2, 1) := by decide +kernel
theorem dX2_moveRafts_8 : decode cX2_moveRafts 8 = .ok (.arraylength, 1) := by decide +kernel
theorem dX2_moveRafts_9 : decode cX2_moveRafts 9 = .ok (.istore_n 3, 1) := by decide +kernel
theorem dX2_moveRafts_10 : decode cX2_moveRafts 10 = .ok (.iconst 0, 1) := by decide +kernel
theorem dX2_moveRafts_11 : decode cX2_moveRafts 11 = .ok (.istore 4, 2) := by decide +kernel
theorem dX2_moveRafts_13 : decode cX2_moveRafts 13 = .ok (.iload 4, 2) := by decide +kernel
theorem dX2_moveRafts_15 : decode cX2_moveRafts 15 = .ok (.iload_n 3, 1) := by decide +kernel
theorem dX2_moveRafts_16 : decode cX2_moveRafts 16 = .ok (.if_icmp .ge 42, 3) := by decide +kernel
theorem dX2_moveRafts_19 : decode cX2_moveRafts 19 = .ok (.aload_n 2, 1) := by decide +kernel
theorem dX2_moveRafts_20 : decode cX2_moveRafts 20 = .ok (.iload 4, 2) := by decide +kernel
theorem dX2_moveRafts_22 : decode cX2_moveRafts 22 = .ok (.aaload, 1) := by decide +kernel
theorem dX2_moveRafts_23 : decode cX2_moveRafts 23 = .ok (.astore 5, 2) := by decide +kernel
theorem dX2_moveRafts_25 : decode cX2_moveRafts 25 = .ok (.aload 5, 2) := by decide +kernel
theorem dX2_moveRafts_27 : decode cX2_moveRafts 27 = .ok (.ifnull 25, 3) := by decide +kernel
theorem dX2_moveRafts_30 : decode cX2_moveRafts 30 = .ok (.aload 5, 2) := by decide +kernel
theorem dX2_moveRafts_32 : decode cX2_moveRafts 32 = .ok (.getfield 94, 3) := by decide +kernel
theorem dX2_moveRafts_35 : decode cX2_moveRafts 35 = .ok (.iconst 1, 1) := by decide +kernel
theorem dX2_moveRafts_36 : decode cX2_moveRafts 36 = .ok (.if_icmp .ne 16, 3) := by decide +kernel
theorem dX2_moveRafts_39 : decode cX2_moveRafts 39 = .ok (.aload 5, 2) := by decide +kernel
theorem dX2_moveRafts_41 : decode cX2_moveRafts 41 = .ok (.aload_n 1, 1) := by decide +kernel
theorem dX2_moveRafts_42 : decode cX2_moveRafts 42 = .ok (.aload_n 0, 1) := by decide +kernel
theorem dX2_moveRafts_43 : decode cX2_moveRafts 43 = .ok (.getfield 41, 3) := by decide +kernel
theorem dX2_moveRafts_46 : decode cX2_moveRafts 46 = .ok (.invokevirtual 220, 3) := by decide +kernel
theorem dX2_moveRafts_49 : decode cX2_moveRafts 49 = .ok (.aload 5, 2) := by decide +kernel
theorem dX2_moveRafts_51 : decode cX2_moveRafts 51 = .ok (.astore_n 1, 1) := by decide +kernel
theorem dX2_moveRafts_52 : decode cX2_moveRafts 52 = .ok (.iinc 4 1, 3) := by decide +kernel
theorem dX2_moveRafts_55 : decode cX2_moveRafts 55 = .ok (.goto (-42), 3) := by decide +kernel
theorem dX2_moveRafts_58 : decode cX2_moveRafts 58 = .ok (.return_, 1) := by decide +kernel
set_option maxRecDepth 20000 in
theorem ggX2_letRaftsGo_X1_darkenAll : GoodIn wsX2_letRaftsGo wsX1_darkenAll := goodIn_r _ [8, 9, 10, 11, 12, 13, 14, 15, 28, 29, 30, 31, 32, 33, 34, 35, 36, 37, 38, 39, 40, 41] (by decide +kernel) (by decide +kernel)
set_option maxRecDepth 20000 in
theorem gX2_letRaftsGo_X1_darkenAll : GoodIn wsX2_letRaftsGo (wsV RX2 224 RX1 yX1_darkenAll wsX1_darkenAll) := goodIn_app (goodIn_of _ (by decide +kernel)) ggX2_letRaftsGo_X1_darkenAll
theorem dX2_letRaftsGo_0 : decode cX2_letRaftsGo 0 = .ok (.aload_n 0, 1) := by decide +kernel
theorem dX2_letRaftsGo_1 : decode cX2_letRaftsGo 1 = .ok (.getfield 21, 3) := by decide +kernel
theorem dX2_letRaftsGo_4 : decode cX2_letRaftsGo 4 = .ok (.astore_n 1, 1) := by decide +kernel
theorem dX2_letRaftsGo_5 : decode cX2_letRaftsGo 5 = .ok (.aload_n 1, 1) := by decide +kernel
theorem dX2_letRaftsGo_6 : decode cX2_letRaftsGo 6 = .ok (.arraylength, 1) := by decide +kernel
theorem dX2_letRaftsGo_7 : decode cX2_letRaftsGo 7 = .ok (.istore_n 2, 1) := by decide +kernel
theorem dX2_letRaftsGo_8 : decode cX2_letRaftsGo 8 = .ok (.iconst 0, 1) := by decide +kernel
theorem dX2_letRaftsGo_9 : decode cX2_letRaftsGo 9 = .ok (.istore_n 3, 1) := by decide +kernel
theorem dX2_letRaftsGo_10 : decode cX2_letRaftsGo 10 = .ok (.iload_n 3, 1) := by decide +kernel
theorem dX2_letRaftsGo_11 : decode cX2_letRaftsGo 11 = .ok (.iload_n 2, 1) := by decide +kernel
theorem dX2_letRaftsGo_12 : decode cX2_letRaftsGo 12 = .ok (.if_icmp .ge 50, 3) := by decide +kernel
theorem dX2_letRaftsGo_15 : decode cX2_letRaftsGo 15 = .ok (.aload_n 1, 1) := by decide +kernel
theorem dX2_letRaftsGo_16 : decode cX2_letRaftsGo 16 = .ok (.iload_n 3, 1) := by decide +kernel
theorem dX2_letRaftsGo_17 : decode cX2_letRaftsGo 17 = .ok (.aaload, 1) := by decide +kernel
theorem dX2_letRaftsGo_18 : decode cX2_letRaftsGo 18 = .ok (.astore 4, 2) := by decide +kernel
theorem dX2_letRaftsGo_20 : decode cX2_letRaftsGo 20 = .ok (.aload 4, 2) := by decide +kernel
theorem dX2_letRaftsGo_22 : decode cX2_letRaftsGo 22 = .ok (.ifnull 34, 3) := by decide +kernel
theorem dX2_letRaftsGo_25 : decode cX2_letRaftsGo 25 = .ok (.aload 4, 2) := by decide +kernel
theorem dX2_letRaftsGo_27 : decode cX2_letRaftsGo 27 = .ok (.getfield 94, 3) := by decide +kernel
theorem dX2_letRaftsGo_30 : decode cX2_letRaftsGo 30 = .ok (.iconst 1, 1) := by decide +kernel
theorem dX2_letRaftsGo_31 : decode cX2_letRaftsGo 31 = .ok (.if_icmp .ne 25, 3) := by decide +kernel
theorem dX2_letRaftsGo_34 : decode cX2_letRaftsGo 34 = .ok (.aload 4, 2) := by decide +kernel
theorem dX2_letRaftsGo_36 : decode cX2_letRaftsGo 36 = .ok (.getfield 153, 3) := by decide +kernel
theorem dX2_letRaftsGo_39 : decode cX2_letRaftsGo 39 = .ok (.sipush 500, 3) := by decide +kernel
theorem dX2_letRaftsGo_42 : decode cX2_letRaftsGo 42 = .ok (.if_icmp .lt 14, 3) := by decide +kernel
theorem dX2_letRaftsGo_45 : decode cX2_letRaftsGo 45 = .ok (.aload 4, 2) := by decide +kernel
theorem dX2_letRaftsGo_47 : decode cX2_letRaftsGo 47 = .ok (.iconst 2, 1) := by decide +kernel
theorem dX2_letRaftsGo_48 : decode cX2_letRaftsGo 48 = .ok (.putfield 94, 3) := by decide +kernel
theorem dX2_letRaftsGo_51 : decode cX2_letRaftsGo 51 = .ok (.aload 4, 2) := by decide +kernel
theorem dX2_letRaftsGo_53 : decode cX2_letRaftsGo 53 = .ok (.invokevirtual 224, 3) := by decide +kernel
theorem dX2_letRaftsGo_56 : decode cX2_letRaftsGo 56 = .ok (.iinc 3 1, 3) := by decide +kernel
theorem dX2_letRaftsGo_59 : decode cX2_letRaftsGo 59 = .ok (.goto (-49), 3) := by decide +kernel
theorem dX2_letRaftsGo_62 : decode cX2_letRaftsGo 62 = .ok (.return_, 1) := by decide +kernel
set_option maxRecDepth 20000 in
theorem ggX2_blowGust_X2_within : GoodIn wsX2_blowGust wsX2_within := goodIn_r _ [9] (by decide +kernel) (by decide +kernel)
set_option maxRecDepth 20000 in
theorem gX2_blowGust_X2_within : GoodIn wsX2_blowGust (va_wsS RX2 53 yX2_within wsX2_within) := goodIn_app (goodIn_of _ (by decide +kernel)) ggX2_blowGust_X2_within
set_option maxRecDepth 20000 in
theorem ggX2_blowGust_X0_firmness : GoodIn wsX2_blowGust wsX0_firmness := goodIn_r _ [14, 15, 16, 34, 35, 36, 37, 38, 39, 40] (by decide +kernel) (by decide +kernel)
set_option maxRecDepth 20000 in
theorem gX2_blowGust_X0_firmness : GoodIn wsX2_blowGust (wsV RX2 227 RX0 yX0_firmness wsX0_firmness) := goodIn_app (goodIn_of _ (by decide +kernel)) ggX2_blowGust_X0_firmness
set_option maxRecDepth 20000 in
theorem ggX2_blowGust_X0_darken : GoodIn wsX2_blowGust wsX0_darken := goodIn_r _ [20, 21, 34, 35, 36, 37, 38, 39, 40] (by decide +kernel) (by decide +kernel)
set_option maxRecDepth 20000 in
theorem gX2_blowGust_X0_darken : GoodIn wsX2_blowGust (wsV RX2 119 RX0 yX0_darken wsX0_darken) := goodIn_app (goodIn_of _ (by decide +kernel)) ggX2_blowGust_X0_darken
theorem dX2_blowGust_0 : decode cX2_blowGust 0 = .ok (.aload_n 0, 1) := by decide +kernel
theorem dX2_blowGust_1 : decode cX2_blowGust 1 = .ok (.getfield 38, 3) := by decide +kernel
theorem dX2_blowGust_4 : decode cX2_blowGust 4 = .ok (.iconst 1, 1) := by decide +kernel
theorem dX2_blowGust_5 : decode cX2_blowGust 5 = .ok (.sipush 400, 3) := by decide +kernel
theorem dX2_blowGust_8 : decode cX2_blowGust 8 = .ok (.invokestatic 53, 3) := by decide +kernel
theorem dX2_blowGust_11 : decode cX2_blowGust 11 = .ok (.ifCond .eq 15, 3) := by decide +kernel
theorem dX2_blowGust_14 : decode cX2_blowGust 14 = .ok (.aload_n 0, 1) := by decide +kernel
theorem dX2_blowGust_15 : decode cX2_blowGust 15 = .ok (.getfield 24, 3) := by decide +kernel
theorem dX2_blowGust_18 : decode cX2_blowGust 18 = .ok (.aload_n 0, 1) := by decide +kernel
theorem dX2_blowGust_19 : decode cX2_blowGust 19 = .ok (.getfield 38, 3) := by decide +kernel
theorem dX2_blowGust_22 : decode cX2_blowGust 22 = .ok (.iaload, 1) := by decide +kernel
theorem dX2_blowGust_23 : decode cX2_blowGust 23 = .ok (.goto 4, 3) := by decide +kernel
theorem dX2_blowGust_26 : decode cX2_blowGust 26 = .ok (.iconst 0, 1) := by decide +kernel
theorem dX2_blowGust_27 : decode cX2_blowGust 27 = .ok (.istore_n 1, 1) := by decide +kernel
theorem dX2_blowGust_28 : decode cX2_blowGust 28 = .ok (.aload_n 0, 1) := by decide +kernel
theorem dX2_blowGust_29 : decode cX2_blowGust 29 = .ok (.getfield 11, 3) := by decide +kernel
theorem dX2_blowGust_32 : decode cX2_blowGust 32 = .ok (.astore_n 2, 1) := by decide +kernel
theorem dX2_blowGust_33 : decode cX2_blowGust 33 = .ok (.aload_n 2, 1) := by decide +kernel
theorem dX2_blowGust_34 : decode cX2_blowGust 34 = .ok (.arraylength, 1) := by decide +kernel
theorem dX2_blowGust_35 : decode cX2_blowGust 35 = .ok (.istore_n 3, 1) := by decide +kernel
theorem dX2_blowGust_36 : decode cX2_blowGust 36 = .ok (.iconst 0, 1) := by decide +kernel
theorem dX2_blowGust_37 : decode cX2_blowGust 37 = .ok (.istore 4, 2) := by decide +kernel
theorem dX2_blowGust_39 : decode cX2_blowGust 39 = .ok (.iload 4, 2) := by decide +kernel
theorem dX2_blowGust_41 : decode cX2_blowGust 41 = .ok (.iload_n 3, 1) := by decide +kernel
theorem dX2_blowGust_42 : decode cX2_blowGust 42 = .ok (.if_icmp .ge 53, 3) := by decide +kernel
theorem dX2_blowGust_45 : decode cX2_blowGust 45 = .ok (.aload_n 2, 1) := by decide +kernel
theorem dX2_blowGust_46 : decode cX2_blowGust 46 = .ok (.iload 4, 2) := by decide +kernel
theorem dX2_blowGust_48 : decode cX2_blowGust 48 = .ok (.aaload, 1) := by decide +kernel
theorem dX2_blowGust_49 : decode cX2_blowGust 49 = .ok (.astore 5, 2) := by decide +kernel
theorem dX2_blowGust_51 : decode cX2_blowGust 51 = .ok (.aload 5, 2) := by decide +kernel
theorem dX2_blowGust_53 : decode cX2_blowGust 53 = .ok (.ifnull 36, 3) := by decide +kernel
theorem dX2_blowGust_56 : decode cX2_blowGust 56 = .ok (.aload 5, 2) := by decide +kernel
theorem dX2_blowGust_58 : decode cX2_blowGust 58 = .ok (.getfield 125, 3) := by decide +kernel
theorem dX2_blowGust_61 : decode cX2_blowGust 61 = .ok (.iconst 1, 1) := by decide +kernel
theorem dX2_blowGust_62 : decode cX2_blowGust 62 = .ok (.if_icmp .ne 27, 3) := by decide +kernel
theorem dX2_blowGust_65 : decode cX2_blowGust 65 = .ok (.aload 5, 2) := by decide +kernel
theorem dX2_blowGust_67 : decode cX2_blowGust 67 = .ok (.invokevirtual 227, 3) := by decide +kernel
theorem dX2_blowGust_70 : decode cX2_blowGust 70 = .ok (.iload_n 1, 1) := by decide +kernel
theorem dX2_blowGust_71 : decode cX2_blowGust 71 = .ok (.if_icmp .ge 18, 3) := by decide +kernel
theorem dX2_blowGust_74 : decode cX2_blowGust 74 = .ok (.aload 5, 2) := by decide +kernel
theorem dX2_blowGust_76 : decode cX2_blowGust 76 = .ok (.invokevirtual 119, 3) := by decide +kernel
theorem dX2_blowGust_79 : decode cX2_blowGust 79 = .ok (.aload_n 0, 1) := by decide +kernel
theorem dX2_blowGust_80 : decode cX2_blowGust 80 = .ok (.dup, 1) := by decide +kernel
theorem dX2_blowGust_81 : decode cX2_blowGust 81 = .ok (.getfield 47, 3) := by decide +kernel
theorem dX2_blowGust_84 : decode cX2_blowGust 84 = .ok (.iconst 1, 1) := by decide +kernel
theorem dX2_blowGust_85 : decode cX2_blowGust 85 = .ok (.iadd, 1) := by decide +kernel
theorem dX2_blowGust_86 : decode cX2_blowGust 86 = .ok (.putfield 47, 3) := by decide +kernel
theorem dX2_blowGust_89 : decode cX2_blowGust 89 = .ok (.iinc 4 1, 3) := by decide +kernel
theorem dX2_blowGust_92 : decode cX2_blowGust 92 = .ok (.goto (-53), 3) := by decide +kernel
theorem dX2_blowGust_95 : decode cX2_blowGust 95 = .ok (.return_, 1) := by decide +kernel
set_option maxRecDepth 20000 in
theorem ggX2_burnCandles_X0_burnOneMinute : GoodIn wsX2_burnCandles wsX0_burnOneMinute := goodIn_r _ [7, 8, 9, 22, 23, 24, 25, 26, 27, 28] (by decide +kernel) (by decide +kernel)
set_option maxRecDepth 20000 in
theorem gX2_burnCandles_X0_burnOneMinute : GoodIn wsX2_burnCandles (wsV RX2 230 RX0 yX0_burnOneMinute wsX0_burnOneMinute) := goodIn_app (goodIn_of _ (by decide +kernel)) ggX2_burnCandles_X0_burnOneMinute
theorem dX2_burnCandles_0 : decode cX2_burnCandles 0 = .ok (.aload_n 0, 1) := by decide +kernel
theorem dX2_burnCandles_1 : decode cX2_burnCandles 1 = .ok (.getfield 11, 3) := by decide +kernel
theorem dX2_burnCandles_4 : decode cX2_burnCandles 4 = .ok (.astore_n 1, 1) := by decide +kernel
theorem dX2_burnCandles_5 : decode cX2_burnCandles 5 = .ok (.aload_n 1, 1) := by decide +kernel
theorem dX2_burnCandles_6 : decode cX2_burnCandles 6 = .ok (.arraylength, 1) := by decide +kernel
theorem dX2_burnCandles_7 : decode cX2_burnCandles 7 = .ok (.istore_n 2, 1) := by decide +kernel
theorem dX2_burnCandles_8 : decode cX2_burnCandles 8 = .ok (.iconst 0, 1) := by decide +kernel
theorem dX2_burnCandles_9 : decode cX2_burnCandles 9 = .ok (.istore_n 3, 1) := by decide +kernel
theorem dX2_burnCandles_10 : decode cX2_burnCandles 10 = .ok (.iload_n 3, 1) := by decide +kernel
theorem dX2_burnCandles_11 : decode cX2_burnCandles 11 = .ok (.iload_n 2, 1) := by decide +kernel
theorem dX2_burnCandles_12 : decode cX2_burnCandles 12 = .ok (.if_icmp .ge 33, 3) := by decide +kernel
theorem dX2_burnCandles_15 : decode cX2_burnCandles 15 = .ok (.aload_n 1, 1) := by decide +kernel
theorem dX2_burnCandles_16 : decode cX2_burnCandles 16 = .ok (.iload_n 3, 1) := by decide +kernel
theorem dX2_burnCandles_17 : decode cX2_burnCandles 17 = .ok (.aaload, 1) := by decide +kernel
theorem dX2_burnCandles_18 : decode cX2_burnCandles 18 = .ok (.astore 4, 2) := by decide +kernel
theorem dX2_burnCandles_20 : decode cX2_burnCandles 20 = .ok (.aload 4, 2) := by decide +kernel
theorem dX2_burnCandles_22 : decode cX2_burnCandles 22 = .ok (.ifnull 17, 3) := by decide +kernel
theorem dX2_burnCandles_25 : decode cX2_burnCandles 25 = .ok (.aload 4, 2) := by decide +kernel
theorem dX2_burnCandles_27 : decode cX2_burnCandles 27 = .ok (.getfield 125, 3) := by decide +kernel
theorem dX2_burnCandles_30 : decode cX2_burnCandles 30 = .ok (.iconst 1, 1) := by decide +kernel
theorem dX2_burnCandles_31 : decode cX2_burnCandles 31 = .ok (.if_icmp .ne 8, 3) := by decide +kernel
theorem dX2_burnCandles_34 : decode cX2_burnCandles 34 = .ok (.aload 4, 2) := by decide +kernel
theorem dX2_burnCandles_36 : decode cX2_burnCandles 36 = .ok (.invokevirtual 230, 3) := by decide +kernel
theorem dX2_burnCandles_39 : decode cX2_burnCandles 39 = .ok (.iinc 3 1, 3) := by decide +kernel
theorem dX2_burnCandles_42 : decode cX2_burnCandles 42 = .ok (.goto (-32), 3) := by decide +kernel
theorem dX2_burnCandles_45 : decode cX2_burnCandles 45 = .ok (.return_, 1) := by decide +kernel
set_option maxRecDepth 20000 in
theorem ggX2_sendMarshal_X2_isCrowded : GoodIn wsX2_sendMarshal wsX2_isCrowded := goodIn_r _ [8, 1, 2, 9, 10, 11, 7, 12, 13, 14, 15, 16, 17, 18, 19, 20, 21, 22, 23, 24, 25, 26, 27, 33, 34, 35, 36, 37, 38, 39, 40, 41, 42, 43, 44, 45, 46, 47, 48, 49, 50, 51, 52, 53, 54, 55, 56, 57, 58] (by decide +kernel) (by decide +kernel)
set_option maxRecDepth 20000 in
theorem gX2_sendMarshal_X2_isCrowded : GoodIn wsX2_sendMarshal (wsV RX2 131 RX2 yX2_isCrowded wsX2_isCrowded) := goodIn_app (goodIn_of _ (by decide +kernel)) ggX2_sendMarshal_X2_isCrowded
set_option maxRecDepth 20000 in
theorem ggX2_sendMarshal_X0_darken : GoodIn wsX2_sendMarshal wsX0_darken := goodIn_r _ [31, 32, 45, 46, 47, 48, 49, 50, 51] (by decide +kernel) (by decide +kernel)
set_option maxRecDepth 20000 in
theorem gX2_sendMarshal_X0_darken : GoodIn wsX2_sendMarshal (wsV RX2 119 RX0 yX0_darken wsX0_darken) := goodIn_app (goodIn_of _ (by decide +kernel)) ggX2_sendMarshal_X0_darken
theorem dX2_sendMarshal_0 : decode cX2_sendMarshal 0 = .ok (.iconst 0, 1) := by decide +kernel
theorem dX2_sendMarshal_1 : decode cX2_sendMarshal 1 = .ok (.istore_n 1, 1) := by decide +kernel
theorem dX2_sendMarshal_2 : decode cX2_sendMarshal 2 = .ok (.iload_n 1, 1) := by decide +kernel
theorem dX2_sendMarshal_3 : decode cX2_sendMarshal 3 = .ok (.aload_n 0, 1) := by decide +kernel
theorem dX2_sendMarshal_4 : decode cX2_sendMarshal 4 = .ok (.getfield 11, 3) := by decide +kernel
theorem dX2_sendMarshal_7 : decode cX2_sendMarshal 7 = .ok (.arraylength, 1) := by decide +kernel
theorem dX2_sendMarshal_8 : decode cX2_sendMarshal 8 = .ok (.if_icmp .ge 51, 3) := by decide +kernel
theorem dX2_sendMarshal_11 : decode cX2_sendMarshal 11 = .ok (.aload_n 0, 1) := by decide +kernel
theorem dX2_sendMarshal_12 : decode cX2_sendMarshal 12 = .ok (.getfield 11, 3) := by decide +kernel
theorem dX2_sendMarshal_15 : decode cX2_sendMarshal 15 = .ok (.iload_n 1, 1) := by decide +kernel
theorem dX2_sendMarshal_16 : decode cX2_sendMarshal 16 = .ok (.aaload, 1) := by decide +kernel
theorem dX2_sendMarshal_17 : decode cX2_sendMarshal 17 = .ok (.astore_n 2, 1) := by decide +kernel
theorem dX2_sendMarshal_18 : decode cX2_sendMarshal 18 = .ok (.aload_n 2, 1) := by decide +kernel
theorem dX2_sendMarshal_19 : decode cX2_sendMarshal 19 = .ok (.ifnull 34, 3) := by decide +kernel
theorem dX2_sendMarshal_22 : decode cX2_sendMarshal 22 = .ok (.aload_n 2, 1) := by decide +kernel
theorem dX2_sendMarshal_23 : decode cX2_sendMarshal 23 = .ok (.getfield 125, 3) := by decide +kernel
theorem dX2_sendMarshal_26 : decode cX2_sendMarshal 26 = .ok (.iconst 1, 1) := by decide +kernel
theorem dX2_sendMarshal_27 : decode cX2_sendMarshal 27 = .ok (.if_icmp .ne 26, 3) := by decide +kernel
theorem dX2_sendMarshal_30 : decode cX2_sendMarshal 30 = .ok (.aload_n 0, 1) := by decide +kernel
theorem dX2_sendMarshal_31 : decode cX2_sendMarshal 31 = .ok (.aload_n 2, 1) := by decide +kernel
theorem dX2_sendMarshal_32 : decode cX2_sendMarshal 32 = .ok (.iload_n 1, 1) := by decide +kernel
theorem dX2_sendMarshal_33 : decode cX2_sendMarshal 33 = .ok (.invokevirtual 131, 3) := by decide +kernel
theorem dX2_sendMarshal_36 : decode cX2_sendMarshal 36 = .ok (.ifCond .eq 17, 3) := by decide +kernel
theorem dX2_sendMarshal_39 : decode cX2_sendMarshal 39 = .ok (.aload_n 2, 1) := by decide +kernel
theorem dX2_sendMarshal_40 : decode cX2_sendMarshal 40 = .ok (.invokevirtual 119, 3) := by decide +kernel
theorem dX2_sendMarshal_43 : decode cX2_sendMarshal 43 = .ok (.aload_n 0, 1) := by decide +kernel
theorem dX2_sendMarshal_44 : decode cX2_sendMarshal 44 = .ok (.dup, 1) := by decide +kernel
theorem dX2_sendMarshal_45 : decode cX2_sendMarshal 45 = .ok (.getfield 50, 3) := by decide +kernel
theorem dX2_sendMarshal_48 : decode cX2_sendMarshal 48 = .ok (.iconst 1, 1) := by decide +kernel
theorem dX2_sendMarshal_49 : decode cX2_sendMarshal 49 = .ok (.iadd, 1) := by decide +kernel
theorem dX2_sendMarshal_50 : decode cX2_sendMarshal 50 = .ok (.putfield 50, 3) := by decide +kernel
theorem dX2_sendMarshal_53 : decode cX2_sendMarshal 53 = .ok (.iinc 1 1, 3) := by decide +kernel
theorem dX2_sendMarshal_56 : decode cX2_sendMarshal 56 = .ok (.goto (-54), 3) := by decide +kernel
theorem dX2_sendMarshal_59 : decode cX2_sendMarshal 59 = .ok (.return_, 1) := by decide +kernel
set_option maxRecDepth 20000 in
theorem ggX2_isCrowded_X2_isTooNear : GoodIn wsX2_isCrowded wsX2_isTooNear := goodIn_r _ [7, 8, 9, 10, 11, 12, 13, 14, 15, 16, 17, 18, 19, 20, 21, 22, 35, 36, 37, 38, 39, 40, 41, 23, 24, 25, 26, 27, 28, 29, 30, 31, 32, 33, 34, 42, 43, 44, 45, 46, 47, 48] (by decide +kernel) (by decide +kernel)
set_option maxRecDepth 20000 in
theorem gX2_isCrowded_X2_isTooNear : GoodIn wsX2_isCrowded (wsV RX2 233 RX2 yX2_isTooNear wsX2_isTooNear) := goodIn_app (goodIn_of _ (by decide +kernel)) ggX2_isCrowded_X2_isTooNear
theorem dX2_isCrowded_0 : decode cX2_isCrowded 0 = .ok (.iconst 0, 1) := by decide +kernel
theorem dX2_isCrowded_1 : decode cX2_isCrowded 1 = .ok (.istore_n 3, 1) := by decide +kernel
theorem dX2_isCrowded_2 : decode cX2_isCrowded 2 = .ok (.iload_n 3, 1) := by decide +kernel
theorem dX2_isCrowded_3 : decode cX2_isCrowded 3 = .ok (.iload_n 2, 1) := by decide +kernel
theorem dX2_isCrowded_4 : decode cX2_isCrowded 4 = .ok (.if_icmp .ge 52, 3) := by decide +kernel
theorem dX2_isCrowded_7 : decode cX2_isCrowded 7 = .ok (.iload_n 3, 1) := by decide +kernel
theorem dX2_isCrowded_8 : decode cX2_isCrowded 8 = .ok (.aload_n 0, 1) := by decide +kernel
theorem dX2_isCrowded_9 : decode cX2_isCrowded 9 = .ok (.getfield 11, 3) := by decide +kernel
theorem dX2_isCrowded_12 : decode cX2_isCrowded 12 = .ok (.arraylength, 1) := by decide +kernel
theorem dX2_isCrowded_13 : decode cX2_isCrowded 13 = .ok (.if_icmp .ge 43, 3) := by decide +kernel
theorem dX2_isCrowded_16 : decode cX2_isCrowded 16 = .ok (.aload_n 0, 1) := by decide +kernel
theorem dX2_isCrowded_17 : decode cX2_isCrowded 17 = .ok (.getfield 11, 3) := by decide +kernel
theorem dX2_isCrowded_20 : decode cX2_isCrowded 20 = .ok (.iload_n 3, 1) := by decide +kernel
theorem dX2_isCrowded_21 : decode cX2_isCrowded 21 = .ok (.aaload, 1) := by decide +kernel
theorem dX2_isCrowded_22 : decode cX2_isCrowded 22 = .ok (.astore 4, 2) := by decide +kernel
theorem dX2_isCrowded_24 : decode cX2_isCrowded 24 = .ok (.aload 4, 2) := by decide +kernel
theorem dX2_isCrowded_26 : decode cX2_isCrowded 26 = .ok (.ifnull 24, 3) := by decide +kernel
theorem dX2_isCrowded_29 : decode cX2_isCrowded 29 = .ok (.aload 4, 2) := by decide +kernel
theorem dX2_isCrowded_31 : decode cX2_isCrowded 31 = .ok (.getfield 125, 3) := by decide +kernel
theorem dX2_isCrowded_34 : decode cX2_isCrowded 34 = .ok (.iconst 1, 1) := by decide +kernel
theorem dX2_isCrowded_35 : decode cX2_isCrowded 35 = .ok (.if_icmp .ne 15, 3) := by decide +kernel
theorem dX2_isCrowded_38 : decode cX2_isCrowded 38 = .ok (.aload_n 0, 1) := by decide +kernel
theorem dX2_isCrowded_39 : decode cX2_isCrowded 39 = .ok (.aload_n 1, 1) := by decide +kernel
theorem dX2_isCrowded_40 : decode cX2_isCrowded 40 = .ok (.aload 4, 2) := by decide +kernel
theorem dX2_isCrowded_42 : decode cX2_isCrowded 42 = .ok (.invokevirtual 233, 3) := by decide +kernel
theorem dX2_isCrowded_45 : decode cX2_isCrowded 45 = .ok (.ifCond .eq 5, 3) := by decide +kernel
theorem dX2_isCrowded_48 : decode cX2_isCrowded 48 = .ok (.iconst 1, 1) := by decide +kernel
theorem dX2_isCrowded_49 : decode cX2_isCrowded 49 = .ok (.ireturn, 1) := by decide +kernel
theorem dX2_isCrowded_50 : decode cX2_isCrowded 50 = .ok (.iinc 3 1, 3) := by decide +kernel
theorem dX2_isCrowded_53 : decode cX2_isCrowded 53 = .ok (.goto (-51), 3) := by decide +kernel
theorem dX2_isCrowded_56 : decode cX2_isCrowded 56 = .ok (.iconst 0, 1) := by decide +kernel
theorem dX2_isCrowded_57 : decode cX2_isCrowded 57 = .ok (.ireturn, 1) := by decide +kernel
set_option maxRecDepth 20000 in
theorem ggX2_isTooNear_X0_distanceTo : GoodIn wsX2_isTooNear wsX0_distanceTo := goodIn_r _ [7, 8, 9, 10, 6, 11, 12, 13, 14, 15, 16, 17, 18, 19, 20, 21, 22, 35, 36, 37, 38, 39, 40, 41] (by decide +kernel) (by decide +kernel)
set_option maxRecDepth 20000 in
theorem gX2_isTooNear_X0_distanceTo : GoodIn wsX2_isTooNear (wsV RX2 189 RX0 yX0_distanceTo wsX0_distanceTo) := goodIn_app (goodIn_of _ (by decide +kernel)) ggX2_isTooNear_X0_distanceTo
theorem dX2_isTooNear_0 : decode cX2_isTooNear 0 = .ok (.aload_n 1, 1) := by decide +kernel
theorem dX2_isTooNear_1 : decode cX2_isTooNear 1 = .ok (.aload_n 2, 1) := by decide +kernel
theorem dX2_isTooNear_2 : decode cX2_isTooNear 2 = .ok (.invokevirtual 189, 3) := by decide +kernel
theorem dX2_isTooNear_5 : decode cX2_isTooNear 5 = .ok (.aload_n 1, 1) := by decide +kernel
theorem dX2_isTooNear_6 : decode cX2_isTooNear 6 = .ok (.getfield 237, 3) := by decide +kernel
theorem dX2_isTooNear_9 : decode cX2_isTooNear 9 = .ok (.aload_n 2, 1) := by decide +kernel
theorem dX2_isTooNear_10 : decode cX2_isTooNear 10 = .ok (.getfield 237, 3) := by decide +kernel
theorem dX2_isTooNear_13 : decode cX2_isTooNear 13 = .ok (.iadd, 1) := by decide +kernel
theorem dX2_isTooNear_14 : decode cX2_isTooNear 14 = .ok (.aload_n 0, 1) := by decide +kernel
theorem dX2_isTooNear_15 : decode cX2_isTooNear 15 = .ok (.getfield 44, 3) := by decide +kernel
theorem dX2_isTooNear_18 : decode cX2_isTooNear 18 = .ok (.iadd, 1) := by decide +kernel
theorem dX2_isTooNear_19 : decode cX2_isTooNear 19 = .ok (.if_icmp .ge 7, 3) := by decide +kernel
theorem dX2_isTooNear_22 : decode cX2_isTooNear 22 = .ok (.iconst 1, 1) := by decide +kernel
theorem dX2_isTooNear_23 : decode cX2_isTooNear 23 = .ok (.goto 4, 3) := by decide +kernel
theorem dX2_isTooNear_26 : decode cX2_isTooNear 26 = .ok (.iconst 0, 1) := by decide +kernel
theorem dX2_isTooNear_27 : decode cX2_isTooNear 27 = .ok (.ireturn, 1) := by decide +kernel
set_option maxRecDepth 20000 in
theorem ggX2_nearestAhead_X1_nearestLit : GoodIn wsX2_nearestAhead wsX1_nearestLit := goodIn_r _ [10, 11, 12, 13, 14, 15, 16, 17, 18, 19, 20, 21, 22, 23, 24, 25, 26, 27, 28, 29, 30, 4, 31, 2, 3, 5, 44, 45, 46, 47, 48, 49, 50, 51, 52, 53, 54, 55, 56, 57] (by decide +kernel) (by decide +kernel)
set_option maxRecDepth 20000 in
theorem gX2_nearestAhead_X1_nearestLit : GoodIn wsX2_nearestAhead (wsV RX2 174 RX1 yX1_nearestLit wsX1_nearestLit) := goodIn_app (goodIn_of _ (by decide +kernel)) ggX2_nearestAhead_X1_nearestLit
theorem dX2_nearestAhead_0 : decode cX2_nearestAhead 0 = .ok (.iconst (-1), 1) := by decide +kernel
theorem dX2_nearestAhead_1 : decode cX2_nearestAhead 1 = .ok (.istore_n 3, 1) := by decide +kernel
theorem dX2_nearestAhead_2 : decode cX2_nearestAhead 2 = .ok (.iload_n 2, 1) := by decide +kernel
theorem dX2_nearestAhead_3 : decode cX2_nearestAhead 3 = .ok (.aload_n 0, 1) := by decide +kernel
theorem dX2_nearestAhead_4 : decode cX2_nearestAhead 4 = .ok (.getfield 21, 3) := by decide +kernel
theorem dX2_nearestAhead_7 : decode cX2_nearestAhead 7 = .ok (.arraylength, 1) := by decide +kernel
theorem dX2_nearestAhead_8 : decode cX2_nearestAhead 8 = .ok (.invokestatic 240, 3) := by decide +kernel
theorem dX2_nearestAhead_11 : decode cX2_nearestAhead 11 = .ok (.iconst 1, 1) := by decide +kernel
theorem dX2_nearestAhead_12 : decode cX2_nearestAhead 12 = .ok (.isub, 1) := by decide +kernel
theorem dX2_nearestAhead_13 : decode cX2_nearestAhead 13 = .ok (.istore 4, 2) := by decide +kernel
theorem dX2_nearestAhead_15 : decode cX2_nearestAhead 15 = .ok (.iload 4, 2) := by decide +kernel
theorem dX2_nearestAhead_17 : decode cX2_nearestAhead 17 = .ok (.ifCond .lt 35, 3) := by decide +kernel
theorem dX2_nearestAhead_20 : decode cX2_nearestAhead 20 = .ok (.iload_n 3, 1) := by decide +kernel
theorem dX2_nearestAhead_21 : decode cX2_nearestAhead 21 = .ok (.iconst (-1), 1) := by decide +kernel
theorem dX2_nearestAhead_22 : decode cX2_nearestAhead 22 = .ok (.if_icmp .ne 30, 3) := by decide +kernel
theorem dX2_nearestAhead_25 : decode cX2_nearestAhead 25 = .ok (.aload_n 0, 1) := by decide +kernel
theorem dX2_nearestAhead_26 : decode cX2_nearestAhead 26 = .ok (.getfield 21, 3) := by decide +kernel
theorem dX2_nearestAhead_29 : decode cX2_nearestAhead 29 = .ok (.iload 4, 2) := by decide +kernel
theorem dX2_nearestAhead_31 : decode cX2_nearestAhead 31 = .ok (.aaload, 1) := by decide +kernel
theorem dX2_nearestAhead_32 : decode cX2_nearestAhead 32 = .ok (.astore 5, 2) := by decide +kernel
theorem dX2_nearestAhead_34 : decode cX2_nearestAhead 34 = .ok (.aload 5, 2) := by decide +kernel
theorem dX2_nearestAhead_36 : decode cX2_nearestAhead 36 = .ok (.ifnull 10, 3) := by decide +kernel
theorem dX2_nearestAhead_39 : decode cX2_nearestAhead 39 = .ok (.aload 5, 2) := by decide +kernel
theorem dX2_nearestAhead_41 : decode cX2_nearestAhead 41 = .ok (.aload_n 1, 1) := by decide +kernel
theorem dX2_nearestAhead_42 : decode cX2_nearestAhead 42 = .ok (.invokevirtual 174, 3) := by decide +kernel
theorem dX2_nearestAhead_45 : decode cX2_nearestAhead 45 = .ok (.istore_n 3, 1) := by decide +kernel
theorem dX2_nearestAhead_46 : decode cX2_nearestAhead 46 = .ok (.iinc 4 (-1), 3) := by decide +kernel
theorem dX2_nearestAhead_49 : decode cX2_nearestAhead 49 = .ok (.goto (-34), 3) := by decide +kernel
theorem dX2_nearestAhead_52 : decode cX2_nearestAhead 52 = .ok (.iload_n 3, 1) := by decide +kernel
theorem dX2_nearestAhead_53 : decode cX2_nearestAhead 53 = .ok (.ireturn, 1) := by decide +kernel
set_option maxRecDepth 20000 in
theorem ggX2_nearestBehind_X1_nearestLit : GoodIn wsX2_nearestBehind wsX1_nearestLit := goodIn_r _ [10, 11, 12, 13, 14, 15, 16, 17, 18, 19, 20, 21, 22, 23, 24, 25, 26, 27, 28, 1, 2, 3, 4, 29, 30, 31, 44, 45, 46, 47, 48, 49, 50, 51, 52, 53, 54, 55, 56, 57] (by decide +kernel) (by decide +kernel)
set_option maxRecDepth 20000 in
theorem gX2_nearestBehind_X1_nearestLit : GoodIn wsX2_nearestBehind (wsV RX2 174 RX1 yX1_nearestLit wsX1_nearestLit) := goodIn_app (goodIn_of _ (by decide +kernel)) ggX2_nearestBehind_X1_nearestLit
theorem dX2_nearestBehind_0 : decode cX2_nearestBehind 0 = .ok (.iconst (-1), 1) := by decide +kernel
theorem dX2_nearestBehind_1 : decode cX2_nearestBehind 1 = .ok (.istore_n 3, 1) := by decide +kernel
theorem dX2_nearestBehind_2 : decode cX2_nearestBehind 2 = .ok (.iload_n 2, 1) := by decide +kernel
theorem dX2_nearestBehind_3 : decode cX2_nearestBehind 3 = .ok (.iconst 0, 1) := by decide +kernel
theorem dX2_nearestBehind_4 : decode cX2_nearestBehind 4 = .ok (.invokestatic 245, 3) := by decide +kernel
theorem dX2_nearestBehind_7 : decode cX2_nearestBehind 7 = .ok (.iconst 1, 1) := by decide +kernel
theorem dX2_nearestBehind_8 : decode cX2_nearestBehind 8 = .ok (.iadd, 1) := by decide +kernel
theorem dX2_nearestBehind_9 : decode cX2_nearestBehind 9 = .ok (.istore 4, 2) := by decide +kernel
theorem dX2_nearestBehind_11 : decode cX2_nearestBehind 11 = .ok (.iload 4, 2) := by decide +kernel
theorem dX2_nearestBehind_13 : decode cX2_nearestBehind 13 = .ok (.aload_n 0, 1) := by decide +kernel
theorem dX2_nearestBehind_14 : decode cX2_nearestBehind 14 = .ok (.getfield 21, 3) := by decide +kernel
theorem dX2_nearestBehind_17 : decode cX2_nearestBehind 17 = .ok (.arraylength, 1) := by decide +kernel
theorem dX2_nearestBehind_18 : decode cX2_nearestBehind 18 = .ok (.if_icmp .ge 35, 3) := by decide +kernel
theorem dX2_nearestBehind_21 : decode cX2_nearestBehind 21 = .ok (.iload_n 3, 1) := by decide +kernel
theorem dX2_nearestBehind_22 : decode cX2_nearestBehind 22 = .ok (.iconst (-1), 1) := by decide +kernel
theorem dX2_nearestBehind_23 : decode cX2_nearestBehind 23 = .ok (.if_icmp .ne 30, 3) := by decide +kernel
theorem dX2_nearestBehind_26 : decode cX2_nearestBehind 26 = .ok (.aload_n 0, 1) := by decide +kernel
theorem dX2_nearestBehind_27 : decode cX2_nearestBehind 27 = .ok (.getfield 21, 3) := by decide +kernel
theorem dX2_nearestBehind_30 : decode cX2_nearestBehind 30 = .ok (.iload 4, 2) := by decide +kernel
theorem dX2_nearestBehind_32 : decode cX2_nearestBehind 32 = .ok (.aaload, 1) := by decide +kernel
theorem dX2_nearestBehind_33 : decode cX2_nearestBehind 33 = .ok (.astore 5, 2) := by decide +kernel
theorem dX2_nearestBehind_35 : decode cX2_nearestBehind 35 = .ok (.aload 5, 2) := by decide +kernel
theorem dX2_nearestBehind_37 : decode cX2_nearestBehind 37 = .ok (.ifnull 10, 3) := by decide +kernel
theorem dX2_nearestBehind_40 : decode cX2_nearestBehind 40 = .ok (.aload 5, 2) := by decide +kernel
theorem dX2_nearestBehind_42 : decode cX2_nearestBehind 42 = .ok (.aload_n 1, 1) := by decide +kernel
theorem dX2_nearestBehind_43 : decode cX2_nearestBehind 43 = .ok (.invokevirtual 174, 3) := by decide +kernel
theorem dX2_nearestBehind_46 : decode cX2_nearestBehind 46 = .ok (.istore_n 3, 1) := by decide +kernel
theorem dX2_nearestBehind_47 : decode cX2_nearestBehind 47 = .ok (.iinc 4 1, 3) := by decide +kernel
theorem dX2_nearestBehind_50 : decode cX2_nearestBehind 50 = .ok (.goto (-39), 3) := by decide +kernel
theorem dX2_nearestBehind_53 : decode cX2_nearestBehind 53 = .ok (.iload_n 3, 1) := by decide +kernel
theorem dX2_nearestBehind_54 : decode cX2_nearestBehind 54 = .ok (.ireturn, 1) := by decide +kernel
theorem dX2_nearer_0 : decode cX2_nearer 0 = .ok (.iload_n 0, 1) := by decide +kernel
theorem dX2_nearer_1 : decode cX2_nearer 1 = .ok (.iconst (-1), 1) := by decide +kernel
theorem dX2_nearer_2 : decode cX2_nearer 2 = .ok (.if_icmp .eq 8, 3) := by decide +kernel
theorem dX2_nearer_5 : decode cX2_nearer 5 = .ok (.iload_n 1, 1) := by decide +kernel
theorem dX2_nearer_6 : decode cX2_nearer 6 = .ok (.iconst (-1), 1) := by decide +kernel
theorem dX2_nearer_7 : decode cX2_nearer 7 = .ok (.if_icmp .ne 9, 3) := by decide +kernel
theorem dX2_nearer_10 : decode cX2_nearer 10 = .ok (.iload_n 0, 1) := by decide +kernel
theorem dX2_nearer_11 : decode cX2_nearer 11 = .ok (.iload_n 1, 1) := by decide +kernel
theorem dX2_nearer_12 : decode cX2_nearer 12 = .ok (.invokestatic 245, 3) := by decide +kernel
theorem dX2_nearer_15 : decode cX2_nearer 15 = .ok (.ireturn, 1) := by decide +kernel
theorem dX2_nearer_16 : decode cX2_nearer 16 = .ok (.iload_n 0, 1) := by decide +kernel
theorem dX2_nearer_17 : decode cX2_nearer 17 = .ok (.iload_n 1, 1) := by decide +kernel
theorem dX2_nearer_18 : decode cX2_nearer 18 = .ok (.invokestatic 240, 3) := by decide +kernel
theorem dX2_nearer_21 : decode cX2_nearer 21 = .ok (.ireturn, 1) := by decide +kernel
theorem dJ9_max_7cf53_0 : decode cJ9_max_7cf53 0 = .ok (.iload_n 0, 1) := by decide +kernel
theorem dJ9_max_7cf53_1 : decode cJ9_max_7cf53 1 = .ok (.iload_n 1, 1) := by decide +kernel
theorem dJ9_max_7cf53_2 : decode cJ9_max_7cf53 2 = .ok (.if_icmp .lt 7, 3) := by decide +kernel
theorem dJ9_max_7cf53_5 : decode cJ9_max_7cf53 5 = .ok (.iload_n 0, 1) := by decide +kernel
theorem dJ9_max_7cf53_6 : decode cJ9_max_7cf53 6 = .ok (.goto 4, 3) := by decide +kernel
theorem dJ9_max_7cf53_9 : decode cJ9_max_7cf53 9 = .ok (.iload_n 1, 1) := by decide +kernel
theorem dJ9_max_7cf53_10 : decode cJ9_max_7cf53 10 = .ok (.ireturn, 1) := by decide +kernel
theorem dJ9_min_7cf53_0 : decode cJ9_min_7cf53 0 = .ok (.iload_n 0, 1) := by decide +kernel
theorem dJ9_min_7cf53_1 : decode cJ9_min_7cf53 1 = .ok (.iload_n 1, 1) := by decide +kernel
theorem dJ9_min_7cf53_2 : decode cJ9_min_7cf53 2 = .ok (.if_icmp .gt 7, 3) := by decide +kernel
theorem dJ9_min_7cf53_5 : decode cJ9_min_7cf53 5 = .ok (.iload_n 0, 1) := by decide +kernel
theorem dJ9_min_7cf53_6 : decode cJ9_min_7cf53 6 = .ok (.goto 4, 3) := by decide +kernel
theorem dJ9_min_7cf53_9 : decode cJ9_min_7cf53 9 = .ok (.iload_n 1, 1) := by decide +kernel
theorem dJ9_min_7cf53_10 : decode cJ9_min_7cf53 10 = .ok (.ireturn, 1) := by decide +kernel
theorem dL_from_0 : decode cL_from 0 = .ok (.aload_n 0, 1) := by decide +kernel
theorem dL_from_1 : decode cL_from 1 = .ok (.arraylength, 1) := by decide +kernel
theorem dL_from_2 : decode cL_from 2 = .ok (.ifCond .ne 15, 3) := by decide +kernel
theorem dL_from_5 : decode cL_from 5 = .ok (.sipush 193, 3) := by decide +kernel
theorem dL_from_8 : decode cL_from 8 = .ok (.iload_n 1, 1) := by decide +kernel
theorem dL_from_9 : decode cL_from 9 = .ok (.imul, 1) := by decide +kernel
theorem dL_from_10 : decode cL_from 10 = .ok (.sipush 167, 3) := by decide +kernel
theorem dL_from_13 : decode cL_from 13 = .ok (.iadd, 1) := by decide +kernel
theorem dL_from_14 : decode cL_from 14 = .ok (.goto 14, 3) := by decide +kernel
theorem dL_from_17 : decode cL_from 17 = .ok (.aload_n 0, 1) := by decide +kernel
theorem dL_from_18 : decode cL_from 18 = .ok (.iload_n 1, 1) := by decide +kernel
theorem dL_from_19 : decode cL_from 19 = .ok (.aload_n 0, 1) := by decide +kernel
theorem dL_from_20 : decode cL_from 20 = .ok (.arraylength, 1) := by decide +kernel
theorem dL_from_21 : decode cL_from 21 = .ok (.irem, 1) := by decide +kernel
theorem dL_from_22 : decode cL_from 22 = .ok (.iaload, 1) := by decide +kernel
theorem dL_from_23 : decode cL_from 23 = .ok (.ldc 7, 2) := by decide +kernel
theorem dL_from_25 : decode cL_from 25 = .ok (.iload_n 1, 1) := by decide +kernel
theorem dL_from_26 : decode cL_from 26 = .ok (.imul, 1) := by decide +kernel
theorem dL_from_27 : decode cL_from 27 = .ok (.ixor, 1) := by decide +kernel
theorem dL_from_28 : decode cL_from 28 = .ok (.istore_n 3, 1) := by decide +kernel
theorem dL_from_29 : decode cL_from 29 = .ok (.iload_n 3, 1) := by decide +kernel
theorem dL_from_30 : decode cL_from 30 = .ok (.ldc 8, 2) := by decide +kernel
theorem dL_from_32 : decode cL_from 32 = .ok (.iand, 1) := by decide +kernel
theorem dL_from_33 : decode cL_from 33 = .ok (.iload_n 2, 1) := by decide +kernel
theorem dL_from_34 : decode cL_from 34 = .ok (.irem, 1) := by decide +kernel
theorem dL_from_35 : decode cL_from 35 = .ok (.ireturn, 1) := by decide +kernel
theorem dL_place_0 : decode cL_place 0 = .ok (.aload_n 0, 1) := by decide +kernel
theorem dL_place_1 : decode cL_place 1 = .ok (.bipush 8, 2) := by decide +kernel
theorem dL_place_3 : decode cL_place 3 = .ok (.iload_n 2, 1) := by decide +kernel
theorem dL_place_4 : decode cL_place 4 = .ok (.imul, 1) := by decide +kernel
theorem dL_place_5 : decode cL_place 5 = .ok (.iconst 5, 1) := by decide +kernel
theorem dL_place_6 : decode cL_place 6 = .ok (.iadd, 1) := by decide +kernel
theorem dL_place_7 : decode cL_place 7 = .ok (.iaload, 1) := by decide +kernel
theorem dL_place_8 : decode cL_place 8 = .ok (.istore_n 3, 1) := by decide +kernel
theorem dL_place_9 : decode cL_place 9 = .ok (.iload_n 3, 1) := by decide +kernel
theorem dL_place_10 : decode cL_place 10 = .ok (.ifCond .lt 14, 3) := by decide +kernel
theorem dL_place_13 : decode cL_place 13 = .ok (.aload_n 1, 1) := by decide +kernel
theorem dL_place_14 : decode cL_place 14 = .ok (.iconst 4, 1) := by decide +kernel
theorem dL_place_15 : decode cL_place 15 = .ok (.iload_n 3, 1) := by decide +kernel
theorem dL_place_16 : decode cL_place 16 = .ok (.imul, 1) := by decide +kernel
theorem dL_place_17 : decode cL_place 17 = .ok (.iconst 2, 1) := by decide +kernel
theorem dL_place_18 : decode cL_place 18 = .ok (.iadd, 1) := by decide +kernel
theorem dL_place_19 : decode cL_place 19 = .ok (.iaload, 1) := by decide +kernel
theorem dL_place_20 : decode cL_place 20 = .ok (.iconst 1, 1) := by decide +kernel
theorem dL_place_21 : decode cL_place 21 = .ok (.if_icmp .eq 9, 3) := by decide +kernel
theorem dL_place_24 : decode cL_place 24 = .ok (.sipush (-1000), 3) := by decide +kernel
theorem dL_place_27 : decode cL_place 27 = .ok (.goto 20, 3) := by decide +kernel
theorem dL_place_30 : decode cL_place 30 = .ok (.aload_n 1, 1) := by decide +kernel
theorem dL_place_31 : decode cL_place 31 = .ok (.iconst 4, 1) := by decide +kernel
theorem dL_place_32 : decode cL_place 32 = .ok (.iload_n 3, 1) := by decide +kernel
theorem dL_place_33 : decode cL_place 33 = .ok (.imul, 1) := by decide +kernel
theorem dL_place_34 : decode cL_place 34 = .ok (.iconst 3, 1) := by decide +kernel
theorem dL_place_35 : decode cL_place 35 = .ok (.iadd, 1) := by decide +kernel
theorem dL_place_36 : decode cL_place 36 = .ok (.iaload, 1) := by decide +kernel
theorem dL_place_37 : decode cL_place 37 = .ok (.aload_n 0, 1) := by decide +kernel
theorem dL_place_38 : decode cL_place 38 = .ok (.bipush 8, 2) := by decide +kernel
theorem dL_place_40 : decode cL_place 40 = .ok (.iload_n 2, 1) := by decide +kernel
theorem dL_place_41 : decode cL_place 41 = .ok (.imul, 1) := by decide +kernel
theorem dL_place_42 : decode cL_place 42 = .ok (.bipush 6, 2) := by decide +kernel
theorem dL_place_44 : decode cL_place 44 = .ok (.iadd, 1) := by decide +kernel
theorem dL_place_45 : decode cL_place 45 = .ok (.iaload, 1) := by decide +kernel
theorem dL_place_46 : decode cL_place 46 = .ok (.isub, 1) := by decide +kernel
theorem dL_place_47 : decode cL_place 47 = .ok (.ireturn, 1) := by decide +kernel
set_option maxRecDepth 20000 in
theorem ggL_apart_L_place : GoodIn wsL_apart wsL_place := goodIn_r _ [4] (by decide +kernel) (by decide +kernel)
set_option maxRecDepth 20000 in
theorem gL_apart_L_place : GoodIn wsL_apart (va_wsS RL 9 yL_place wsL_place) := goodIn_app (goodIn_of _ (by decide +kernel)) ggL_apart_L_place
theorem dL_apart_0 : decode cL_apart 0 = .ok (.aload_n 0, 1) := by decide +kernel
theorem dL_apart_1 : decode cL_apart 1 = .ok (.aload_n 1, 1) := by decide +kernel
theorem dL_apart_2 : decode cL_apart 2 = .ok (.iload_n 2, 1) := by decide +kernel
theorem dL_apart_3 : decode cL_apart 3 = .ok (.invokestatic 9, 3) := by decide +kernel
theorem dL_apart_6 : decode cL_apart 6 = .ok (.istore 4, 2) := by decide +kernel
theorem dL_apart_8 : decode cL_apart 8 = .ok (.aload_n 0, 1) := by decide +kernel
theorem dL_apart_9 : decode cL_apart 9 = .ok (.aload_n 1, 1) := by decide +kernel
theorem dL_apart_10 : decode cL_apart 10 = .ok (.iload_n 3, 1) := by decide +kernel
theorem dL_apart_11 : decode cL_apart 11 = .ok (.invokestatic 9, 3) := by decide +kernel
theorem dL_apart_14 : decode cL_apart 14 = .ok (.istore 5, 2) := by decide +kernel
theorem dL_apart_16 : decode cL_apart 16 = .ok (.iload 4, 2) := by decide +kernel
theorem dL_apart_18 : decode cL_apart 18 = .ok (.iload 5, 2) := by decide +kernel
theorem dL_apart_20 : decode cL_apart 20 = .ok (.if_icmp .le 11, 3) := by decide +kernel
theorem dL_apart_23 : decode cL_apart 23 = .ok (.iload 4, 2) := by decide +kernel
theorem dL_apart_25 : decode cL_apart 25 = .ok (.iload 5, 2) := by decide +kernel
theorem dL_apart_27 : decode cL_apart 27 = .ok (.isub, 1) := by decide +kernel
theorem dL_apart_28 : decode cL_apart 28 = .ok (.goto 8, 3) := by decide +kernel
theorem dL_apart_31 : decode cL_apart 31 = .ok (.iload 5, 2) := by decide +kernel
theorem dL_apart_33 : decode cL_apart 33 = .ok (.iload 4, 2) := by decide +kernel
theorem dL_apart_35 : decode cL_apart 35 = .ok (.isub, 1) := by decide +kernel
theorem dL_apart_36 : decode cL_apart 36 = .ok (.ireturn, 1) := by decide +kernel
set_option maxRecDepth 20000 in
theorem ggL_isClose_L_apart : GoodIn wsL_isClose wsL_apart := goodIn_r _ [4, 5, 6, 3, 7] (by decide +kernel) (by decide +kernel)
set_option maxRecDepth 20000 in
theorem gL_isClose_L_apart : GoodIn wsL_isClose (va_wsS RL 15 yL_apart wsL_apart) := goodIn_app (goodIn_of _ (by decide +kernel)) ggL_isClose_L_apart
theorem dL_isClose_0 : decode cL_isClose 0 = .ok (.iconst 0, 1) := by decide +kernel
theorem dL_isClose_1 : decode cL_isClose 1 = .ok (.istore 5, 2) := by decide +kernel
theorem dL_isClose_3 : decode cL_isClose 3 = .ok (.iload 4, 2) := by decide +kernel
theorem dL_isClose_5 : decode cL_isClose 5 = .ok (.iconst 1, 1) := by decide +kernel
theorem dL_isClose_6 : decode cL_isClose 6 = .ok (.isub, 1) := by decide +kernel
theorem dL_isClose_7 : decode cL_isClose 7 = .ok (.istore 6, 2) := by decide +kernel
theorem dL_isClose_9 : decode cL_isClose 9 = .ok (.iload 6, 2) := by decide +kernel
theorem dL_isClose_11 : decode cL_isClose 11 = .ok (.ifCond .lt 77, 3) := by decide +kernel
theorem dL_isClose_14 : decode cL_isClose 14 = .ok (.aload_n 0, 1) := by decide +kernel
theorem dL_isClose_15 : decode cL_isClose 15 = .ok (.bipush 8, 2) := by decide +kernel
theorem dL_isClose_17 : decode cL_isClose 17 = .ok (.iload 6, 2) := by decide +kernel
theorem dL_isClose_19 : decode cL_isClose 19 = .ok (.imul, 1) := by decide +kernel
theorem dL_isClose_20 : decode cL_isClose 20 = .ok (.iconst 2, 1) := by decide +kernel
theorem dL_isClose_21 : decode cL_isClose 21 = .ok (.iadd, 1) := by decide +kernel
theorem dL_isClose_22 : decode cL_isClose 22 = .ok (.iaload, 1) := by decide +kernel
theorem dL_isClose_23 : decode cL_isClose 23 = .ok (.aload_n 0, 1) := by decide +kernel
theorem dL_isClose_24 : decode cL_isClose 24 = .ok (.bipush 8, 2) := by decide +kernel
theorem dL_isClose_26 : decode cL_isClose 26 = .ok (.iload_n 3, 1) := by decide +kernel
theorem dL_isClose_27 : decode cL_isClose 27 = .ok (.imul, 1) := by decide +kernel
theorem dL_isClose_28 : decode cL_isClose 28 = .ok (.iconst 2, 1) := by decide +kernel
theorem dL_isClose_29 : decode cL_isClose 29 = .ok (.iadd, 1) := by decide +kernel
theorem dL_isClose_30 : decode cL_isClose 30 = .ok (.iaload, 1) := by decide +kernel
theorem dL_isClose_31 : decode cL_isClose 31 = .ok (.iadd, 1) := by decide +kernel
theorem dL_isClose_32 : decode cL_isClose 32 = .ok (.aload_n 2, 1) := by decide +kernel
theorem dL_isClose_33 : decode cL_isClose 33 = .ok (.iconst 4, 1) := by decide +kernel
theorem dL_isClose_34 : decode cL_isClose 34 = .ok (.iaload, 1) := by decide +kernel
theorem dL_isClose_35 : decode cL_isClose 35 = .ok (.iadd, 1) := by decide +kernel
theorem dL_isClose_36 : decode cL_isClose 36 = .ok (.istore 7, 2) := by decide +kernel
theorem dL_isClose_38 : decode cL_isClose 38 = .ok (.iload 5, 2) := by decide +kernel
theorem dL_isClose_40 : decode cL_isClose 40 = .ok (.ifCond .ne 35, 3) := by decide +kernel
theorem dL_isClose_43 : decode cL_isClose 43 = .ok (.iload 6, 2) := by decide +kernel
theorem dL_isClose_45 : decode cL_isClose 45 = .ok (.iload_n 3, 1) := by decide +kernel
theorem dL_isClose_46 : decode cL_isClose 46 = .ok (.if_icmp .eq 33, 3) := by decide +kernel
theorem dL_isClose_49 : decode cL_isClose 49 = .ok (.aload_n 0, 1) := by decide +kernel
theorem dL_isClose_50 : decode cL_isClose 50 = .ok (.bipush 8, 2) := by decide +kernel
theorem dL_isClose_52 : decode cL_isClose 52 = .ok (.iload 6, 2) := by decide +kernel
theorem dL_isClose_54 : decode cL_isClose 54 = .ok (.imul, 1) := by decide +kernel
theorem dL_isClose_55 : decode cL_isClose 55 = .ok (.iconst 3, 1) := by decide +kernel
theorem dL_isClose_56 : decode cL_isClose 56 = .ok (.iadd, 1) := by decide +kernel
theorem dL_isClose_57 : decode cL_isClose 57 = .ok (.iaload, 1) := by decide +kernel
theorem dL_isClose_58 : decode cL_isClose 58 = .ok (.iconst 1, 1) := by decide +kernel
theorem dL_isClose_59 : decode cL_isClose 59 = .ok (.if_icmp .ne 20, 3) := by decide +kernel
theorem dL_isClose_62 : decode cL_isClose 62 = .ok (.aload_n 0, 1) := by decide +kernel
theorem dL_isClose_63 : decode cL_isClose 63 = .ok (.aload_n 1, 1) := by decide +kernel
theorem dL_isClose_64 : decode cL_isClose 64 = .ok (.iload 6, 2) := by decide +kernel
theorem dL_isClose_66 : decode cL_isClose 66 = .ok (.iload_n 3, 1) := by decide +kernel
theorem dL_isClose_67 : decode cL_isClose 67 = .ok (.invokestatic 15, 3) := by decide +kernel
theorem dL_isClose_70 : decode cL_isClose 70 = .ok (.iload 7, 2) := by decide +kernel
theorem dL_isClose_72 : decode cL_isClose 72 = .ok (.if_icmp .ge 7, 3) := by decide +kernel
theorem dL_isClose_75 : decode cL_isClose 75 = .ok (.iconst 1, 1) := by decide +kernel
theorem dL_isClose_76 : decode cL_isClose 76 = .ok (.goto 4, 3) := by decide +kernel
theorem dL_isClose_79 : decode cL_isClose 79 = .ok (.iconst 0, 1) := by decide +kernel
theorem dL_isClose_80 : decode cL_isClose 80 = .ok (.istore 5, 2) := by decide +kernel
theorem dL_isClose_82 : decode cL_isClose 82 = .ok (.iinc 6 (-1), 3) := by decide +kernel
theorem dL_isClose_85 : decode cL_isClose 85 = .ok (.goto (-76), 3) := by decide +kernel
theorem dL_isClose_88 : decode cL_isClose 88 = .ok (.iload 5, 2) := by decide +kernel
theorem dL_isClose_90 : decode cL_isClose 90 = .ok (.ireturn, 1) := by decide +kernel
theorem dL_load_0 : decode cL_load 0 = .ok (.iconst 0, 1) := by decide +kernel
theorem dL_load_1 : decode cL_load 1 = .ok (.istore_n 3, 1) := by decide +kernel
theorem dL_load_2 : decode cL_load 2 = .ok (.iconst 0, 1) := by decide +kernel
theorem dL_load_3 : decode cL_load 3 = .ok (.istore 4, 2) := by decide +kernel
theorem dL_load_5 : decode cL_load 5 = .ok (.iload 4, 2) := by decide +kernel
theorem dL_load_7 : decode cL_load 7 = .ok (.aload_n 1, 1) := by decide +kernel
theorem dL_load_8 : decode cL_load 8 = .ok (.iconst 0, 1) := by decide +kernel
theorem dL_load_9 : decode cL_load 9 = .ok (.iaload, 1) := by decide +kernel
theorem dL_load_10 : decode cL_load 10 = .ok (.if_icmp .ge 65, 3) := by decide +kernel
theorem dL_load_13 : decode cL_load 13 = .ok (.iload_n 3, 1) := by decide +kernel
theorem dL_load_14 : decode cL_load 14 = .ok (.aload_n 0, 1) := by decide +kernel
theorem dL_load_15 : decode cL_load 15 = .ok (.bipush 8, 2) := by decide +kernel
theorem dL_load_17 : decode cL_load 17 = .ok (.iload 4, 2) := by decide +kernel
theorem dL_load_19 : decode cL_load 19 = .ok (.imul, 1) := by decide +kernel
theorem dL_load_20 : decode cL_load 20 = .ok (.iconst 5, 1) := by decide +kernel
theorem dL_load_21 : decode cL_load 21 = .ok (.iadd, 1) := by decide +kernel
theorem dL_load_22 : decode cL_load 22 = .ok (.iaload, 1) := by decide +kernel
theorem dL_load_23 : decode cL_load 23 = .ok (.iload_n 2, 1) := by decide +kernel
theorem dL_load_24 : decode cL_load 24 = .ok (.if_icmp .ne 42, 3) := by decide +kernel
theorem dL_load_27 : decode cL_load 27 = .ok (.bipush 20, 2) := by decide +kernel
theorem dL_load_29 : decode cL_load 29 = .ok (.aload_n 0, 1) := by decide +kernel
theorem dL_load_30 : decode cL_load 30 = .ok (.bipush 8, 2) := by decide +kernel
theorem dL_load_32 : decode cL_load 32 = .ok (.iload 4, 2) := by decide +kernel
theorem dL_load_34 : decode cL_load 34 = .ok (.imul, 1) := by decide +kernel
theorem dL_load_35 : decode cL_load 35 = .ok (.iaload, 1) := by decide +kernel
theorem dL_load_36 : decode cL_load 36 = .ok (.imul, 1) := by decide +kernel
theorem dL_load_37 : decode cL_load 37 = .ok (.bipush 30, 2) := by decide +kernel
theorem dL_load_39 : decode cL_load 39 = .ok (.aload_n 0, 1) := by decide +kernel
theorem dL_load_40 : decode cL_load 40 = .ok (.bipush 8, 2) := by decide +kernel
theorem dL_load_42 : decode cL_load 42 = .ok (.iload 4, 2) := by decide +kernel
theorem dL_load_44 : decode cL_load 44 = .ok (.imul, 1) := by decide +kernel
theorem dL_load_45 : decode cL_load 45 = .ok (.iconst 1, 1) := by decide +kernel
theorem dL_load_46 : decode cL_load 46 = .ok (.iadd, 1) := by decide +kernel
theorem dL_load_47 : decode cL_load 47 = .ok (.iaload, 1) := by decide +kernel
theorem dL_load_48 : decode cL_load 48 = .ok (.imul, 1) := by decide +kernel
theorem dL_load_49 : decode cL_load 49 = .ok (.iadd, 1) := by decide +kernel
theorem dL_load_50 : decode cL_load 50 = .ok (.bipush 50, 2) := by decide +kernel
theorem dL_load_52 : decode cL_load 52 = .ok (.aload_n 0, 1) := by decide +kernel
theorem dL_load_53 : decode cL_load 53 = .ok (.bipush 8, 2) := by decide +kernel
theorem dL_load_55 : decode cL_load 55 = .ok (.iload 4, 2) := by decide +kernel
theorem dL_load_57 : decode cL_load 57 = .ok (.imul, 1) := by decide +kernel
theorem dL_load_58 : decode cL_load 58 = .ok (.iconst 2, 1) := by decide +kernel
theorem dL_load_59 : decode cL_load 59 = .ok (.iadd, 1) := by decide +kernel
theorem dL_load_60 : decode cL_load 60 = .ok (.iaload, 1) := by decide +kernel
theorem dL_load_61 : decode cL_load 61 = .ok (.imul, 1) := by decide +kernel
theorem dL_load_62 : decode cL_load 62 = .ok (.iadd, 1) := by decide +kernel
theorem dL_load_63 : decode cL_load 63 = .ok (.goto 4, 3) := by decide +kernel
theorem dL_load_66 : decode cL_load 66 = .ok (.iconst 0, 1) := by decide +kernel
theorem dL_load_67 : decode cL_load 67 = .ok (.iadd, 1) := by decide +kernel
theorem dL_load_68 : decode cL_load 68 = .ok (.istore_n 3, 1) := by decide +kernel
theorem dL_load_69 : decode cL_load 69 = .ok (.iinc 4 1, 3) := by decide +kernel
theorem dL_load_72 : decode cL_load 72 = .ok (.goto (-67), 3) := by decide +kernel
theorem dL_load_75 : decode cL_load 75 = .ok (.iload_n 3, 1) := by decide +kernel
theorem dL_load_76 : decode cL_load 76 = .ok (.ireturn, 1) := by decide +kernel
set_option maxRecDepth 20000 in
theorem ggL_minute_L_isClose : GoodIn wsL_minute wsL_isClose := goodIn_r _ [4, 5, 6, 3, 7, 8, 9, 10] (by decide +kernel) (by decide +kernel)
set_option maxRecDepth 20000 in
theorem gL_minute_L_isClose : GoodIn wsL_minute (va_wsS RL 19 yL_isClose wsL_isClose) := goodIn_app (goodIn_of _ (by decide +kernel)) ggL_minute_L_isClose
theorem dL_minute_0 : decode cL_minute 0 = .ok (.iconst 0, 1) := by decide +kernel
theorem dL_minute_1 : decode cL_minute 1 = .ok (.istore 5, 2) := by decide +kernel
theorem dL_minute_3 : decode cL_minute 3 = .ok (.aload 4, 2) := by decide +kernel
theorem dL_minute_5 : decode cL_minute 5 = .ok (.iconst 5, 1) := by decide +kernel
theorem dL_minute_6 : decode cL_minute 6 = .ok (.dup2, 1) := by decide +kernel
theorem dL_minute_7 : decode cL_minute 7 = .ok (.iaload, 1) := by decide +kernel
theorem dL_minute_8 : decode cL_minute 8 = .ok (.iconst 1, 1) := by decide +kernel
theorem dL_minute_9 : decode cL_minute 9 = .ok (.iadd, 1) := by decide +kernel
theorem dL_minute_10 : decode cL_minute 10 = .ok (.iastore, 1) := by decide +kernel
theorem dL_minute_11 : decode cL_minute 11 = .ok (.iconst 0, 1) := by decide +kernel
theorem dL_minute_12 : decode cL_minute 12 = .ok (.istore 6, 2) := by decide +kernel
theorem dL_minute_14 : decode cL_minute 14 = .ok (.iload 6, 2) := by decide +kernel
theorem dL_minute_16 : decode cL_minute 16 = .ok (.aload 4, 2) := by decide +kernel
theorem dL_minute_18 : decode cL_minute 18 = .ok (.iconst 2, 1) := by decide +kernel
theorem dL_minute_19 : decode cL_minute 19 = .ok (.iaload, 1) := by decide +kernel
theorem dL_minute_20 : decode cL_minute 20 = .ok (.if_icmp .ge 93, 3) := by decide +kernel
theorem dL_minute_23 : decode cL_minute 23 = .ok (.iconst 4, 1) := by decide +kernel
theorem dL_minute_24 : decode cL_minute 24 = .ok (.aload_n 2, 1) := by decide +kernel
theorem dL_minute_25 : decode cL_minute 25 = .ok (.iload 6, 2) := by decide +kernel
theorem dL_minute_27 : decode cL_minute 27 = .ok (.iaload, 1) := by decide +kernel
theorem dL_minute_28 : decode cL_minute 28 = .ok (.imul, 1) := by decide +kernel
theorem dL_minute_29 : decode cL_minute 29 = .ok (.istore 7, 2) := by decide +kernel
theorem dL_minute_31 : decode cL_minute 31 = .ok (.aload_n 1, 1) := by decide +kernel
theorem dL_minute_32 : decode cL_minute 32 = .ok (.iload 7, 2) := by decide +kernel
theorem dL_minute_34 : decode cL_minute 34 = .ok (.iaload, 1) := by decide +kernel
theorem dL_minute_35 : decode cL_minute 35 = .ok (.istore 8, 2) := by decide +kernel
theorem dL_minute_37 : decode cL_minute 37 = .ok (.iload 6, 2) := by decide +kernel
theorem dL_minute_39 : decode cL_minute 39 = .ok (.ifCond .le 57, 3) := by decide +kernel
theorem dL_minute_42 : decode cL_minute 42 = .ok (.aload_n 1, 1) := by decide +kernel
theorem dL_minute_43 : decode cL_minute 43 = .ok (.iconst 4, 1) := by decide +kernel
theorem dL_minute_44 : decode cL_minute 44 = .ok (.aload_n 2, 1) := by decide +kernel
theorem dL_minute_45 : decode cL_minute 45 = .ok (.iload 6, 2) := by decide +kernel
theorem dL_minute_47 : decode cL_minute 47 = .ok (.iconst 1, 1) := by decide +kernel
theorem dL_minute_48 : decode cL_minute 48 = .ok (.isub, 1) := by decide +kernel
theorem dL_minute_49 : decode cL_minute 49 = .ok (.iaload, 1) := by decide +kernel
theorem dL_minute_50 : decode cL_minute 50 = .ok (.imul, 1) := by decide +kernel
theorem dL_minute_51 : decode cL_minute 51 = .ok (.iconst 3, 1) := by decide +kernel
theorem dL_minute_52 : decode cL_minute 52 = .ok (.iadd, 1) := by decide +kernel
theorem dL_minute_53 : decode cL_minute 53 = .ok (.iaload, 1) := by decide +kernel
theorem dL_minute_54 : decode cL_minute 54 = .ok (.bipush 9, 2) := by decide +kernel
theorem dL_minute_56 : decode cL_minute 56 = .ok (.isub, 1) := by decide +kernel
theorem dL_minute_57 : decode cL_minute 57 = .ok (.aload 4, 2) := by decide +kernel
theorem dL_minute_59 : decode cL_minute 59 = .ok (.iconst 3, 1) := by decide +kernel
theorem dL_minute_60 : decode cL_minute 60 = .ok (.iaload, 1) := by decide +kernel
theorem dL_minute_61 : decode cL_minute 61 = .ok (.isub, 1) := by decide +kernel
theorem dL_minute_62 : decode cL_minute 62 = .ok (.aload_n 1, 1) := by decide +kernel
theorem dL_minute_63 : decode cL_minute 63 = .ok (.iload 7, 2) := by decide +kernel
theorem dL_minute_65 : decode cL_minute 65 = .ok (.iconst 3, 1) := by decide +kernel
theorem dL_minute_66 : decode cL_minute 66 = .ok (.iadd, 1) := by decide +kernel
theorem dL_minute_67 : decode cL_minute 67 = .ok (.iaload, 1) := by decide +kernel
theorem dL_minute_68 : decode cL_minute 68 = .ok (.isub, 1) := by decide +kernel
theorem dL_minute_69 : decode cL_minute 69 = .ok (.istore 9, 2) := by decide +kernel
theorem dL_minute_71 : decode cL_minute 71 = .ok (.iload 9, 2) := by decide +kernel
theorem dL_minute_73 : decode cL_minute 73 = .ok (.ifCond .ge 7, 3) := by decide +kernel
theorem dL_minute_76 : decode cL_minute 76 = .ok (.iconst 0, 1) := by decide +kernel
theorem dL_minute_77 : decode cL_minute 77 = .ok (.goto 17, 3) := by decide +kernel
theorem dL_minute_80 : decode cL_minute 80 = .ok (.iload 9, 2) := by decide +kernel
theorem dL_minute_82 : decode cL_minute 82 = .ok (.iload 8, 2) := by decide +kernel
theorem dL_minute_84 : decode cL_minute 84 = .ok (.if_icmp .ge 8, 3) := by decide +kernel
theorem dL_minute_87 : decode cL_minute 87 = .ok (.iload 9, 2) := by decide +kernel
theorem dL_minute_89 : decode cL_minute 89 = .ok (.goto 5, 3) := by decide +kernel
theorem dL_minute_92 : decode cL_minute 92 = .ok (.iload 8, 2) := by decide +kernel
theorem dL_minute_94 : decode cL_minute 94 = .ok (.istore 8, 2) := by decide +kernel
theorem dL_minute_96 : decode cL_minute 96 = .ok (.aload_n 1, 1) := by decide +kernel
theorem dL_minute_97 : decode cL_minute 97 = .ok (.iload 7, 2) := by decide +kernel
theorem dL_minute_99 : decode cL_minute 99 = .ok (.iconst 3, 1) := by decide +kernel
theorem dL_minute_100 : decode cL_minute 100 = .ok (.iadd, 1) := by decide +kernel
theorem dL_minute_101 : decode cL_minute 101 = .ok (.dup2, 1) := by decide +kernel
theorem dL_minute_102 : decode cL_minute 102 = .ok (.iaload, 1) := by decide +kernel
theorem dL_minute_103 : decode cL_minute 103 = .ok (.iload 8, 2) := by decide +kernel
theorem dL_minute_105 : decode cL_minute 105 = .ok (.iadd, 1) := by decide +kernel
theorem dL_minute_106 : decode cL_minute 106 = .ok (.iastore, 1) := by decide +kernel
theorem dL_minute_107 : decode cL_minute 107 = .ok (.iinc 6 1, 3) := by decide +kernel
theorem dL_minute_110 : decode cL_minute 110 = .ok (.goto (-96), 3) := by decide +kernel
theorem dL_minute_113 : decode cL_minute 113 = .ok (.aload 4, 2) := by decide +kernel
theorem dL_minute_115 : decode cL_minute 115 = .ok (.iconst 2, 1) := by decide +kernel
theorem dL_minute_116 : decode cL_minute 116 = .ok (.iaload, 1) := by decide +kernel
theorem dL_minute_117 : decode cL_minute 117 = .ok (.ifCond .le 167, 3) := by decide +kernel
theorem dL_minute_120 : decode cL_minute 120 = .ok (.aload_n 1, 1) := by decide +kernel
theorem dL_minute_121 : decode cL_minute 121 = .ok (.iconst 4, 1) := by decide +kernel
theorem dL_minute_122 : decode cL_minute 122 = .ok (.aload_n 2, 1) := by decide +kernel
theorem dL_minute_123 : decode cL_minute 123 = .ok (.iconst 0, 1) := by decide +kernel
theorem dL_minute_124 : decode cL_minute 124 = .ok (.iaload, 1) := by decide +kernel
theorem dL_minute_125 : decode cL_minute 125 = .ok (.imul, 1) := by decide +kernel
theorem dL_minute_126 : decode cL_minute 126 = .ok (.iconst 3, 1) := by decide +kernel
theorem dL_minute_127 : decode cL_minute 127 = .ok (.iadd, 1) := by decide +kernel
theorem dL_minute_128 : decode cL_minute 128 = .ok (.iaload, 1) := by decide +kernel
theorem dL_minute_129 : decode cL_minute 129 = .ok (.sipush 500, 3) := by decide +kernel
theorem dL_minute_132 : decode cL_minute 132 = .ok (.if_icmp .lt 152, 3) := by decide +kernel
theorem dL_minute_135 : decode cL_minute 135 = .ok (.aload_n 2, 1) := by decide +kernel
theorem dL_minute_136 : decode cL_minute 136 = .ok (.iconst 0, 1) := by decide +kernel
theorem dL_minute_137 : decode cL_minute 137 = .ok (.iaload, 1) := by decide +kernel
theorem dL_minute_138 : decode cL_minute 138 = .ok (.istore 6, 2) := by decide +kernel
theorem dL_minute_140 : decode cL_minute 140 = .ok (.aload_n 1, 1) := by decide +kernel
theorem dL_minute_141 : decode cL_minute 141 = .ok (.iconst 4, 1) := by decide +kernel
theorem dL_minute_142 : decode cL_minute 142 = .ok (.iload 6, 2) := by decide +kernel
theorem dL_minute_144 : decode cL_minute 144 = .ok (.imul, 1) := by decide +kernel
theorem dL_minute_145 : decode cL_minute 145 = .ok (.iconst 2, 1) := by decide +kernel
theorem dL_minute_146 : decode cL_minute 146 = .ok (.iadd, 1) := by decide +kernel
theorem dL_minute_147 : decode cL_minute 147 = .ok (.iconst 2, 1) := by decide +kernel
theorem dL_minute_148 : decode cL_minute 148 = .ok (.iastore, 1) := by decide +kernel
theorem dL_minute_149 : decode cL_minute 149 = .ok (.iconst 0, 1) := by decide +kernel
theorem dL_minute_150 : decode cL_minute 150 = .ok (.istore 7, 2) := by decide +kernel
theorem dL_minute_152 : decode cL_minute 152 = .ok (.iload 7, 2) := by decide +kernel
theorem dL_minute_154 : decode cL_minute 154 = .ok (.iconst 1, 1) := by decide +kernel
theorem dL_minute_155 : decode cL_minute 155 = .ok (.iadd, 1) := by decide +kernel
theorem dL_minute_156 : decode cL_minute 156 = .ok (.aload 4, 2) := by decide +kernel
theorem dL_minute_158 : decode cL_minute 158 = .ok (.iconst 2, 1) := by decide +kernel
theorem dL_minute_159 : decode cL_minute 159 = .ok (.iaload, 1) := by decide +kernel
theorem dL_minute_160 : decode cL_minute 160 = .ok (.if_icmp .ge 19, 3) := by decide +kernel
theorem dL_minute_163 : decode cL_minute 163 = .ok (.aload_n 2, 1) := by decide +kernel
theorem dL_minute_164 : decode cL_minute 164 = .ok (.iload 7, 2) := by decide +kernel
theorem dL_minute_166 : decode cL_minute 166 = .ok (.aload_n 2, 1) := by decide +kernel
theorem dL_minute_167 : decode cL_minute 167 = .ok (.iload 7, 2) := by decide +kernel
theorem dL_minute_169 : decode cL_minute 169 = .ok (.iconst 1, 1) := by decide +kernel
theorem dL_minute_170 : decode cL_minute 170 = .ok (.iadd, 1) := by decide +kernel
theorem dL_minute_171 : decode cL_minute 171 = .ok (.iaload, 1) := by decide +kernel
theorem dL_minute_172 : decode cL_minute 172 = .ok (.iastore, 1) := by decide +kernel
theorem dL_minute_173 : decode cL_minute 173 = .ok (.iinc 7 1, 3) := by decide +kernel
theorem dL_minute_176 : decode cL_minute 176 = .ok (.goto (-24), 3) := by decide +kernel
theorem dL_minute_179 : decode cL_minute 179 = .ok (.aload 4, 2) := by decide +kernel
theorem dL_minute_181 : decode cL_minute 181 = .ok (.iconst 2, 1) := by decide +kernel
theorem dL_minute_182 : decode cL_minute 182 = .ok (.dup2, 1) := by decide +kernel
theorem dL_minute_183 : decode cL_minute 183 = .ok (.iaload, 1) := by decide +kernel
theorem dL_minute_184 : decode cL_minute 184 = .ok (.iconst 1, 1) := by decide +kernel
theorem dL_minute_185 : decode cL_minute 185 = .ok (.isub, 1) := by decide +kernel
theorem dL_minute_186 : decode cL_minute 186 = .ok (.iastore, 1) := by decide +kernel
theorem dL_minute_187 : decode cL_minute 187 = .ok (.iconst 0, 1) := by decide +kernel
theorem dL_minute_188 : decode cL_minute 188 = .ok (.istore 7, 2) := by decide +kernel
theorem dL_minute_190 : decode cL_minute 190 = .ok (.iload 7, 2) := by decide +kernel
theorem dL_minute_192 : decode cL_minute 192 = .ok (.aload 4, 2) := by decide +kernel
theorem dL_minute_194 : decode cL_minute 194 = .ok (.iconst 0, 1) := by decide +kernel
theorem dL_minute_195 : decode cL_minute 195 = .ok (.iaload, 1) := by decide +kernel
theorem dL_minute_196 : decode cL_minute 196 = .ok (.if_icmp .ge 85, 3) := by decide +kernel
theorem dL_minute_199 : decode cL_minute 199 = .ok (.aload_n 0, 1) := by decide +kernel
theorem dL_minute_200 : decode cL_minute 200 = .ok (.bipush 8, 2) := by decide +kernel
theorem dL_minute_202 : decode cL_minute 202 = .ok (.iload 7, 2) := by decide +kernel
theorem dL_minute_204 : decode cL_minute 204 = .ok (.imul, 1) := by decide +kernel
theorem dL_minute_205 : decode cL_minute 205 = .ok (.iconst 5, 1) := by decide +kernel
theorem dL_minute_206 : decode cL_minute 206 = .ok (.iadd, 1) := by decide +kernel
theorem dL_minute_207 : decode cL_minute 207 = .ok (.iaload, 1) := by decide +kernel
theorem dL_minute_208 : decode cL_minute 208 = .ok (.iload 6, 2) := by decide +kernel
theorem dL_minute_210 : decode cL_minute 210 = .ok (.if_icmp .ne 20, 3) := by decide +kernel
theorem dL_minute_213 : decode cL_minute 213 = .ok (.aload_n 0, 1) := by decide +kernel
theorem dL_minute_214 : decode cL_minute 214 = .ok (.bipush 8, 2) := by decide +kernel
theorem dL_minute_216 : decode cL_minute 216 = .ok (.iload 7, 2) := by decide +kernel
theorem dL_minute_218 : decode cL_minute 218 = .ok (.imul, 1) := by decide +kernel
theorem dL_minute_219 : decode cL_minute 219 = .ok (.iconst 3, 1) := by decide +kernel
theorem dL_minute_220 : decode cL_minute 220 = .ok (.iadd, 1) := by decide +kernel
theorem dL_minute_221 : decode cL_minute 221 = .ok (.iaload, 1) := by decide +kernel
theorem dL_minute_222 : decode cL_minute 222 = .ok (.iconst 1, 1) := by decide +kernel
theorem dL_minute_223 : decode cL_minute 223 = .ok (.if_icmp .ne 7, 3) := by decide +kernel
theorem dL_minute_226 : decode cL_minute 226 = .ok (.iconst 1, 1) := by decide +kernel
theorem dL_minute_227 : decode cL_minute 227 = .ok (.goto 4, 3) := by decide +kernel
theorem dL_minute_230 : decode cL_minute 230 = .ok (.iconst 0, 1) := by decide +kernel
theorem dL_minute_231 : decode cL_minute 231 = .ok (.istore 8, 2) := by decide +kernel
theorem dL_minute_233 : decode cL_minute 233 = .ok (.iload 5, 2) := by decide +kernel
theorem dL_minute_235 : decode cL_minute 235 = .ok (.iload 8, 2) := by decide +kernel
theorem dL_minute_237 : decode cL_minute 237 = .ok (.ifCond .eq 7, 3) := by decide +kernel
theorem dL_minute_240 : decode cL_minute 240 = .ok (.iconst 1, 1) := by decide +kernel
theorem dL_minute_241 : decode cL_minute 241 = .ok (.goto 4, 3) := by decide +kernel
theorem dL_minute_244 : decode cL_minute 244 = .ok (.iconst 0, 1) := by decide +kernel
theorem dL_minute_245 : decode cL_minute 245 = .ok (.iadd, 1) := by decide +kernel
theorem dL_minute_246 : decode cL_minute 246 = .ok (.istore 5, 2) := by decide +kernel
theorem dL_minute_248 : decode cL_minute 248 = .ok (.aload_n 0, 1) := by decide +kernel
theorem dL_minute_249 : decode cL_minute 249 = .ok (.bipush 8, 2) := by decide +kernel
theorem dL_minute_251 : decode cL_minute 251 = .ok (.iload 7, 2) := by decide +kernel
theorem dL_minute_253 : decode cL_minute 253 = .ok (.imul, 1) := by decide +kernel
theorem dL_minute_254 : decode cL_minute 254 = .ok (.iconst 3, 1) := by decide +kernel
theorem dL_minute_255 : decode cL_minute 255 = .ok (.iadd, 1) := by decide +kernel
theorem dL_minute_256 : decode cL_minute 256 = .ok (.iload 8, 2) := by decide +kernel
theorem dL_minute_258 : decode cL_minute 258 = .ok (.ifCond .eq 7, 3) := by decide +kernel
theorem dL_minute_261 : decode cL_minute 261 = .ok (.iconst 0, 1) := by decide +kernel
theorem dL_minute_262 : decode cL_minute 262 = .ok (.goto 12, 3) := by decide +kernel
theorem dL_minute_265 : decode cL_minute 265 = .ok (.aload_n 0, 1) := by decide +kernel
theorem dL_minute_266 : decode cL_minute 266 = .ok (.bipush 8, 2) := by decide +kernel
theorem dL_minute_268 : decode cL_minute 268 = .ok (.iload 7, 2) := by decide +kernel
theorem dL_minute_270 : decode cL_minute 270 = .ok (.imul, 1) := by decide +kernel
theorem dL_minute_271 : decode cL_minute 271 = .ok (.iconst 3, 1) := by decide +kernel
theorem dL_minute_272 : decode cL_minute 272 = .ok (.iadd, 1) := by decide +kernel
theorem dL_minute_273 : decode cL_minute 273 = .ok (.iaload, 1) := by decide +kernel
theorem dL_minute_274 : decode cL_minute 274 = .ok (.iastore, 1) := by decide +kernel
theorem dL_minute_275 : decode cL_minute 275 = .ok (.iinc 7 1, 3) := by decide +kernel
theorem dL_minute_278 : decode cL_minute 278 = .ok (.goto (-88), 3) := by decide +kernel
theorem dL_minute_281 : decode cL_minute 281 = .ok (.goto (-168), 3) := by decide +kernel
theorem dL_minute_284 : decode cL_minute 284 = .ok (.aload 4, 2) := by decide +kernel
theorem dL_minute_286 : decode cL_minute 286 = .ok (.iconst 5, 1) := by decide +kernel
theorem dL_minute_287 : decode cL_minute 287 = .ok (.iaload, 1) := by decide +kernel
theorem dL_minute_288 : decode cL_minute 288 = .ok (.bipush 64, 2) := by decide +kernel
theorem dL_minute_290 : decode cL_minute 290 = .ok (.if_icmp .ge 12, 3) := by decide +kernel
theorem dL_minute_293 : decode cL_minute 293 = .ok (.aload_n 3, 1) := by decide +kernel
theorem dL_minute_294 : decode cL_minute 294 = .ok (.aload 4, 2) := by decide +kernel
theorem dL_minute_296 : decode cL_minute 296 = .ok (.iconst 5, 1) := by decide +kernel
theorem dL_minute_297 : decode cL_minute 297 = .ok (.iaload, 1) := by decide +kernel
theorem dL_minute_298 : decode cL_minute 298 = .ok (.iaload, 1) := by decide +kernel
theorem dL_minute_299 : decode cL_minute 299 = .ok (.goto 4, 3) := by decide +kernel
theorem dL_minute_302 : decode cL_minute 302 = .ok (.iconst 0, 1) := by decide +kernel
theorem dL_minute_303 : decode cL_minute 303 = .ok (.istore 6, 2) := by decide +kernel
theorem dL_minute_305 : decode cL_minute 305 = .ok (.iconst 0, 1) := by decide +kernel
theorem dL_minute_306 : decode cL_minute 306 = .ok (.istore 7, 2) := by decide +kernel
theorem dL_minute_308 : decode cL_minute 308 = .ok (.iload 7, 2) := by decide +kernel
theorem dL_minute_310 : decode cL_minute 310 = .ok (.aload 4, 2) := by decide +kernel
theorem dL_minute_312 : decode cL_minute 312 = .ok (.iconst 0, 1) := by decide +kernel
theorem dL_minute_313 : decode cL_minute 313 = .ok (.iaload, 1) := by decide +kernel
theorem dL_minute_314 : decode cL_minute 314 = .ok (.if_icmp .ge 113, 3) := by decide +kernel
theorem dL_minute_317 : decode cL_minute 317 = .ok (.aload_n 0, 1) := by decide +kernel
theorem dL_minute_318 : decode cL_minute 318 = .ok (.bipush 8, 2) := by decide +kernel
theorem dL_minute_320 : decode cL_minute 320 = .ok (.iload 7, 2) := by decide +kernel
theorem dL_minute_322 : decode cL_minute 322 = .ok (.imul, 1) := by decide +kernel
theorem dL_minute_323 : decode cL_minute 323 = .ok (.iconst 3, 1) := by decide +kernel
theorem dL_minute_324 : decode cL_minute 324 = .ok (.iadd, 1) := by decide +kernel
theorem dL_minute_325 : decode cL_minute 325 = .ok (.iaload, 1) := by decide +kernel
theorem dL_minute_326 : decode cL_minute 326 = .ok (.iconst 1, 1) := by decide +kernel
theorem dL_minute_327 : decode cL_minute 327 = .ok (.if_icmp .ne 31, 3) := by decide +kernel
theorem dL_minute_330 : decode cL_minute 330 = .ok (.aload_n 0, 1) := by decide +kernel
theorem dL_minute_331 : decode cL_minute 331 = .ok (.bipush 8, 2) := by decide +kernel
theorem dL_minute_333 : decode cL_minute 333 = .ok (.iload 7, 2) := by decide +kernel
theorem dL_minute_335 : decode cL_minute 335 = .ok (.imul, 1) := by decide +kernel
theorem dL_minute_336 : decode cL_minute 336 = .ok (.iconst 1, 1) := by decide +kernel
theorem dL_minute_337 : decode cL_minute 337 = .ok (.iadd, 1) := by decide +kernel
theorem dL_minute_338 : decode cL_minute 338 = .ok (.iaload, 1) := by decide +kernel
theorem dL_minute_339 : decode cL_minute 339 = .ok (.aload_n 0, 1) := by decide +kernel
theorem dL_minute_340 : decode cL_minute 340 = .ok (.bipush 8, 2) := by decide +kernel
theorem dL_minute_342 : decode cL_minute 342 = .ok (.iload 7, 2) := by decide +kernel
theorem dL_minute_344 : decode cL_minute 344 = .ok (.imul, 1) := by decide +kernel
theorem dL_minute_345 : decode cL_minute 345 = .ok (.iaload, 1) := by decide +kernel
theorem dL_minute_346 : decode cL_minute 346 = .ok (.iconst 3, 1) := by decide +kernel
theorem dL_minute_347 : decode cL_minute 347 = .ok (.idiv, 1) := by decide +kernel
theorem dL_minute_348 : decode cL_minute 348 = .ok (.iadd, 1) := by decide +kernel
theorem dL_minute_349 : decode cL_minute 349 = .ok (.iload 6, 2) := by decide +kernel
theorem dL_minute_351 : decode cL_minute 351 = .ok (.if_icmp .ge 7, 3) := by decide +kernel
theorem dL_minute_354 : decode cL_minute 354 = .ok (.iconst 1, 1) := by decide +kernel
theorem dL_minute_355 : decode cL_minute 355 = .ok (.goto 4, 3) := by decide +kernel
theorem dL_minute_358 : decode cL_minute 358 = .ok (.iconst 0, 1) := by decide +kernel
theorem dL_minute_359 : decode cL_minute 359 = .ok (.istore 8, 2) := by decide +kernel
theorem dL_minute_361 : decode cL_minute 361 = .ok (.aload_n 0, 1) := by decide +kernel
theorem dL_minute_362 : decode cL_minute 362 = .ok (.bipush 8, 2) := by decide +kernel
theorem dL_minute_364 : decode cL_minute 364 = .ok (.iload 7, 2) := by decide +kernel
theorem dL_minute_366 : decode cL_minute 366 = .ok (.imul, 1) := by decide +kernel
theorem dL_minute_367 : decode cL_minute 367 = .ok (.iconst 3, 1) := by decide +kernel
theorem dL_minute_368 : decode cL_minute 368 = .ok (.iadd, 1) := by decide +kernel
theorem dL_minute_369 : decode cL_minute 369 = .ok (.iload 8, 2) := by decide +kernel
theorem dL_minute_371 : decode cL_minute 371 = .ok (.ifCond .eq 7, 3) := by decide +kernel
theorem dL_minute_374 : decode cL_minute 374 = .ok (.iconst 0, 1) := by decide +kernel
theorem dL_minute_375 : decode cL_minute 375 = .ok (.goto 12, 3) := by decide +kernel
theorem dL_minute_378 : decode cL_minute 378 = .ok (.aload_n 0, 1) := by decide +kernel
theorem dL_minute_379 : decode cL_minute 379 = .ok (.bipush 8, 2) := by decide +kernel
theorem dL_minute_381 : decode cL_minute 381 = .ok (.iload 7, 2) := by decide +kernel
theorem dL_minute_383 : decode cL_minute 383 = .ok (.imul, 1) := by decide +kernel
theorem dL_minute_384 : decode cL_minute 384 = .ok (.iconst 3, 1) := by decide +kernel
theorem dL_minute_385 : decode cL_minute 385 = .ok (.iadd, 1) := by decide +kernel
theorem dL_minute_386 : decode cL_minute 386 = .ok (.iaload, 1) := by decide +kernel
theorem dL_minute_387 : decode cL_minute 387 = .ok (.iastore, 1) := by decide +kernel
theorem dL_minute_388 : decode cL_minute 388 = .ok (.aload 4, 2) := by decide +kernel
theorem dL_minute_390 : decode cL_minute 390 = .ok (.bipush 6, 2) := by decide +kernel
theorem dL_minute_392 : decode cL_minute 392 = .ok (.dup2, 1) := by decide +kernel
theorem dL_minute_393 : decode cL_minute 393 = .ok (.iaload, 1) := by decide +kernel
theorem dL_minute_394 : decode cL_minute 394 = .ok (.iload 8, 2) := by decide +kernel
theorem dL_minute_396 : decode cL_minute 396 = .ok (.ifCond .eq 7, 3) := by decide +kernel
theorem dL_minute_399 : decode cL_minute 399 = .ok (.iconst 1, 1) := by decide +kernel
theorem dL_minute_400 : decode cL_minute 400 = .ok (.goto 4, 3) := by decide +kernel
theorem dL_minute_403 : decode cL_minute 403 = .ok (.iconst 0, 1) := by decide +kernel
theorem dL_minute_404 : decode cL_minute 404 = .ok (.iadd, 1) := by decide +kernel
theorem dL_minute_405 : decode cL_minute 405 = .ok (.iastore, 1) := by decide +kernel
