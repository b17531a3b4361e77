theorem dX7_refusalOfDuel_24 : decode cX7_refusalOfDuel 24 = .ok (.if_icmp .ne 5, 3) := by decide +kernel
theorem dX7_refusalOfDuel_27 : decode cX7_refusalOfDuel 27 = .ok (.iconst (-1), 1) := by decide +kernel
theorem dX7_refusalOfDuel_28 : decode cX7_refusalOfDuel 28 = .ok (.ireturn, 1) := by decide +kernel
theorem dX7_refusalOfDuel_29 : decode cX7_refusalOfDuel 29 = .ok (.aload_n 0, 1) := by decide +kernel
theorem dX7_refusalOfDuel_30 : decode cX7_refusalOfDuel 30 = .ok (.getfield 27, 3) := by decide +kernel
theorem dX7_refusalOfDuel_33 : decode cX7_refusalOfDuel 33 = .ok (.invokevirtual 164, 3) := by decide +kernel
theorem dX7_refusalOfDuel_36 : decode cX7_refusalOfDuel 36 = .ok (.ifCond .ne 13, 3) := by decide +kernel
theorem dX7_refusalOfDuel_39 : decode cX7_refusalOfDuel 39 = .ok (.aload_n 0, 1) := by decide +kernel
theorem dX7_refusalOfDuel_40 : decode cX7_refusalOfDuel 40 = .ok (.getfield 27, 3) := by decide +kernel
theorem dX7_refusalOfDuel_43 : decode cX7_refusalOfDuel 43 = .ok (.invokevirtual 181, 3) := by decide +kernel
theorem dX7_refusalOfDuel_46 : decode cX7_refusalOfDuel 46 = .ok (.ifCond .eq 8, 3) := by decide +kernel
theorem dX7_refusalOfDuel_49 : decode cX7_refusalOfDuel 49 = .ok (.bipush (-4), 2) := by decide +kernel
theorem dX7_refusalOfDuel_51 : decode cX7_refusalOfDuel 51 = .ok (.goto 4, 3) := by decide +kernel
theorem dX7_refusalOfDuel_54 : decode cX7_refusalOfDuel 54 = .ok (.iconst 0, 1) := by decide +kernel
theorem dX7_refusalOfDuel_55 : decode cX7_refusalOfDuel 55 = .ok (.ireturn, 1) := by decide +kernel
set_option maxRecDepth 20000 in
theorem ggX7_mid_X0_fit : GoodIn wsX7_mid wsX0_fit := goodIn_r _ [8] (by decide +kernel) (by decide +kernel)
set_option maxRecDepth 20000 in
theorem gX7_mid_X0_fit : GoodIn wsX7_mid (va_wsS RX7 267 yX0_fit wsX0_fit) := goodIn_app (goodIn_of _ (by decide +kernel)) ggX7_mid_X0_fit
set_option maxRecDepth 20000 in
theorem ggX7_mid_X2_isEmpty : GoodIn wsX7_mid wsX2_isEmpty := goodIn_r _ [13, 14, 15, 54, 55, 56, 57, 58, 59, 60, 61, 62, 63, 64, 65, 66] (by decide +kernel) (by decide +kernel)
set_option maxRecDepth 20000 in
theorem gX7_mid_X2_isEmpty : GoodIn wsX7_mid (wsV RX7 181 RX2 yX2_isEmpty wsX2_isEmpty) := goodIn_app (goodIn_of _ (by decide +kernel)) ggX7_mid_X2_isEmpty
set_option maxRecDepth 20000 in
theorem ggX7_mid_X0_spread : GoodIn wsX7_mid wsX0_spread := goodIn_r _ [19, 20, 21, 22, 23, 24, 25, 26, 67, 68] (by decide +kernel) (by decide +kernel)
set_option maxRecDepth 20000 in
theorem gX7_mid_X0_spread : GoodIn wsX7_mid (wsV RX7 270 RX0 yX0_spread wsX0_spread) := goodIn_app (goodIn_of _ (by decide +kernel)) ggX7_mid_X0_spread
set_option maxRecDepth 20000 in
theorem ggX7_mid_X0_strainSum : GoodIn wsX7_mid wsX0_strainSum := goodIn_r _ [30, 20, 31, 32, 33, 34, 67, 68] (by decide +kernel) (by decide +kernel)
set_option maxRecDepth 20000 in
theorem gX7_mid_X0_strainSum : GoodIn wsX7_mid (wsV RX7 273 RX0 yX0_strainSum wsX0_strainSum) := goodIn_app (goodIn_of _ (by decide +kernel)) ggX7_mid_X0_strainSum
set_option maxRecDepth 20000 in
theorem ggX7_mid_X7_tellShare : GoodIn wsX7_mid wsX7_tellShare := goodIn_r _ [39, 40, 41, 42, 43, 44, 45, 46, 47, 48, 49, 50, 51, 52, 53] (by decide +kernel) (by decide +kernel)
set_option maxRecDepth 20000 in
theorem gX7_mid_X7_tellShare : GoodIn wsX7_mid (wsV RX7 222 RX7 yX7_tellShare wsX7_tellShare) := goodIn_app (goodIn_of _ (by decide +kernel)) ggX7_mid_X7_tellShare
theorem dX7_mid_0 : decode cX7_mid 0 = .ok (.iload_n 1, 1) := by decide +kernel
theorem dX7_mid_1 : decode cX7_mid 1 = .ok (.iload_n 2, 1) := by decide +kernel
theorem dX7_mid_2 : decode cX7_mid 2 = .ok (.invokestatic 267, 3) := by decide +kernel
theorem dX7_mid_5 : decode cX7_mid 5 = .ok (.ifCond .ne 5, 3) := by decide +kernel
theorem dX7_mid_8 : decode cX7_mid 8 = .ok (.iconst (-1), 1) := by decide +kernel
theorem dX7_mid_9 : decode cX7_mid 9 = .ok (.ireturn, 1) := by decide +kernel
theorem dX7_mid_10 : decode cX7_mid 10 = .ok (.aload_n 0, 1) := by decide +kernel
theorem dX7_mid_11 : decode cX7_mid 11 = .ok (.getfield 27, 3) := by decide +kernel
theorem dX7_mid_14 : decode cX7_mid 14 = .ok (.invokevirtual 181, 3) := by decide +kernel
theorem dX7_mid_17 : decode cX7_mid 17 = .ok (.ifCond .eq 6, 3) := by decide +kernel
theorem dX7_mid_20 : decode cX7_mid 20 = .ok (.bipush (-4), 2) := by decide +kernel
theorem dX7_mid_22 : decode cX7_mid 22 = .ok (.ireturn, 1) := by decide +kernel
theorem dX7_mid_23 : decode cX7_mid 23 = .ok (.aload_n 0, 1) := by decide +kernel
theorem dX7_mid_24 : decode cX7_mid 24 = .ok (.getfield 48, 3) := by decide +kernel
theorem dX7_mid_27 : decode cX7_mid 27 = .ok (.iload_n 1, 1) := by decide +kernel
theorem dX7_mid_28 : decode cX7_mid 28 = .ok (.iload_n 2, 1) := by decide +kernel
theorem dX7_mid_29 : decode cX7_mid 29 = .ok (.invokevirtual 270, 3) := by decide +kernel
theorem dX7_mid_32 : decode cX7_mid 32 = .ok (.aload_n 0, 1) := by decide +kernel
theorem dX7_mid_33 : decode cX7_mid 33 = .ok (.aload_n 0, 1) := by decide +kernel
theorem dX7_mid_34 : decode cX7_mid 34 = .ok (.getfield 48, 3) := by decide +kernel
theorem dX7_mid_37 : decode cX7_mid 37 = .ok (.iload_n 1, 1) := by decide +kernel
theorem dX7_mid_38 : decode cX7_mid 38 = .ok (.aload_n 0, 1) := by decide +kernel
theorem dX7_mid_39 : decode cX7_mid 39 = .ok (.getfield 27, 3) := by decide +kernel
theorem dX7_mid_42 : decode cX7_mid 42 = .ok (.getfield 178, 3) := by decide +kernel
theorem dX7_mid_45 : decode cX7_mid 45 = .ok (.invokevirtual 273, 3) := by decide +kernel
theorem dX7_mid_48 : decode cX7_mid 48 = .ok (.aload_n 0, 1) := by decide +kernel
theorem dX7_mid_49 : decode cX7_mid 49 = .ok (.getfield 48, 3) := by decide +kernel
theorem dX7_mid_52 : decode cX7_mid 52 = .ok (.getfield 277, 3) := by decide +kernel
theorem dX7_mid_55 : decode cX7_mid 55 = .ok (.invokevirtual 222, 3) := by decide +kernel
theorem dX7_mid_58 : decode cX7_mid 58 = .ok (.iconst 1, 1) := by decide +kernel
theorem dX7_mid_59 : decode cX7_mid 59 = .ok (.ireturn, 1) := by decide +kernel
set_option maxRecDepth 20000 in
theorem ggX7_odds_X2_hasPerson : GoodIn wsX7_odds wsX2_hasPerson := goodIn_r _ [10, 11, 91, 92, 93, 94, 95, 96, 97, 98, 99, 100, 101, 102, 103] (by decide +kernel) (by decide +kernel)
set_option maxRecDepth 20000 in
theorem gX7_odds_X2_hasPerson : GoodIn wsX7_odds (wsV RX7 158 RX2 yX2_hasPerson wsX2_hasPerson) := goodIn_app (goodIn_of _ (by decide +kernel)) ggX7_odds_X2_hasPerson
set_option maxRecDepth 20000 in
theorem ggX7_odds_X2_hasSaying : GoodIn wsX7_odds wsX2_hasSaying := goodIn_r _ [15, 16, 91, 92, 93, 94, 95, 96, 97, 98, 99, 100, 101, 102, 103] (by decide +kernel) (by decide +kernel)
set_option maxRecDepth 20000 in
theorem gX7_odds_X2_hasSaying : GoodIn wsX7_odds (wsV RX7 124 RX2 yX2_hasSaying wsX2_hasSaying) := goodIn_app (goodIn_of _ (by decide +kernel)) ggX7_odds_X2_hasSaying
set_option maxRecDepth 20000 in
theorem ggX7_odds_X0_fit : GoodIn wsX7_odds wsX0_fit := goodIn_r _ [20] (by decide +kernel) (by decide +kernel)
set_option maxRecDepth 20000 in
theorem gX7_odds_X0_fit : GoodIn wsX7_odds (va_wsS RX7 267 yX0_fit wsX0_fit) := goodIn_app (goodIn_of _ (by decide +kernel)) ggX7_odds_X0_fit
set_option maxRecDepth 20000 in
theorem ggX7_odds_X2_isAnyOver : GoodIn wsX7_odds wsX2_isAnyOver := goodIn_r _ [24, 25, 91, 92, 93, 94, 95, 96, 97, 98, 99, 100, 101, 102, 103] (by decide +kernel) (by decide +kernel)
set_option maxRecDepth 20000 in
theorem gX7_odds_X2_isAnyOver : GoodIn wsX7_odds (wsV RX7 164 RX2 yX2_isAnyOver wsX2_isAnyOver) := goodIn_app (goodIn_of _ (by decide +kernel)) ggX7_odds_X2_isAnyOver
set_option maxRecDepth 20000 in
theorem ggX7_odds_X2_isEmpty : GoodIn wsX7_odds wsX2_isEmpty := goodIn_r _ [29, 16, 11, 91, 92, 93, 94, 95, 96, 97, 98, 99, 100, 101, 102, 103] (by decide +kernel) (by decide +kernel)
set_option maxRecDepth 20000 in
theorem gX7_odds_X2_isEmpty : GoodIn wsX7_odds (wsV RX7 181 RX2 yX2_isEmpty wsX2_isEmpty) := goodIn_app (goodIn_of _ (by decide +kernel)) ggX7_odds_X2_isEmpty
set_option maxRecDepth 20000 in
theorem ggX7_odds_X0_spread : GoodIn wsX7_odds wsX0_spread := goodIn_r _ [33, 34, 35, 36, 37, 38, 39, 40, 104, 105] (by decide +kernel) (by decide +kernel)
set_option maxRecDepth 20000 in
theorem gX7_odds_X0_spread : GoodIn wsX7_odds (wsV RX7 270 RX0 yX0_spread wsX0_spread) := goodIn_app (goodIn_of _ (by decide +kernel)) ggX7_odds_X0_spread
set_option maxRecDepth 20000 in
theorem ggX7_odds_X2_nearNow : GoodIn wsX7_odds wsX2_nearNow := goodIn_r _ [44, 45, 46, 47, 48, 49, 50, 9, 51, 52, 53, 54, 55, 56, 57, 58, 59, 60, 61, 62, 63, 64, 65, 66, 91, 92, 93, 94, 95, 96, 97, 98, 99, 100, 101, 102, 103] (by decide +kernel) (by decide +kernel)
set_option maxRecDepth 20000 in
theorem gX7_odds_X2_nearNow : GoodIn wsX7_odds (wsV RX7 196 RX2 yX2_nearNow wsX2_nearNow) := goodIn_app (goodIn_of _ (by decide +kernel)) ggX7_odds_X2_nearNow
set_option maxRecDepth 20000 in
theorem ggX7_odds_X0_atMost : GoodIn wsX7_odds wsX0_atMost := goodIn_r _ [70, 71, 64, 65, 66, 34, 104, 105] (by decide +kernel) (by decide +kernel)
set_option maxRecDepth 20000 in
theorem gX7_odds_X0_atMost : GoodIn wsX7_odds (wsV RX7 280 RX0 yX0_atMost wsX0_atMost) := goodIn_app (goodIn_of _ (by decide +kernel)) ggX7_odds_X0_atMost
set_option maxRecDepth 20000 in
theorem ggX7_odds_X7_tellShare : GoodIn wsX7_odds wsX7_tellShare := goodIn_r _ [76, 77, 78, 79, 80, 81, 82, 83, 84, 85, 86, 87, 88, 89, 90] (by decide +kernel) (by decide +kernel)
set_option maxRecDepth 20000 in
theorem gX7_odds_X7_tellShare : GoodIn wsX7_odds (wsV RX7 222 RX7 yX7_tellShare wsX7_tellShare) := goodIn_app (goodIn_of _ (by decide +kernel)) ggX7_odds_X7_tellShare
theorem dX7_odds_0 : decode cX7_odds 0 = .ok (.aload_n 0, 1) := by decide +kernel
theorem dX7_odds_1 : decode cX7_odds 1 = .ok (.getfield 27, 3) := by decide +kernel
theorem dX7_odds_4 : decode cX7_odds 4 = .ok (.iload_n 1, 1) := by decide +kernel
theorem dX7_odds_5 : decode cX7_odds 5 = .ok (.invokevirtual 158, 3) := by decide +kernel
theorem dX7_odds_8 : decode cX7_odds 8 = .ok (.ifCond .eq 23, 3) := by decide +kernel
theorem dX7_odds_11 : decode cX7_odds 11 = .ok (.aload_n 0, 1) := by decide +kernel
theorem dX7_odds_12 : decode cX7_odds 12 = .ok (.getfield 27, 3) := by decide +kernel
theorem dX7_odds_15 : decode cX7_odds 15 = .ok (.iload_n 2, 1) := by decide +kernel
theorem dX7_odds_16 : decode cX7_odds 16 = .ok (.invokevirtual 124, 3) := by decide +kernel
theorem dX7_odds_19 : decode cX7_odds 19 = .ok (.ifCond .eq 12, 3) := by decide +kernel
theorem dX7_odds_22 : decode cX7_odds 22 = .ok (.iload_n 3, 1) := by decide +kernel
theorem dX7_odds_23 : decode cX7_odds 23 = .ok (.iload 4, 2) := by decide +kernel
theorem dX7_odds_25 : decode cX7_odds 25 = .ok (.invokestatic 267, 3) := by decide +kernel
theorem dX7_odds_28 : decode cX7_odds 28 = .ok (.ifCond .ne 5, 3) := by decide +kernel
theorem dX7_odds_31 : decode cX7_odds 31 = .ok (.iconst (-1), 1) := by decide +kernel
theorem dX7_odds_32 : decode cX7_odds 32 = .ok (.ireturn, 1) := by decide +kernel
theorem dX7_odds_33 : decode cX7_odds 33 = .ok (.aload_n 0, 1) := by decide +kernel
theorem dX7_odds_34 : decode cX7_odds 34 = .ok (.getfield 27, 3) := by decide +kernel
theorem dX7_odds_37 : decode cX7_odds 37 = .ok (.invokevirtual 164, 3) := by decide +kernel
theorem dX7_odds_40 : decode cX7_odds 40 = .ok (.ifCond .ne 13, 3) := by decide +kernel
theorem dX7_odds_43 : decode cX7_odds 43 = .ok (.aload_n 0, 1) := by decide +kernel
theorem dX7_odds_44 : decode cX7_odds 44 = .ok (.getfield 27, 3) := by decide +kernel
theorem dX7_odds_47 : decode cX7_odds 47 = .ok (.invokevirtual 181, 3) := by decide +kernel
theorem dX7_odds_50 : decode cX7_odds 50 = .ok (.ifCond .eq 6, 3) := by decide +kernel
theorem dX7_odds_53 : decode cX7_odds 53 = .ok (.bipush (-4), 2) := by decide +kernel
theorem dX7_odds_55 : decode cX7_odds 55 = .ok (.ireturn, 1) := by decide +kernel
theorem dX7_odds_56 : decode cX7_odds 56 = .ok (.aload_n 0, 1) := by decide +kernel
theorem dX7_odds_57 : decode cX7_odds 57 = .ok (.getfield 48, 3) := by decide +kernel
theorem dX7_odds_60 : decode cX7_odds 60 = .ok (.iload_n 3, 1) := by decide +kernel
theorem dX7_odds_61 : decode cX7_odds 61 = .ok (.iload 4, 2) := by decide +kernel
theorem dX7_odds_63 : decode cX7_odds 63 = .ok (.invokevirtual 270, 3) := by decide +kernel
theorem dX7_odds_66 : decode cX7_odds 66 = .ok (.aload_n 0, 1) := by decide +kernel
theorem dX7_odds_67 : decode cX7_odds 67 = .ok (.getfield 27, 3) := by decide +kernel
theorem dX7_odds_70 : decode cX7_odds 70 = .ok (.getfield 161, 3) := by decide +kernel
theorem dX7_odds_73 : decode cX7_odds 73 = .ok (.iload_n 1, 1) := by decide +kernel
theorem dX7_odds_74 : decode cX7_odds 74 = .ok (.iaload, 1) := by decide +kernel
theorem dX7_odds_75 : decode cX7_odds 75 = .ok (.aload_n 0, 1) := by decide +kernel
theorem dX7_odds_76 : decode cX7_odds 76 = .ok (.getfield 27, 3) := by decide +kernel
theorem dX7_odds_79 : decode cX7_odds 79 = .ok (.iload_n 2, 1) := by decide +kernel
theorem dX7_odds_80 : decode cX7_odds 80 = .ok (.invokevirtual 196, 3) := by decide +kernel
theorem dX7_odds_83 : decode cX7_odds 83 = .ok (.isub, 1) := by decide +kernel
theorem dX7_odds_84 : decode cX7_odds 84 = .ok (.istore 5, 2) := by decide +kernel
theorem dX7_odds_86 : decode cX7_odds 86 = .ok (.aload_n 0, 1) := by decide +kernel
theorem dX7_odds_87 : decode cX7_odds 87 = .ok (.aload_n 0, 1) := by decide +kernel
theorem dX7_odds_88 : decode cX7_odds 88 = .ok (.getfield 48, 3) := by decide +kernel
theorem dX7_odds_91 : decode cX7_odds 91 = .ok (.iload_n 3, 1) := by decide +kernel
theorem dX7_odds_92 : decode cX7_odds 92 = .ok (.aload_n 0, 1) := by decide +kernel
theorem dX7_odds_93 : decode cX7_odds 93 = .ok (.getfield 27, 3) := by decide +kernel
theorem dX7_odds_96 : decode cX7_odds 96 = .ok (.getfield 178, 3) := by decide +kernel
theorem dX7_odds_99 : decode cX7_odds 99 = .ok (.iload 5, 2) := by decide +kernel
theorem dX7_odds_101 : decode cX7_odds 101 = .ok (.invokevirtual 280, 3) := by decide +kernel
theorem dX7_odds_104 : decode cX7_odds 104 = .ok (.aload_n 0, 1) := by decide +kernel
theorem dX7_odds_105 : decode cX7_odds 105 = .ok (.getfield 48, 3) := by decide +kernel
theorem dX7_odds_108 : decode cX7_odds 108 = .ok (.getfield 277, 3) := by decide +kernel
theorem dX7_odds_111 : decode cX7_odds 111 = .ok (.invokevirtual 222, 3) := by decide +kernel
theorem dX7_odds_114 : decode cX7_odds 114 = .ok (.iconst 1, 1) := by decide +kernel
theorem dX7_odds_115 : decode cX7_odds 115 = .ok (.ireturn, 1) := by decide +kernel
set_option maxRecDepth 20000 in
theorem ggX7_lots_X2_isEmpty : GoodIn wsX7_lots wsX2_isEmpty := goodIn_r _ [10, 11, 12, 100, 101, 102, 103, 104, 105, 106, 107, 108, 109, 110, 111, 112] (by decide +kernel) (by decide +kernel)
set_option maxRecDepth 20000 in
theorem gX7_lots_X2_isEmpty : GoodIn wsX7_lots (wsV RX7 181 RX2 yX2_isEmpty wsX2_isEmpty) := goodIn_app (goodIn_of _ (by decide +kernel)) ggX7_lots_X2_isEmpty
set_option maxRecDepth 20000 in
theorem ggX7_lots_X2_deedByLot : GoodIn wsX7_lots wsX2_deedByLot := goodIn_r _ [16, 17, 18, 19, 12, 11, 20, 7, 8, 9, 10, 21, 22, 23, 24, 25, 26, 27, 28, 29, 30, 31, 32, 33, 34, 35, 36, 37, 38, 39, 40, 41, 42, 43, 44, 45, 46, 47, 48, 49, 50, 51, 52, 53, 54, 55, 56, 57, 58, 59, 60, 100, 101, 102, 103, 104, 105, 106, 107, 108, 109, 110, 111, 112] (by decide +kernel) (by decide +kernel)
set_option maxRecDepth 20000 in
theorem gX7_lots_X2_deedByLot : GoodIn wsX7_lots (wsV RX7 288 RX2 yX2_deedByLot wsX2_deedByLot) := goodIn_app (goodIn_of _ (by decide +kernel)) ggX7_lots_X2_deedByLot
set_option maxRecDepth 20000 in
theorem ggX7_lots_X2_record : GoodIn wsX7_lots wsX2_record := goodIn_r _ [64, 65, 66, 67, 68, 69, 9, 70, 71, 72, 73, 74, 30, 54, 55, 56, 57, 75, 76, 77, 78, 12, 79, 80, 81, 82, 11, 83, 84, 85, 86, 43, 87, 38, 31, 25, 32, 33, 34, 35, 36, 37, 39, 40, 41, 42, 44, 45, 46, 47, 48, 49, 50, 51, 52, 53, 100, 101, 102, 103, 104, 105, 106, 107, 108, 109, 110, 111, 112] (by decide +kernel) (by decide +kernel)
set_option maxRecDepth 20000 in
theorem gX7_lots_X2_record : GoodIn wsX7_lots (wsV RX7 174 RX2 yX2_record wsX2_record) := goodIn_app (goodIn_of _ (by decide +kernel)) ggX7_lots_X2_record
theorem dX7_lots_0 : decode cX7_lots 0 = .ok (.iload_n 1, 1) := by decide +kernel
theorem dX7_lots_1 : decode cX7_lots 1 = .ok (.iconst 1, 1) := by decide +kernel
theorem dX7_lots_2 : decode cX7_lots 2 = .ok (.if_icmp .lt 23, 3) := by decide +kernel
theorem dX7_lots_5 : decode cX7_lots 5 = .ok (.iload_n 1, 1) := by decide +kernel
theorem dX7_lots_6 : decode cX7_lots 6 = .ok (.bipush 20, 2) := by decide +kernel
theorem dX7_lots_8 : decode cX7_lots 8 = .ok (.if_icmp .gt 17, 3) := by decide +kernel
theorem dX7_lots_11 : decode cX7_lots 11 = .ok (.iload_n 2, 1) := by decide +kernel
theorem dX7_lots_12 : decode cX7_lots 12 = .ok (.iconst 1, 1) := by decide +kernel
theorem dX7_lots_13 : decode cX7_lots 13 = .ok (.if_icmp .lt 12, 3) := by decide +kernel
theorem dX7_lots_16 : decode cX7_lots 16 = .ok (.iload_n 2, 1) := by decide +kernel
theorem dX7_lots_17 : decode cX7_lots 17 = .ok (.i2l, 1) := by decide +kernel
theorem dX7_lots_18 : decode cX7_lots 18 = .ok (.ldc2_w 284, 3) := by decide +kernel
theorem dX7_lots_21 : decode cX7_lots 21 = .ok (.lcmp, 1) := by decide +kernel
theorem dX7_lots_22 : decode cX7_lots 22 = .ok (.ifCond .lt 5, 3) := by decide +kernel
theorem dX7_lots_25 : decode cX7_lots 25 = .ok (.iconst (-1), 1) := by decide +kernel
theorem dX7_lots_26 : decode cX7_lots 26 = .ok (.ireturn, 1) := by decide +kernel
theorem dX7_lots_27 : decode cX7_lots 27 = .ok (.aload_n 0, 1) := by decide +kernel
theorem dX7_lots_28 : decode cX7_lots 28 = .ok (.getfield 27, 3) := by decide +kernel
theorem dX7_lots_31 : decode cX7_lots 31 = .ok (.invokevirtual 181, 3) := by decide +kernel
theorem dX7_lots_34 : decode cX7_lots 34 = .ok (.ifCond .eq 6, 3) := by decide +kernel
theorem dX7_lots_37 : decode cX7_lots 37 = .ok (.bipush (-4), 2) := by decide +kernel
theorem dX7_lots_39 : decode cX7_lots 39 = .ok (.ireturn, 1) := by decide +kernel
theorem dX7_lots_40 : decode cX7_lots 40 = .ok (.aload_n 0, 1) := by decide +kernel
theorem dX7_lots_41 : decode cX7_lots 41 = .ok (.getfield 27, 3) := by decide +kernel
theorem dX7_lots_44 : decode cX7_lots 44 = .ok (.getfield 168, 3) := by decide +kernel
theorem dX7_lots_47 : decode cX7_lots 47 = .ok (.iload_n 1, 1) := by decide +kernel
theorem dX7_lots_48 : decode cX7_lots 48 = .ok (.iadd, 1) := by decide +kernel
theorem dX7_lots_49 : decode cX7_lots 49 = .ok (.bipush 40, 2) := by decide +kernel
theorem dX7_lots_51 : decode cX7_lots 51 = .ok (.if_icmp .le 6, 3) := by decide +kernel
theorem dX7_lots_54 : decode cX7_lots 54 = .ok (.bipush (-2), 2) := by decide +kernel
theorem dX7_lots_56 : decode cX7_lots 56 = .ok (.ireturn, 1) := by decide +kernel
theorem dX7_lots_57 : decode cX7_lots 57 = .ok (.iload_n 2, 1) := by decide +kernel
theorem dX7_lots_58 : decode cX7_lots 58 = .ok (.i2l, 1) := by decide +kernel
theorem dX7_lots_59 : decode cX7_lots 59 = .ok (.lstore_n 3, 1) := by decide +kernel
theorem dX7_lots_60 : decode cX7_lots 60 = .ok (.iconst 0, 1) := by decide +kernel
theorem dX7_lots_61 : decode cX7_lots 61 = .ok (.istore 5, 2) := by decide +kernel
theorem dX7_lots_63 : decode cX7_lots 63 = .ok (.iload 5, 2) := by decide +kernel
theorem dX7_lots_65 : decode cX7_lots 65 = .ok (.iload_n 1, 1) := by decide +kernel
theorem dX7_lots_66 : decode cX7_lots 66 = .ok (.if_icmp .ge 34, 3) := by decide +kernel
theorem dX7_lots_69 : decode cX7_lots 69 = .ok (.lload_n 3, 1) := by decide +kernel
theorem dX7_lots_70 : decode cX7_lots 70 = .ok (.ldc2_w 286, 3) := by decide +kernel
theorem dX7_lots_73 : decode cX7_lots 73 = .ok (.lmul, 1) := by decide +kernel
theorem dX7_lots_74 : decode cX7_lots 74 = .ok (.ldc2_w 284, 3) := by decide +kernel
theorem dX7_lots_77 : decode cX7_lots 77 = .ok (.lrem, 1) := by decide +kernel
theorem dX7_lots_78 : decode cX7_lots 78 = .ok (.lstore_n 3, 1) := by decide +kernel
theorem dX7_lots_79 : decode cX7_lots 79 = .ok (.aload_n 0, 1) := by decide +kernel
theorem dX7_lots_80 : decode cX7_lots 80 = .ok (.getfield 27, 3) := by decide +kernel
theorem dX7_lots_83 : decode cX7_lots 83 = .ok (.aload_n 0, 1) := by decide +kernel
theorem dX7_lots_84 : decode cX7_lots 84 = .ok (.getfield 27, 3) := by decide +kernel
theorem dX7_lots_87 : decode cX7_lots 87 = .ok (.lload_n 3, 1) := by decide +kernel
theorem dX7_lots_88 : decode cX7_lots 88 = .ok (.invokevirtual 288, 3) := by decide +kernel
theorem dX7_lots_91 : decode cX7_lots 91 = .ok (.invokevirtual 174, 3) := by decide +kernel
theorem dX7_lots_94 : decode cX7_lots 94 = .ok (.iinc 5 1, 3) := by decide +kernel
theorem dX7_lots_97 : decode cX7_lots 97 = .ok (.goto (-34), 3) := by decide +kernel
theorem dX7_lots_100 : decode cX7_lots 100 = .ok (.aload_n 0, 1) := by decide +kernel
theorem dX7_lots_101 : decode cX7_lots 101 = .ok (.getfield 27, 3) := by decide +kernel
theorem dX7_lots_104 : decode cX7_lots 104 = .ok (.getfield 178, 3) := by decide +kernel
theorem dX7_lots_107 : decode cX7_lots 107 = .ok (.ireturn, 1) := by decide +kernel
theorem dX7_asked_0 : decode cX7_asked 0 = .ok (.aload_n 0, 1) := by decide +kernel
theorem dX7_asked_1 : decode cX7_asked 1 = .ok (.getfield 60, 3) := by decide +kernel
theorem dX7_asked_4 : decode cX7_asked 4 = .ok (.ireturn, 1) := by decide +kernel
theorem dX7_upper_0 : decode cX7_upper 0 = .ok (.aload_n 0, 1) := by decide +kernel
theorem dX7_upper_1 : decode cX7_upper 1 = .ok (.getfield 63, 3) := by decide +kernel
theorem dX7_upper_4 : decode cX7_upper 4 = .ok (.lreturn, 1) := by decide +kernel
theorem dX7_lower_0 : decode cX7_lower 0 = .ok (.aload_n 0, 1) := by decide +kernel
theorem dX7_lower_1 : decode cX7_lower 1 = .ok (.getfield 67, 3) := by decide +kernel
theorem dX7_lower_4 : decode cX7_lower 4 = .ok (.lreturn, 1) := by decide +kernel
set_option maxRecDepth 20000 in
theorem ggX7_count_X2_daysGone : GoodIn wsX7_count wsX2_daysGone := goodIn_r _ [15, 16, 17, 46, 47, 48, 49, 50, 51, 52, 53, 54, 55, 56, 57, 58] (by decide +kernel) (by decide +kernel)
set_option maxRecDepth 20000 in
theorem gX7_count_X2_daysGone : GoodIn wsX7_count (wsV RX7 295 RX2 yX2_daysGone wsX2_daysGone) := goodIn_app (goodIn_of _ (by decide +kernel)) ggX7_count_X2_daysGone
set_option maxRecDepth 20000 in
theorem ggX7_count_X2_howManyOfKind : GoodIn wsX7_count wsX2_howManyOfKind := goodIn_r _ [21, 22, 23, 24, 25, 14, 26, 27, 46, 47, 48, 49, 50, 51, 52, 53, 54, 55, 56, 57, 58] (by decide +kernel) (by decide +kernel)
set_option maxRecDepth 20000 in
theorem gX7_count_X2_howManyOfKind : GoodIn wsX7_count (wsV RX7 304 RX2 yX2_howManyOfKind wsX2_howManyOfKind) := goodIn_app (goodIn_of _ (by decide +kernel)) ggX7_count_X2_howManyOfKind
set_option maxRecDepth 20000 in
theorem ggX7_count_X5_howMany : GoodIn wsX7_count wsX5_howMany := goodIn_r _ [32, 33, 59, 60] (by decide +kernel) (by decide +kernel)
set_option maxRecDepth 20000 in
theorem gX7_count_X5_howMany : GoodIn wsX7_count (wsV RX7 307 RX5 yX5_howMany wsX5_howMany) := goodIn_app (goodIn_of _ (by decide +kernel)) ggX7_count_X5_howMany
theorem dX7_count_0 : decode cX7_count 0 = .ok (.iload_n 1, 1) := by decide +kernel
theorem dX7_count_1 : decode cX7_count 1 = .ok (.tableswitch 148 0 10 #[59, 67, 75, 83, 91, 99, 107, 115, 124, 132, 140], 59) := by decide +kernel
theorem dX7_count_60 : decode cX7_count 60 = .ok (.aload_n 0, 1) := by decide +kernel
theorem dX7_count_61 : decode cX7_count 61 = .ok (.getfield 27, 3) := by decide +kernel
theorem dX7_count_64 : decode cX7_count 64 = .ok (.getfield 121, 3) := by decide +kernel
theorem dX7_count_67 : decode cX7_count 67 = .ok (.ireturn, 1) := by decide +kernel
theorem dX7_count_68 : decode cX7_count 68 = .ok (.aload_n 0, 1) := by decide +kernel
theorem dX7_count_69 : decode cX7_count 69 = .ok (.getfield 27, 3) := by decide +kernel
theorem dX7_count_72 : decode cX7_count 72 = .ok (.getfield 292, 3) := by decide +kernel
theorem dX7_count_75 : decode cX7_count 75 = .ok (.ireturn, 1) := by decide +kernel
theorem dX7_count_76 : decode cX7_count 76 = .ok (.aload_n 0, 1) := by decide +kernel
theorem dX7_count_77 : decode cX7_count 77 = .ok (.getfield 27, 3) := by decide +kernel
theorem dX7_count_80 : decode cX7_count 80 = .ok (.invokevirtual 295, 3) := by decide +kernel
theorem dX7_count_83 : decode cX7_count 83 = .ok (.ireturn, 1) := by decide +kernel
theorem dX7_count_84 : decode cX7_count 84 = .ok (.aload_n 0, 1) := by decide +kernel
theorem dX7_count_85 : decode cX7_count 85 = .ok (.getfield 27, 3) := by decide +kernel
theorem dX7_count_88 : decode cX7_count 88 = .ok (.getfield 168, 3) := by decide +kernel
theorem dX7_count_91 : decode cX7_count 91 = .ok (.ireturn, 1) := by decide +kernel
theorem dX7_count_92 : decode cX7_count 92 = .ok (.aload_n 0, 1) := by decide +kernel
theorem dX7_count_93 : decode cX7_count 93 = .ok (.getfield 27, 3) := by decide +kernel
theorem dX7_count_96 : decode cX7_count 96 = .ok (.getfield 178, 3) := by decide +kernel
theorem dX7_count_99 : decode cX7_count 99 = .ok (.ireturn, 1) := by decide +kernel
theorem dX7_count_100 : decode cX7_count 100 = .ok (.aload_n 0, 1) := by decide +kernel
theorem dX7_count_101 : decode cX7_count 101 = .ok (.getfield 27, 3) := by decide +kernel
theorem dX7_count_104 : decode cX7_count 104 = .ok (.getfield 298, 3) := by decide +kernel
theorem dX7_count_107 : decode cX7_count 107 = .ok (.ireturn, 1) := by decide +kernel
theorem dX7_count_108 : decode cX7_count 108 = .ok (.aload_n 0, 1) := by decide +kernel
theorem dX7_count_109 : decode cX7_count 109 = .ok (.getfield 27, 3) := by decide +kernel
theorem dX7_count_112 : decode cX7_count 112 = .ok (.getfield 301, 3) := by decide +kernel
theorem dX7_count_115 : decode cX7_count 115 = .ok (.ireturn, 1) := by decide +kernel
theorem dX7_count_116 : decode cX7_count 116 = .ok (.aload_n 0, 1) := by decide +kernel
theorem dX7_count_117 : decode cX7_count 117 = .ok (.getfield 27, 3) := by decide +kernel
theorem dX7_count_120 : decode cX7_count 120 = .ok (.iconst 1, 1) := by decide +kernel
theorem dX7_count_121 : decode cX7_count 121 = .ok (.invokevirtual 304, 3) := by decide +kernel
theorem dX7_count_124 : decode cX7_count 124 = .ok (.ireturn, 1) := by decide +kernel
theorem dX7_count_125 : decode cX7_count 125 = .ok (.aload_n 0, 1) := by decide +kernel
theorem dX7_count_126 : decode cX7_count 126 = .ok (.getfield 14, 3) := by decide +kernel
theorem dX7_count_129 : decode cX7_count 129 = .ok (.invokevirtual 307, 3) := by decide +kernel
theorem dX7_count_132 : decode cX7_count 132 = .ok (.ireturn, 1) := by decide +kernel
theorem dX7_count_133 : decode cX7_count 133 = .ok (.aload_n 0, 1) := by decide +kernel
theorem dX7_count_134 : decode cX7_count 134 = .ok (.getfield 18, 3) := by decide +kernel
theorem dX7_count_137 : decode cX7_count 137 = .ok (.invokevirtual 307, 3) := by decide +kernel
theorem dX7_count_140 : decode cX7_count 140 = .ok (.ireturn, 1) := by decide +kernel
theorem dX7_count_141 : decode cX7_count 141 = .ok (.aload_n 0, 1) := by decide +kernel
theorem dX7_count_142 : decode cX7_count 142 = .ok (.getfield 21, 3) := by decide +kernel
theorem dX7_count_145 : decode cX7_count 145 = .ok (.invokevirtual 307, 3) := by decide +kernel
theorem dX7_count_148 : decode cX7_count 148 = .ok (.ireturn, 1) := by decide +kernel
theorem dX7_count_149 : decode cX7_count 149 = .ok (.iconst (-1), 1) := by decide +kernel
theorem dX7_count_150 : decode cX7_count 150 = .ok (.ireturn, 1) := by decide +kernel
theorem dX7_finding_0 : decode cX7_finding 0 = .ok (.aload_n 0, 1) := by decide +kernel
theorem dX7_finding_1 : decode cX7_finding 1 = .ok (.getfield 56, 3) := by decide +kernel
theorem dX7_finding_4 : decode cX7_finding 4 = .ok (.ireturn, 1) := by decide +kernel
theorem dX7_findings_0 : decode cX7_findings 0 = .ok (.iload_n 1, 1) := by decide +kernel
theorem dX7_findings_1 : decode cX7_findings 1 = .ok (.iconst 1, 1) := by decide +kernel
theorem dX7_findings_2 : decode cX7_findings 2 = .ok (.if_icmp .lt 8, 3) := by decide +kernel
theorem dX7_findings_5 : decode cX7_findings 5 = .ok (.iload_n 1, 1) := by decide +kernel
theorem dX7_findings_6 : decode cX7_findings 6 = .ok (.iconst 5, 1) := by decide +kernel
theorem dX7_findings_7 : decode cX7_findings 7 = .ok (.if_icmp .le 7, 3) := by decide +kernel
theorem dX7_findings_10 : decode cX7_findings 10 = .ok (.iconst (-1), 1) := by decide +kernel
theorem dX7_findings_11 : decode cX7_findings 11 = .ok (.goto 9, 3) := by decide +kernel
theorem dX7_findings_14 : decode cX7_findings 14 = .ok (.aload_n 0, 1) := by decide +kernel
theorem dX7_findings_15 : decode cX7_findings 15 = .ok (.getfield 52, 3) := by decide +kernel
theorem dX7_findings_18 : decode cX7_findings 18 = .ok (.iload_n 1, 1) := by decide +kernel
theorem dX7_findings_19 : decode cX7_findings 19 = .ok (.iaload, 1) := by decide +kernel
theorem dX7_findings_20 : decode cX7_findings 20 = .ok (.ireturn, 1) := by decide +kernel
set_option maxRecDepth 20000 in
theorem ggX7_digest_X7_count : GoodIn wsX7_digest wsX7_count := goodIn_r _ [16, 3, 6, 4, 17, 18, 19, 20, 11, 10, 8, 21, 22, 23, 24, 25, 26, 27, 28, 29, 30, 31, 32, 33, 34, 35, 36, 37, 38, 39, 40, 41, 42, 43, 80, 81, 82, 83, 84, 85, 86, 87, 88, 89, 90, 91, 92, 93, 94, 95, 96, 97, 98, 99, 100, 101, 102, 103, 104, 105, 106] (by decide +kernel) (by decide +kernel)
set_option maxRecDepth 20000 in
theorem gX7_digest_X7_count : GoodIn wsX7_digest (wsV RX7 314 RX7 yX7_count wsX7_count) := goodIn_app (goodIn_of _ (by decide +kernel)) ggX7_digest_X7_count
set_option maxRecDepth 20000 in
theorem ggX7_digest_X2_aspect : GoodIn wsX7_digest wsX2_aspect := goodIn_r _ [47, 37, 48, 49, 50, 51, 52, 53, 24, 54, 55, 56, 57, 58, 59, 60, 61, 62, 63, 64, 65, 66, 67, 68, 69, 70, 71, 72, 73, 92, 93, 94, 95, 96, 97, 98, 99, 100, 101, 102, 103, 104] (by decide +kernel) (by decide +kernel)
set_option maxRecDepth 20000 in
theorem gX7_digest_X2_aspect : GoodIn wsX7_digest (wsV RX7 127 RX2 yX2_aspect wsX2_aspect) := goodIn_app (goodIn_of _ (by decide +kernel)) ggX7_digest_X2_aspect
set_option maxRecDepth 20000 in
theorem ggX7_digest_X5_mixInto : GoodIn wsX7_digest wsX5_mixInto := goodIn_r _ [77, 43, 78, 79, 105, 106] (by decide +kernel) (by decide +kernel)
set_option maxRecDepth 20000 in
theorem gX7_digest_X5_mixInto : GoodIn wsX7_digest (wsV RX7 317 RX5 yX5_mixInto wsX5_mixInto) := goodIn_app (goodIn_of _ (by decide +kernel)) ggX7_digest_X5_mixInto
theorem dX7_digest_0 : decode cX7_digest 0 = .ok (.ldc2_w 310, 3) := by decide +kernel
theorem dX7_digest_3 : decode cX7_digest 3 = .ok (.lstore_n 1, 1) := by decide +kernel
theorem dX7_digest_4 : decode cX7_digest 4 = .ok (.iconst 0, 1) := by decide +kernel
theorem dX7_digest_5 : decode cX7_digest 5 = .ok (.istore_n 3, 1) := by decide +kernel
theorem dX7_digest_6 : decode cX7_digest 6 = .ok (.iload_n 3, 1) := by decide +kernel
theorem dX7_digest_7 : decode cX7_digest 7 = .ok (.bipush 10, 2) := by decide +kernel
theorem dX7_digest_9 : decode cX7_digest 9 = .ok (.if_icmp .gt 22, 3) := by decide +kernel
theorem dX7_digest_12 : decode cX7_digest 12 = .ok (.ldc2_w 312, 3) := by decide +kernel
theorem dX7_digest_15 : decode cX7_digest 15 = .ok (.lload_n 1, 1) := by decide +kernel
theorem dX7_digest_16 : decode cX7_digest 16 = .ok (.lmul, 1) := by decide +kernel
theorem dX7_digest_17 : decode cX7_digest 17 = .ok (.aload_n 0, 1) := by decide +kernel
theorem dX7_digest_18 : decode cX7_digest 18 = .ok (.iload_n 3, 1) := by decide +kernel
theorem dX7_digest_19 : decode cX7_digest 19 = .ok (.invokevirtual 314, 3) := by decide +kernel
theorem dX7_digest_22 : decode cX7_digest 22 = .ok (.i2l, 1) := by decide +kernel
theorem dX7_digest_23 : decode cX7_digest 23 = .ok (.ladd, 1) := by decide +kernel
theorem dX7_digest_24 : decode cX7_digest 24 = .ok (.lstore_n 1, 1) := by decide +kernel
theorem dX7_digest_25 : decode cX7_digest 25 = .ok (.iinc 3 1, 3) := by decide +kernel
theorem dX7_digest_28 : decode cX7_digest 28 = .ok (.goto (-22), 3) := by decide +kernel
theorem dX7_digest_31 : decode cX7_digest 31 = .ok (.iconst 0, 1) := by decide +kernel
theorem dX7_digest_32 : decode cX7_digest 32 = .ok (.istore_n 3, 1) := by decide +kernel
theorem dX7_digest_33 : decode cX7_digest 33 = .ok (.iload_n 3, 1) := by decide +kernel
theorem dX7_digest_34 : decode cX7_digest 34 = .ok (.aload_n 0, 1) := by decide +kernel
theorem dX7_digest_35 : decode cX7_digest 35 = .ok (.getfield 27, 3) := by decide +kernel
theorem dX7_digest_38 : decode cX7_digest 38 = .ok (.getfield 292, 3) := by decide +kernel
theorem dX7_digest_41 : decode cX7_digest 41 = .ok (.if_icmp .ge 26, 3) := by decide +kernel
theorem dX7_digest_44 : decode cX7_digest 44 = .ok (.ldc2_w 312, 3) := by decide +kernel
theorem dX7_digest_47 : decode cX7_digest 47 = .ok (.lload_n 1, 1) := by decide +kernel
theorem dX7_digest_48 : decode cX7_digest 48 = .ok (.lmul, 1) := by decide +kernel
theorem dX7_digest_49 : decode cX7_digest 49 = .ok (.aload_n 0, 1) := by decide +kernel
theorem dX7_digest_50 : decode cX7_digest 50 = .ok (.getfield 27, 3) := by decide +kernel
theorem dX7_digest_53 : decode cX7_digest 53 = .ok (.getfield 161, 3) := by decide +kernel
theorem dX7_digest_56 : decode cX7_digest 56 = .ok (.iload_n 3, 1) := by decide +kernel
theorem dX7_digest_57 : decode cX7_digest 57 = .ok (.iaload, 1) := by decide +kernel
theorem dX7_digest_58 : decode cX7_digest 58 = .ok (.i2l, 1) := by decide +kernel
theorem dX7_digest_59 : decode cX7_digest 59 = .ok (.ladd, 1) := by decide +kernel
theorem dX7_digest_60 : decode cX7_digest 60 = .ok (.lstore_n 1, 1) := by decide +kernel
theorem dX7_digest_61 : decode cX7_digest 61 = .ok (.iinc 3 1, 3) := by decide +kernel
theorem dX7_digest_64 : decode cX7_digest 64 = .ok (.goto (-31), 3) := by decide +kernel
theorem dX7_digest_67 : decode cX7_digest 67 = .ok (.iconst 0, 1) := by decide +kernel
theorem dX7_digest_68 : decode cX7_digest 68 = .ok (.istore_n 3, 1) := by decide +kernel
theorem dX7_digest_69 : decode cX7_digest 69 = .ok (.iload_n 3, 1) := by decide +kernel
theorem dX7_digest_70 : decode cX7_digest 70 = .ok (.aload_n 0, 1) := by decide +kernel
theorem dX7_digest_71 : decode cX7_digest 71 = .ok (.getfield 27, 3) := by decide +kernel
theorem dX7_digest_74 : decode cX7_digest 74 = .ok (.getfield 121, 3) := by decide +kernel
theorem dX7_digest_77 : decode cX7_digest 77 = .ok (.if_icmp .ge 42, 3) := by decide +kernel
theorem dX7_digest_80 : decode cX7_digest 80 = .ok (.iconst 0, 1) := by decide +kernel
theorem dX7_digest_81 : decode cX7_digest 81 = .ok (.istore 4, 2) := by decide +kernel
theorem dX7_digest_83 : decode cX7_digest 83 = .ok (.iload 4, 2) := by decide +kernel
theorem dX7_digest_85 : decode cX7_digest 85 = .ok (.iconst 4, 1) := by decide +kernel
theorem dX7_digest_86 : decode cX7_digest 86 = .ok (.if_icmp .gt 27, 3) := by decide +kernel
theorem dX7_digest_89 : decode cX7_digest 89 = .ok (.ldc2_w 312, 3) := by decide +kernel
theorem dX7_digest_92 : decode cX7_digest 92 = .ok (.lload_n 1, 1) := by decide +kernel
theorem dX7_digest_93 : decode cX7_digest 93 = .ok (.lmul, 1) := by decide +kernel
theorem dX7_digest_94 : decode cX7_digest 94 = .ok (.aload_n 0, 1) := by decide +kernel
theorem dX7_digest_95 : decode cX7_digest 95 = .ok (.getfield 27, 3) := by decide +kernel
theorem dX7_digest_98 : decode cX7_digest 98 = .ok (.iload_n 3, 1) := by decide +kernel
theorem dX7_digest_99 : decode cX7_digest 99 = .ok (.iload 4, 2) := by decide +kernel
theorem dX7_digest_101 : decode cX7_digest 101 = .ok (.invokevirtual 127, 3) := by decide +kernel
theorem dX7_digest_104 : decode cX7_digest 104 = .ok (.i2l, 1) := by decide +kernel
theorem dX7_digest_105 : decode cX7_digest 105 = .ok (.ladd, 1) := by decide +kernel
theorem dX7_digest_106 : decode cX7_digest 106 = .ok (.lstore_n 1, 1) := by decide +kernel
theorem dX7_digest_107 : decode cX7_digest 107 = .ok (.iinc 4 1, 3) := by decide +kernel
theorem dX7_digest_110 : decode cX7_digest 110 = .ok (.goto (-27), 3) := by decide +kernel
theorem dX7_digest_113 : decode cX7_digest 113 = .ok (.iinc 3 1, 3) := by decide +kernel
theorem dX7_digest_116 : decode cX7_digest 116 = .ok (.goto (-47), 3) := by decide +kernel
theorem dX7_digest_119 : decode cX7_digest 119 = .ok (.ldc2_w 312, 3) := by decide +kernel
theorem dX7_digest_122 : decode cX7_digest 122 = .ok (.lload_n 1, 1) := by decide +kernel
theorem dX7_digest_123 : decode cX7_digest 123 = .ok (.lmul, 1) := by decide +kernel
theorem dX7_digest_124 : decode cX7_digest 124 = .ok (.aload_n 0, 1) := by decide +kernel
theorem dX7_digest_125 : decode cX7_digest 125 = .ok (.getfield 27, 3) := by decide +kernel
theorem dX7_digest_128 : decode cX7_digest 128 = .ok (.getfield 226, 3) := by decide +kernel
theorem dX7_digest_131 : decode cX7_digest 131 = .ok (.i2l, 1) := by decide +kernel
theorem dX7_digest_132 : decode cX7_digest 132 = .ok (.ladd, 1) := by decide +kernel
theorem dX7_digest_133 : decode cX7_digest 133 = .ok (.lstore_n 1, 1) := by decide +kernel
theorem dX7_digest_134 : decode cX7_digest 134 = .ok (.iconst 0, 1) := by decide +kernel
theorem dX7_digest_135 : decode cX7_digest 135 = .ok (.istore_n 3, 1) := by decide +kernel
theorem dX7_digest_136 : decode cX7_digest 136 = .ok (.iload_n 3, 1) := by decide +kernel
theorem dX7_digest_137 : decode cX7_digest 137 = .ok (.iconst 3, 1) := by decide +kernel
theorem dX7_digest_138 : decode cX7_digest 138 = .ok (.if_icmp .ge 26, 3) := by decide +kernel
theorem dX7_digest_141 : decode cX7_digest 141 = .ok (.ldc2_w 312, 3) := by decide +kernel
theorem dX7_digest_144 : decode cX7_digest 144 = .ok (.lload_n 1, 1) := by decide +kernel
theorem dX7_digest_145 : decode cX7_digest 145 = .ok (.lmul, 1) := by decide +kernel
theorem dX7_digest_146 : decode cX7_digest 146 = .ok (.aload_n 0, 1) := by decide +kernel
theorem dX7_digest_147 : decode cX7_digest 147 = .ok (.getfield 21, 3) := by decide +kernel
theorem dX7_digest_150 : decode cX7_digest 150 = .ok (.getfield 94, 3) := by decide +kernel
theorem dX7_digest_153 : decode cX7_digest 153 = .ok (.iload_n 3, 1) := by decide +kernel
theorem dX7_digest_154 : decode cX7_digest 154 = .ok (.iaload, 1) := by decide +kernel
theorem dX7_digest_155 : decode cX7_digest 155 = .ok (.i2l, 1) := by decide +kernel
theorem dX7_digest_156 : decode cX7_digest 156 = .ok (.ladd, 1) := by decide +kernel
theorem dX7_digest_157 : decode cX7_digest 157 = .ok (.lstore_n 1, 1) := by decide +kernel
theorem dX7_digest_158 : decode cX7_digest 158 = .ok (.iinc 3 1, 3) := by decide +kernel
theorem dX7_digest_161 : decode cX7_digest 161 = .ok (.goto (-25), 3) := by decide +kernel
theorem dX7_digest_164 : decode cX7_digest 164 = .ok (.aload_n 0, 1) := by decide +kernel
theorem dX7_digest_165 : decode cX7_digest 165 = .ok (.getfield 18, 3) := by decide +kernel
theorem dX7_digest_168 : decode cX7_digest 168 = .ok (.aload_n 0, 1) := by decide +kernel
theorem dX7_digest_169 : decode cX7_digest 169 = .ok (.getfield 14, 3) := by decide +kernel
theorem dX7_digest_172 : decode cX7_digest 172 = .ok (.lload_n 1, 1) := by decide +kernel
theorem dX7_digest_173 : decode cX7_digest 173 = .ok (.invokevirtual 317, 3) := by decide +kernel
theorem dX7_digest_176 : decode cX7_digest 176 = .ok (.invokevirtual 317, 3) := by decide +kernel
theorem dX7_digest_179 : decode cX7_digest 179 = .ok (.lreturn, 1) := by decide +kernel
theorem dX7_refuse_0 : decode cX7_refuse 0 = .ok (.aload_n 0, 1) := by decide +kernel
theorem dX7_refuse_1 : decode cX7_refuse 1 = .ok (.iload_n 1, 1) := by decide +kernel
theorem dX7_refuse_2 : decode cX7_refuse 2 = .ok (.putfield 56, 3) := by decide +kernel
theorem dX7_refuse_5 : decode cX7_refuse 5 = .ok (.aload_n 0, 1) := by decide +kernel
theorem dX7_refuse_6 : decode cX7_refuse 6 = .ok (.getfield 52, 3) := by decide +kernel
theorem dX7_refuse_9 : decode cX7_refuse 9 = .ok (.iload_n 1, 1) := by decide +kernel
theorem dX7_refuse_10 : decode cX7_refuse 10 = .ok (.dup2, 1) := by decide +kernel
theorem dX7_refuse_11 : decode cX7_refuse 11 = .ok (.iaload, 1) := by decide +kernel
theorem dX7_refuse_12 : decode cX7_refuse 12 = .ok (.iconst 1, 1) := by decide +kernel
theorem dX7_refuse_13 : decode cX7_refuse 13 = .ok (.iadd, 1) := by decide +kernel
theorem dX7_refuse_14 : decode cX7_refuse 14 = .ok (.iastore, 1) := by decide +kernel
theorem dX7_refuse_15 : decode cX7_refuse 15 = .ok (.bipush (-3), 2) := by decide +kernel
theorem dX7_refuse_17 : decode cX7_refuse 17 = .ok (.ireturn, 1) := by decide +kernel
set_option maxRecDepth 20000 in
theorem ggX7_refusalOfRow_X5_isNumber : GoodIn wsX7_refusalOfRow wsX5_isNumber := goodIn_r _ [5, 6, 19, 20] (by decide +kernel) (by decide +kernel)
set_option maxRecDepth 20000 in
theorem gX7_refusalOfRow_X5_isNumber : GoodIn wsX7_refusalOfRow (wsV RX7 70 RX5 yX5_isNumber wsX5_isNumber) := goodIn_app (goodIn_of _ (by decide +kernel)) ggX7_refusalOfRow_X5_isNumber
set_option maxRecDepth 20000 in
theorem ggX7_refusalOfRow_X5_isThere : GoodIn wsX7_refusalOfRow wsX5_isThere := goodIn_r _ [10, 6, 11, 2, 3, 4, 5, 19, 20] (by decide +kernel) (by decide +kernel)
set_option maxRecDepth 20000 in
theorem gX7_refusalOfRow_X5_isThere : GoodIn wsX7_refusalOfRow (wsV RX7 97 RX5 yX5_isThere wsX5_isThere) := goodIn_app (goodIn_of _ (by decide +kernel)) ggX7_refusalOfRow_X5_isThere
set_option maxRecDepth 20000 in
theorem ggX7_refusalOfRow_X7_refuse : GoodIn wsX7_refusalOfRow wsX7_refuse := goodIn_r _ [16, 17, 18, 21, 22, 23, 24, 25, 26, 27, 28, 29, 30, 31, 32] (by decide +kernel) (by decide +kernel)
set_option maxRecDepth 20000 in
theorem gX7_refusalOfRow_X7_refuse : GoodIn wsX7_refusalOfRow (wsV RX7 74 RX7 yX7_refuse wsX7_refuse) := goodIn_app (goodIn_of _ (by decide +kernel)) ggX7_refusalOfRow_X7_refuse
theorem dX7_refusalOfRow_0 : decode cX7_refusalOfRow 0 = .ok (.aload_n 1, 1) := by decide +kernel
theorem dX7_refusalOfRow_1 : decode cX7_refusalOfRow 1 = .ok (.iload_n 2, 1) := by decide +kernel
theorem dX7_refusalOfRow_2 : decode cX7_refusalOfRow 2 = .ok (.invokevirtual 70, 3) := by decide +kernel
theorem dX7_refusalOfRow_5 : decode cX7_refusalOfRow 5 = .ok (.ifCond .ne 5, 3) := by decide +kernel
theorem dX7_refusalOfRow_8 : decode cX7_refusalOfRow 8 = .ok (.iconst (-1), 1) := by decide +kernel
theorem dX7_refusalOfRow_9 : decode cX7_refusalOfRow 9 = .ok (.ireturn, 1) := by decide +kernel
theorem dX7_refusalOfRow_10 : decode cX7_refusalOfRow 10 = .ok (.aload_n 1, 1) := by decide +kernel
theorem dX7_refusalOfRow_11 : decode cX7_refusalOfRow 11 = .ok (.iload_n 2, 1) := by decide +kernel
theorem dX7_refusalOfRow_12 : decode cX7_refusalOfRow 12 = .ok (.invokevirtual 97, 3) := by decide +kernel
theorem dX7_refusalOfRow_15 : decode cX7_refusalOfRow 15 = .ok (.ifCond .eq 7, 3) := by decide +kernel
theorem dX7_refusalOfRow_18 : decode cX7_refusalOfRow 18 = .ok (.iconst 0, 1) := by decide +kernel
theorem dX7_refusalOfRow_19 : decode cX7_refusalOfRow 19 = .ok (.goto 8, 3) := by decide +kernel
theorem dX7_refusalOfRow_22 : decode cX7_refusalOfRow 22 = .ok (.aload_n 0, 1) := by decide +kernel
theorem dX7_refusalOfRow_23 : decode cX7_refusalOfRow 23 = .ok (.iconst 1, 1) := by decide +kernel
theorem dX7_refusalOfRow_24 : decode cX7_refusalOfRow 24 = .ok (.invokevirtual 74, 3) := by decide +kernel
theorem dX7_refusalOfRow_27 : decode cX7_refusalOfRow 27 = .ok (.ireturn, 1) := by decide +kernel
set_option maxRecDepth 20000 in
theorem ggX7_refusalOfPlace_X7_refusalOfRow : GoodIn wsX7_refusalOfPlace wsX7_refusalOfRow := goodIn_r _ [5, 6, 7, 8, 9, 10, 11, 12, 13, 14, 15, 16, 17, 18, 19, 4, 20, 21, 22, 28, 29, 30, 31, 32, 33, 34, 35, 36, 37, 38, 39, 40, 41] (by decide +kernel) (by decide +kernel)
set_option maxRecDepth 20000 in
theorem gX7_refusalOfPlace_X7_refusalOfRow : GoodIn wsX7_refusalOfPlace (wsV RX7 90 RX7 yX7_refusalOfRow wsX7_refusalOfRow) := goodIn_app (goodIn_of _ (by decide +kernel)) ggX7_refusalOfPlace_X7_refusalOfRow
set_option maxRecDepth 20000 in
theorem ggX7_refusalOfPlace_X5_hasPlace : GoodIn wsX7_refusalOfPlace wsX5_hasPlace := goodIn_r _ [26, 11, 27, 13, 14, 9, 15, 16, 7, 8, 10, 28, 29] (by decide +kernel) (by decide +kernel)
set_option maxRecDepth 20000 in
theorem gX7_refusalOfPlace_X5_hasPlace : GoodIn wsX7_refusalOfPlace (wsV RX7 321 RX5 yX5_hasPlace wsX5_hasPlace) := goodIn_app (goodIn_of _ (by decide +kernel)) ggX7_refusalOfPlace_X5_hasPlace
set_option maxRecDepth 20000 in
theorem ggX7_refusalOfPlace_X7_refuse : GoodIn wsX7_refusalOfPlace wsX7_refuse := goodIn_r _ [20, 21, 22, 30, 31, 32, 33, 34, 35, 36, 37, 38, 39, 40, 41] (by decide +kernel) (by decide +kernel)
set_option maxRecDepth 20000 in
theorem gX7_refusalOfPlace_X7_refuse : GoodIn wsX7_refusalOfPlace (wsV RX7 74 RX7 yX7_refuse wsX7_refuse) := goodIn_app (goodIn_of _ (by decide +kernel)) ggX7_refusalOfPlace_X7_refuse
theorem dX7_refusalOfPlace_0 : decode cX7_refusalOfPlace 0 = .ok (.aload_n 0, 1) := by decide +kernel
theorem dX7_refusalOfPlace_1 : decode cX7_refusalOfPlace 1 = .ok (.aload_n 1, 1) := by decide +kernel
theorem dX7_refusalOfPlace_2 : decode cX7_refusalOfPlace 2 = .ok (.iload_n 2, 1) := by decide +kernel
theorem dX7_refusalOfPlace_3 : decode cX7_refusalOfPlace 3 = .ok (.invokevirtual 90, 3) := by decide +kernel
theorem dX7_refusalOfPlace_6 : decode cX7_refusalOfPlace 6 = .ok (.istore 4, 2) := by decide +kernel
theorem dX7_refusalOfPlace_8 : decode cX7_refusalOfPlace 8 = .ok (.iload 4, 2) := by decide +kernel
theorem dX7_refusalOfPlace_10 : decode cX7_refusalOfPlace 10 = .ok (.ifCond .eq 6, 3) := by decide +kernel
theorem dX7_refusalOfPlace_13 : decode cX7_refusalOfPlace 13 = .ok (.iload 4, 2) := by decide +kernel
theorem dX7_refusalOfPlace_15 : decode cX7_refusalOfPlace 15 = .ok (.ireturn, 1) := by decide +kernel
theorem dX7_refusalOfPlace_16 : decode cX7_refusalOfPlace 16 = .ok (.aload_n 1, 1) := by decide +kernel
theorem dX7_refusalOfPlace_17 : decode cX7_refusalOfPlace 17 = .ok (.iload_n 2, 1) := by decide +kernel
theorem dX7_refusalOfPlace_18 : decode cX7_refusalOfPlace 18 = .ok (.iload_n 3, 1) := by decide +kernel
theorem dX7_refusalOfPlace_19 : decode cX7_refusalOfPlace 19 = .ok (.invokevirtual 321, 3) := by decide +kernel
theorem dX7_refusalOfPlace_22 : decode cX7_refusalOfPlace 22 = .ok (.ifCond .eq 7, 3) := by decide +kernel
theorem dX7_refusalOfPlace_25 : decode cX7_refusalOfPlace 25 = .ok (.iconst 0, 1) := by decide +kernel
theorem dX7_refusalOfPlace_26 : decode cX7_refusalOfPlace 26 = .ok (.goto 8, 3) := by decide +kernel
theorem dX7_refusalOfPlace_29 : decode cX7_refusalOfPlace 29 = .ok (.aload_n 0, 1) := by decide +kernel
theorem dX7_refusalOfPlace_30 : decode cX7_refusalOfPlace 30 = .ok (.iconst 2, 1) := by decide +kernel
theorem dX7_refusalOfPlace_31 : decode cX7_refusalOfPlace 31 = .ok (.invokevirtual 74, 3) := by decide +kernel
theorem dX7_refusalOfPlace_34 : decode cX7_refusalOfPlace 34 = .ok (.ireturn, 1) := by decide +kernel
theorem dX7_tellShare_0 : decode cX7_tellShare 0 = .ok (.lload_n 3, 1) := by decide +kernel
theorem dX7_tellShare_1 : decode cX7_tellShare 1 = .ok (.lstore 5, 2) := by decide +kernel
theorem dX7_tellShare_3 : decode cX7_tellShare 3 = .ok (.lload_n 1, 1) := by decide +kernel
theorem dX7_tellShare_4 : decode cX7_tellShare 4 = .ok (.lstore 7, 2) := by decide +kernel
theorem dX7_tellShare_6 : decode cX7_tellShare 6 = .ok (.iconst 0, 1) := by decide +kernel
theorem dX7_tellShare_7 : decode cX7_tellShare 7 = .ok (.istore 9, 2) := by decide +kernel
theorem dX7_tellShare_9 : decode cX7_tellShare 9 = .ok (.iload 9, 2) := by decide +kernel
theorem dX7_tellShare_11 : decode cX7_tellShare 11 = .ok (.bipush 100, 2) := by decide +kernel
theorem dX7_tellShare_13 : decode cX7_tellShare 13 = .ok (.if_icmp .ge 31, 3) := by decide +kernel
theorem dX7_tellShare_16 : decode cX7_tellShare 16 = .ok (.lload 7, 2) := by decide +kernel
theorem dX7_tellShare_18 : decode cX7_tellShare 18 = .ok (.lconst 0, 1) := by decide +kernel
theorem dX7_tellShare_19 : decode cX7_tellShare 19 = .ok (.lcmp, 1) := by decide +kernel
theorem dX7_tellShare_20 : decode cX7_tellShare 20 = .ok (.ifCond .eq 24, 3) := by decide +kernel
theorem dX7_tellShare_23 : decode cX7_tellShare 23 = .ok (.lload 5, 2) := by decide +kernel
theorem dX7_tellShare_25 : decode cX7_tellShare 25 = .ok (.lload 7, 2) := by decide +kernel
theorem dX7_tellShare_27 : decode cX7_tellShare 27 = .ok (.lrem, 1) := by decide +kernel
theorem dX7_tellShare_28 : decode cX7_tellShare 28 = .ok (.lstore 10, 2) := by decide +kernel
theorem dX7_tellShare_30 : decode cX7_tellShare 30 = .ok (.lload 7, 2) := by decide +kernel
theorem dX7_tellShare_32 : decode cX7_tellShare 32 = .ok (.lstore 5, 2) := by decide +kernel
theorem dX7_tellShare_34 : decode cX7_tellShare 34 = .ok (.lload 10, 2) := by decide +kernel
theorem dX7_tellShare_36 : decode cX7_tellShare 36 = .ok (.lstore 7, 2) := by decide +kernel
theorem dX7_tellShare_38 : decode cX7_tellShare 38 = .ok (.iinc 9 1, 3) := by decide +kernel
theorem dX7_tellShare_41 : decode cX7_tellShare 41 = .ok (.goto (-32), 3) := by decide +kernel
theorem dX7_tellShare_44 : decode cX7_tellShare 44 = .ok (.lload 5, 2) := by decide +kernel
theorem dX7_tellShare_46 : decode cX7_tellShare 46 = .ok (.lconst 1, 1) := by decide +kernel
theorem dX7_tellShare_47 : decode cX7_tellShare 47 = .ok (.lcmp, 1) := by decide +kernel
theorem dX7_tellShare_48 : decode cX7_tellShare 48 = .ok (.ifCond .ge 7, 3) := by decide +kernel
theorem dX7_tellShare_51 : decode cX7_tellShare 51 = .ok (.lconst 1, 1) := by decide +kernel
theorem dX7_tellShare_52 : decode cX7_tellShare 52 = .ok (.goto 5, 3) := by decide +kernel
theorem dX7_tellShare_55 : decode cX7_tellShare 55 = .ok (.lload 5, 2) := by decide +kernel
theorem dX7_tellShare_57 : decode cX7_tellShare 57 = .ok (.lstore 9, 2) := by decide +kernel
theorem dX7_tellShare_59 : decode cX7_tellShare 59 = .ok (.aload_n 0, 1) := by decide +kernel
theorem dX7_tellShare_60 : decode cX7_tellShare 60 = .ok (.lload_n 1, 1) := by decide +kernel
theorem dX7_tellShare_61 : decode cX7_tellShare 61 = .ok (.lload 9, 2) := by decide +kernel
theorem dX7_tellShare_63 : decode cX7_tellShare 63 = .ok (.ldiv, 1) := by decide +kernel
theorem dX7_tellShare_64 : decode cX7_tellShare 64 = .ok (.putfield 63, 3) := by decide +kernel
theorem dX7_tellShare_67 : decode cX7_tellShare 67 = .ok (.aload_n 0, 1) := by decide +kernel
theorem dX7_tellShare_68 : decode cX7_tellShare 68 = .ok (.lload_n 3, 1) := by decide +kernel
theorem dX7_tellShare_69 : decode cX7_tellShare 69 = .ok (.lload 9, 2) := by decide +kernel
theorem dX7_tellShare_71 : decode cX7_tellShare 71 = .ok (.ldiv, 1) := by decide +kernel
theorem dX7_tellShare_72 : decode cX7_tellShare 72 = .ok (.putfield 67, 3) := by decide +kernel
theorem dX7_tellShare_75 : decode cX7_tellShare 75 = .ok (.return_, 1) := by decide +kernel
theorem dX8_init_0 : decode cX8_init 0 = .ok (.aload_n 0, 1) := by decide +kernel
theorem dX8_init_1 : decode cX8_init 1 = .ok (.invokespecial 1, 3) := by decide +kernel
theorem dX8_init_4 : decode cX8_init 4 = .ok (.aload_n 0, 1) := by decide +kernel
theorem dX8_init_5 : decode cX8_init 5 = .ok (.sipush 1655, 3) := by decide +kernel
theorem dX8_init_8 : decode cX8_init 8 = .ok (.newarray .int, 2) := by decide +kernel
theorem dX8_init_10 : decode cX8_init 10 = .ok (.putfield 7, 3) := by decide +kernel
theorem dX8_init_13 : decode cX8_init 13 = .ok (.aload_n 0, 1) := by decide +kernel
theorem dX8_init_14 : decode cX8_init 14 = .ok (.iconst 4, 1) := by decide +kernel
theorem dX8_init_15 : decode cX8_init 15 = .ok (.newarray .int, 2) := by decide +kernel
theorem dX8_init_17 : decode cX8_init 17 = .ok (.putfield 13, 3) := by decide +kernel
theorem dX8_init_20 : decode cX8_init 20 = .ok (.aload_n 0, 1) := by decide +kernel
theorem dX8_init_21 : decode cX8_init 21 = .ok (.bipush 6, 2) := by decide +kernel
theorem dX8_init_23 : decode cX8_init 23 = .ok (.newarray .int, 2) := by decide +kernel
theorem dX8_init_25 : decode cX8_init 25 = .ok (.putfield 16, 3) := by decide +kernel
theorem dX8_init_28 : decode cX8_init 28 = .ok (.aload_n 0, 1) := by decide +kernel
theorem dX8_init_29 : decode cX8_init 29 = .ok (.bipush 6, 2) := by decide +kernel
theorem dX8_init_31 : decode cX8_init 31 = .ok (.newarray .int, 2) := by decide +kernel
theorem dX8_init_33 : decode cX8_init 33 = .ok (.putfield 19, 3) := by decide +kernel
theorem dX8_init_36 : decode cX8_init 36 = .ok (.aload_n 0, 1) := by decide +kernel
theorem dX8_init_37 : decode cX8_init 37 = .ok (.bipush 6, 2) := by decide +kernel
theorem dX8_init_39 : decode cX8_init 39 = .ok (.newarray .int, 2) := by decide +kernel
theorem dX8_init_41 : decode cX8_init 41 = .ok (.putfield 22, 3) := by decide +kernel
theorem dX8_init_44 : decode cX8_init 44 = .ok (.aload_n 0, 1) := by decide +kernel
theorem dX8_init_45 : decode cX8_init 45 = .ok (.bipush 6, 2) := by decide +kernel
theorem dX8_init_47 : decode cX8_init 47 = .ok (.newarray .int, 2) := by decide +kernel
theorem dX8_init_49 : decode cX8_init 49 = .ok (.dup, 1) := by decide +kernel
theorem dX8_init_50 : decode cX8_init 50 = .ok (.iconst 0, 1) := by decide +kernel
theorem dX8_init_51 : decode cX8_init 51 = .ok (.iconst (-1), 1) := by decide +kernel
theorem dX8_init_52 : decode cX8_init 52 = .ok (.iastore, 1) := by decide +kernel
theorem dX8_init_53 : decode cX8_init 53 = .ok (.dup, 1) := by decide +kernel
theorem dX8_init_54 : decode cX8_init 54 = .ok (.iconst 1, 1) := by decide +kernel
theorem dX8_init_55 : decode cX8_init 55 = .ok (.iconst (-1), 1) := by decide +kernel
theorem dX8_init_56 : decode cX8_init 56 = .ok (.iastore, 1) := by decide +kernel
theorem dX8_init_57 : decode cX8_init 57 = .ok (.dup, 1) := by decide +kernel
theorem dX8_init_58 : decode cX8_init 58 = .ok (.iconst 2, 1) := by decide +kernel
theorem dX8_init_59 : decode cX8_init 59 = .ok (.iconst (-1), 1) := by decide +kernel
theorem dX8_init_60 : decode cX8_init 60 = .ok (.iastore, 1) := by decide +kernel
theorem dX8_init_61 : decode cX8_init 61 = .ok (.dup, 1) := by decide +kernel
theorem dX8_init_62 : decode cX8_init 62 = .ok (.iconst 3, 1) := by decide +kernel
theorem dX8_init_63 : decode cX8_init 63 = .ok (.iconst (-1), 1) := by decide +kernel
theorem dX8_init_64 : decode cX8_init 64 = .ok (.iastore, 1) := by decide +kernel
theorem dX8_init_65 : decode cX8_init 65 = .ok (.dup, 1) := by decide +kernel
theorem dX8_init_66 : decode cX8_init 66 = .ok (.iconst 4, 1) := by decide +kernel
theorem dX8_init_67 : decode cX8_init 67 = .ok (.iconst (-1), 1) := by decide +kernel
theorem dX8_init_68 : decode cX8_init 68 = .ok (.iastore, 1) := by decide +kernel
theorem dX8_init_69 : decode cX8_init 69 = .ok (.dup, 1) := by decide +kernel
theorem dX8_init_70 : decode cX8_init 70 = .ok (.iconst 5, 1) := by decide +kernel
theorem dX8_init_71 : decode cX8_init 71 = .ok (.iconst (-1), 1) := by decide +kernel
theorem dX8_init_72 : decode cX8_init 72 = .ok (.iastore, 1) := by decide +kernel
theorem dX8_init_73 : decode cX8_init 73 = .ok (.putfield 25, 3) := by decide +kernel
theorem dX8_init_76 : decode cX8_init 76 = .ok (.aload_n 0, 1) := by decide +kernel
theorem dX8_init_77 : decode cX8_init 77 = .ok (.sipush 240, 3) := by decide +kernel
theorem dX8_init_80 : decode cX8_init 80 = .ok (.newarray .int, 2) := by decide +kernel
theorem dX8_init_82 : decode cX8_init 82 = .ok (.putfield 28, 3) := by decide +kernel
theorem dX8_init_85 : decode cX8_init 85 = .ok (.aload_n 0, 1) := by decide +kernel
theorem dX8_init_86 : decode cX8_init 86 = .ok (.iconst 4, 1) := by decide +kernel
theorem dX8_init_87 : decode cX8_init 87 = .ok (.newarray .int, 2) := by decide +kernel
theorem dX8_init_89 : decode cX8_init 89 = .ok (.dup, 1) := by decide +kernel
theorem dX8_init_90 : decode cX8_init 90 = .ok (.iconst 0, 1) := by decide +kernel
theorem dX8_init_91 : decode cX8_init 91 = .ok (.iconst (-1), 1) := by decide +kernel
theorem dX8_init_92 : decode cX8_init 92 = .ok (.iastore, 1) := by decide +kernel
theorem dX8_init_93 : decode cX8_init 93 = .ok (.dup, 1) := by decide +kernel
theorem dX8_init_94 : decode cX8_init 94 = .ok (.iconst 1, 1) := by decide +kernel
theorem dX8_init_95 : decode cX8_init 95 = .ok (.iconst (-1), 1) := by decide +kernel
theorem dX8_init_96 : decode cX8_init 96 = .ok (.iastore, 1) := by decide +kernel
theorem dX8_init_97 : decode cX8_init 97 = .ok (.dup, 1) := by decide +kernel
theorem dX8_init_98 : decode cX8_init 98 = .ok (.iconst 2, 1) := by decide +kernel
theorem dX8_init_99 : decode cX8_init 99 = .ok (.iconst (-1), 1) := by decide +kernel
theorem dX8_init_100 : decode cX8_init 100 = .ok (.iastore, 1) := by decide +kernel
theorem dX8_init_101 : decode cX8_init 101 = .ok (.dup, 1) := by decide +kernel
theorem dX8_init_102 : decode cX8_init 102 = .ok (.iconst 3, 1) := by decide +kernel
theorem dX8_init_103 : decode cX8_init 103 = .ok (.iconst (-1), 1) := by decide +kernel
theorem dX8_init_104 : decode cX8_init 104 = .ok (.iastore, 1) := by decide +kernel
theorem dX8_init_105 : decode cX8_init 105 = .ok (.putfield 31, 3) := by decide +kernel
theorem dX8_init_108 : decode cX8_init 108 = .ok (.aload_n 0, 1) := by decide +kernel
theorem dX8_init_109 : decode cX8_init 109 = .ok (.sipush 240, 3) := by decide +kernel
theorem dX8_init_112 : decode cX8_init 112 = .ok (.newarray .int, 2) := by decide +kernel
theorem dX8_init_114 : decode cX8_init 114 = .ok (.putfield 34, 3) := by decide +kernel
theorem dX8_init_117 : decode cX8_init 117 = .ok (.aload_n 0, 1) := by decide +kernel
theorem dX8_init_118 : decode cX8_init 118 = .ok (.lconst 1, 1) := by decide +kernel
theorem dX8_init_119 : decode cX8_init 119 = .ok (.putfield 37, 3) := by decide +kernel
theorem dX8_init_122 : decode cX8_init 122 = .ok (.aload_n 0, 1) := by decide +kernel
theorem dX8_init_123 : decode cX8_init 123 = .ok (.bipush 6, 2) := by decide +kernel
theorem dX8_init_125 : decode cX8_init 125 = .ok (.newarray .int, 2) := by decide +kernel
theorem dX8_init_127 : decode cX8_init 127 = .ok (.putfield 41, 3) := by decide +kernel
theorem dX8_init_130 : decode cX8_init 130 = .ok (.aload_n 0, 1) := by decide +kernel
theorem dX8_init_131 : decode cX8_init 131 = .ok (.iconst 4, 1) := by decide +kernel
theorem dX8_init_132 : decode cX8_init 132 = .ok (.newarray .int, 2) := by decide +kernel
theorem dX8_init_134 : decode cX8_init 134 = .ok (.putfield 44, 3) := by decide +kernel
theorem dX8_init_137 : decode cX8_init 137 = .ok (.aload_n 0, 1) := by decide +kernel
theorem dX8_init_138 : decode cX8_init 138 = .ok (.bipush 18, 2) := by decide +kernel
theorem dX8_init_140 : decode cX8_init 140 = .ok (.newarray .int, 2) := by decide +kernel
theorem dX8_init_142 : decode cX8_init 142 = .ok (.putfield 47, 3) := by decide +kernel
theorem dX8_init_145 : decode cX8_init 145 = .ok (.aload_n 0, 1) := by decide +kernel
theorem dX8_init_146 : decode cX8_init 146 = .ok (.bipush 12, 2) := by decide +kernel
theorem dX8_init_148 : decode cX8_init 148 = .ok (.newarray .int, 2) := by decide +kernel
theorem dX8_init_150 : decode cX8_init 150 = .ok (.putfield 50, 3) := by decide +kernel
theorem dX8_init_153 : decode cX8_init 153 = .ok (.aload_n 0, 1) := by decide +kernel
theorem dX8_init_154 : decode cX8_init 154 = .ok (.bipush 7, 2) := by decide +kernel
theorem dX8_init_156 : decode cX8_init 156 = .ok (.newarray .int, 2) := by decide +kernel
theorem dX8_init_158 : decode cX8_init 158 = .ok (.putfield 53, 3) := by decide +kernel
theorem dX8_init_161 : decode cX8_init 161 = .ok (.aload_n 0, 1) := by decide +kernel
theorem dX8_init_162 : decode cX8_init 162 = .ok (.bipush 7, 2) := by decide +kernel
theorem dX8_init_164 : decode cX8_init 164 = .ok (.newarray .int, 2) := by decide +kernel
theorem dX8_init_166 : decode cX8_init 166 = .ok (.putfield 56, 3) := by decide +kernel
theorem dX8_init_169 : decode cX8_init 169 = .ok (.aload_n 0, 1) := by decide +kernel
theorem dX8_init_170 : decode cX8_init 170 = .ok (.bipush 7, 2) := by decide +kernel
theorem dX8_init_172 : decode cX8_init 172 = .ok (.newarray .int, 2) := by decide +kernel
theorem dX8_init_174 : decode cX8_init 174 = .ok (.putfield 59, 3) := by decide +kernel
theorem dX8_init_177 : decode cX8_init 177 = .ok (.aload_n 0, 1) := by decide +kernel
theorem dX8_init_178 : decode cX8_init 178 = .ok (.bipush 7, 2) := by decide +kernel
theorem dX8_init_180 : decode cX8_init 180 = .ok (.newarray .int, 2) := by decide +kernel
theorem dX8_init_182 : decode cX8_init 182 = .ok (.putfield 62, 3) := by decide +kernel
theorem dX8_init_185 : decode cX8_init 185 = .ok (.aload_n 0, 1) := by decide +kernel
theorem dX8_init_186 : decode cX8_init 186 = .ok (.bipush 7, 2) := by decide +kernel
theorem dX8_init_188 : decode cX8_init 188 = .ok (.newarray .int, 2) := by decide +kernel
theorem dX8_init_190 : decode cX8_init 190 = .ok (.putfield 65, 3) := by decide +kernel
theorem dX8_init_193 : decode cX8_init 193 = .ok (.aload_n 0, 1) := by decide +kernel
theorem dX8_init_194 : decode cX8_init 194 = .ok (.bipush 13, 2) := by decide +kernel
theorem dX8_init_196 : decode cX8_init 196 = .ok (.newarray .long, 2) := by decide +kernel
theorem dX8_init_198 : decode cX8_init 198 = .ok (.putfield 68, 3) := by decide +kernel
theorem dX8_init_201 : decode cX8_init 201 = .ok (.aload_n 0, 1) := by decide +kernel
theorem dX8_init_202 : decode cX8_init 202 = .ok (.getfield 7, 3) := by decide +kernel
theorem dX8_init_205 : decode cX8_init 205 = .ok (.iconst 4, 1) := by decide +kernel
theorem dX8_init_206 : decode cX8_init 206 = .ok (.bipush (-9), 2) := by decide +kernel
theorem dX8_init_208 : decode cX8_init 208 = .ok (.iastore, 1) := by decide +kernel
theorem dX8_init_209 : decode cX8_init 209 = .ok (.iconst 1, 1) := by decide +kernel
theorem dX8_init_210 : decode cX8_init 210 = .ok (.istore_n 1, 1) := by decide +kernel
theorem dX8_init_211 : decode cX8_init 211 = .ok (.iload_n 1, 1) := by decide +kernel
theorem dX8_init_212 : decode cX8_init 212 = .ok (.iconst 4, 1) := by decide +kernel
theorem dX8_init_213 : decode cX8_init 213 = .ok (.if_icmp .ge 22, 3) := by decide +kernel
theorem dX8_init_216 : decode cX8_init 216 = .ok (.aload_n 0, 1) := by decide +kernel
theorem dX8_init_217 : decode cX8_init 217 = .ok (.getfield 7, 3) := by decide +kernel
theorem dX8_init_220 : decode cX8_init 220 = .ok (.sipush 411, 3) := by decide +kernel
theorem dX8_init_223 : decode cX8_init 223 = .ok (.iload_n 1, 1) := by decide +kernel
theorem dX8_init_224 : decode cX8_init 224 = .ok (.imul, 1) := by decide +kernel
theorem dX8_init_225 : decode cX8_init 225 = .ok (.iconst 0, 1) := by decide +kernel
theorem dX8_init_226 : decode cX8_init 226 = .ok (.iadd, 1) := by decide +kernel
theorem dX8_init_227 : decode cX8_init 227 = .ok (.iconst (-1), 1) := by decide +kernel
theorem dX8_init_228 : decode cX8_init 228 = .ok (.iastore, 1) := by decide +kernel
theorem dX8_init_229 : decode cX8_init 229 = .ok (.iinc 1 1, 3) := by decide +kernel
theorem dX8_init_232 : decode cX8_init 232 = .ok (.goto (-21), 3) := by decide +kernel
theorem dX8_init_235 : decode cX8_init 235 = .ok (.return_, 1) := by decide +kernel
theorem dX8_bits_0 : decode cX8_bits 0 = .ok (.iconst 0, 1) := by decide +kernel
theorem dX8_bits_1 : decode cX8_bits 1 = .ok (.istore_n 1, 1) := by decide +kernel
theorem dX8_bits_2 : decode cX8_bits 2 = .ok (.iconst 0, 1) := by decide +kernel
theorem dX8_bits_3 : decode cX8_bits 3 = .ok (.istore_n 2, 1) := by decide +kernel
theorem dX8_bits_4 : decode cX8_bits 4 = .ok (.iload_n 2, 1) := by decide +kernel
theorem dX8_bits_5 : decode cX8_bits 5 = .ok (.bipush 12, 2) := by decide +kernel
theorem dX8_bits_7 : decode cX8_bits 7 = .ok (.if_icmp .ge 17, 3) := by decide +kernel
theorem dX8_bits_10 : decode cX8_bits 10 = .ok (.iload_n 1, 1) := by decide +kernel
theorem dX8_bits_11 : decode cX8_bits 11 = .ok (.iload_n 0, 1) := by decide +kernel
theorem dX8_bits_12 : decode cX8_bits 12 = .ok (.iload_n 2, 1) := by decide +kernel
theorem dX8_bits_13 : decode cX8_bits 13 = .ok (.ishr, 1) := by decide +kernel
theorem dX8_bits_14 : decode cX8_bits 14 = .ok (.iconst 1, 1) := by decide +kernel
theorem dX8_bits_15 : decode cX8_bits 15 = .ok (.iand, 1) := by decide +kernel
theorem dX8_bits_16 : decode cX8_bits 16 = .ok (.iadd, 1) := by decide +kernel
theorem dX8_bits_17 : decode cX8_bits 17 = .ok (.istore_n 1, 1) := by decide +kernel
theorem dX8_bits_18 : decode cX8_bits 18 = .ok (.iinc 2 1, 3) := by decide +kernel
theorem dX8_bits_21 : decode cX8_bits 21 = .ok (.goto (-17), 3) := by decide +kernel
theorem dX8_bits_24 : decode cX8_bits 24 = .ok (.iload_n 1, 1) := by decide +kernel
theorem dX8_bits_25 : decode cX8_bits 25 = .ok (.ireturn, 1) := by decide +kernel
theorem dX8_in_0 : decode cX8_in 0 = .ok (.lload_n 0, 1) := by decide +kernel
theorem dX8_in_1 : decode cX8_in 1 = .ok (.lload_n 2, 1) := by decide +kernel
theorem dX8_in_2 : decode cX8_in 2 = .ok (.lcmp, 1) := by decide +kernel
theorem dX8_in_3 : decode cX8_in 3 = .ok (.ifCond .lt 14, 3) := by decide +kernel
theorem dX8_in_6 : decode cX8_in 6 = .ok (.lload_n 0, 1) := by decide +kernel
theorem dX8_in_7 : decode cX8_in 7 = .ok (.lload 4, 2) := by decide +kernel
theorem dX8_in_9 : decode cX8_in 9 = .ok (.lcmp, 1) := by decide +kernel
theorem dX8_in_10 : decode cX8_in 10 = .ok (.ifCond .gt 7, 3) := by decide +kernel
theorem dX8_in_13 : decode cX8_in 13 = .ok (.iconst 1, 1) := by decide +kernel
theorem dX8_in_14 : decode cX8_in 14 = .ok (.goto 4, 3) := by decide +kernel
theorem dX8_in_17 : decode cX8_in 17 = .ok (.iconst 0, 1) := by decide +kernel
theorem dX8_in_18 : decode cX8_in 18 = .ok (.ireturn, 1) := by decide +kernel
theorem dX8_has_0 : decode cX8_has 0 = .ok (.iload_n 0, 1) := by decide +kernel
theorem dX8_has_1 : decode cX8_has 1 = .ok (.iload_n 1, 1) := by decide +kernel
theorem dX8_has_2 : decode cX8_has 2 = .ok (.ishr, 1) := by decide +kernel
theorem dX8_has_3 : decode cX8_has 3 = .ok (.iconst 1, 1) := by decide +kernel
theorem dX8_has_4 : decode cX8_has 4 = .ok (.iand, 1) := by decide +kernel
theorem dX8_has_5 : decode cX8_has 5 = .ok (.iconst 1, 1) := by decide +kernel
theorem dX8_has_6 : decode cX8_has 6 = .ok (.if_icmp .ne 7, 3) := by decide +kernel
theorem dX8_has_9 : decode cX8_has 9 = .ok (.iconst 1, 1) := by decide +kernel
theorem dX8_has_10 : decode cX8_has 10 = .ok (.goto 4, 3) := by decide +kernel
theorem dX8_has_13 : decode cX8_has 13 = .ok (.iconst 0, 1) := by decide +kernel
theorem dX8_has_14 : decode cX8_has 14 = .ok (.ireturn, 1) := by decide +kernel
theorem dX8_find_0 : decode cX8_find 0 = .ok (.aload_n 0, 1) := by decide +kernel
theorem dX8_find_1 : decode cX8_find 1 = .ok (.iload_n 1, 1) := by decide +kernel
theorem dX8_find_2 : decode cX8_find 2 = .ok (.putfield 72, 3) := by decide +kernel
theorem dX8_find_5 : decode cX8_find 5 = .ok (.aload_n 0, 1) := by decide +kernel
theorem dX8_find_6 : decode cX8_find 6 = .ok (.getfield 41, 3) := by decide +kernel
theorem dX8_find_9 : decode cX8_find 9 = .ok (.iload_n 1, 1) := by decide +kernel
theorem dX8_find_10 : decode cX8_find 10 = .ok (.dup2, 1) := by decide +kernel
theorem dX8_find_11 : decode cX8_find 11 = .ok (.iaload, 1) := by decide +kernel
theorem dX8_find_12 : decode cX8_find 12 = .ok (.iconst 1, 1) := by decide +kernel
theorem dX8_find_13 : decode cX8_find 13 = .ok (.iadd, 1) := by decide +kernel
theorem dX8_find_14 : decode cX8_find 14 = .ok (.iastore, 1) := by decide +kernel
theorem dX8_find_15 : decode cX8_find 15 = .ok (.bipush (-3), 2) := by decide +kernel
theorem dX8_find_17 : decode cX8_find 17 = .ok (.ireturn, 1) := by decide +kernel
theorem dX8_tell_0 : decode cX8_tell 0 = .ok (.aload_n 0, 1) := by decide +kernel
theorem dX8_tell_1 : decode cX8_tell 1 = .ok (.iload_n 1, 1) := by decide +kernel
theorem dX8_tell_2 : decode cX8_tell 2 = .ok (.putfield 76, 3) := by decide +kernel
theorem dX8_tell_5 : decode cX8_tell 5 = .ok (.iconst 1, 1) := by decide +kernel
theorem dX8_tell_6 : decode cX8_tell 6 = .ok (.ireturn, 1) := by decide +kernel
set_option maxRecDepth 20000 in
theorem ggX8_isRow_X8_in : GoodIn wsX8_isRow wsX8_in := goodIn_r _ [5] (by decide +kernel) (by decide +kernel)
set_option maxRecDepth 20000 in
theorem gX8_isRow_X8_in : GoodIn wsX8_isRow (va_wsS RX8 81 yX8_in wsX8_in) := goodIn_app (goodIn_of _ (by decide +kernel)) ggX8_isRow_X8_in
theorem dX8_isRow_0 : decode cX8_isRow 0 = .ok (.iload_n 0, 1) := by decide +kernel
theorem dX8_isRow_1 : decode cX8_isRow 1 = .ok (.i2l, 1) := by decide +kernel
theorem dX8_isRow_2 : decode cX8_isRow 2 = .ok (.lconst 0, 1) := by decide +kernel
theorem dX8_isRow_3 : decode cX8_isRow 3 = .ok (.ldc2_w 79, 3) := by decide +kernel
theorem dX8_isRow_6 : decode cX8_isRow 6 = .ok (.invokestatic 81, 3) := by decide +kernel
theorem dX8_isRow_9 : decode cX8_isRow 9 = .ok (.ireturn, 1) := by decide +kernel
set_option maxRecDepth 20000 in
theorem ggX8_isText_X8_in : GoodIn wsX8_isText wsX8_in := goodIn_r _ [5] (by decide +kernel) (by decide +kernel)
set_option maxRecDepth 20000 in
theorem gX8_isText_X8_in : GoodIn wsX8_isText (va_wsS RX8 81 yX8_in wsX8_in) := goodIn_app (goodIn_of _ (by decide +kernel)) ggX8_isText_X8_in
theorem dX8_isText_0 : decode cX8_isText 0 = .ok (.iload_n 0, 1) := by decide +kernel
theorem dX8_isText_1 : decode cX8_isText 1 = .ok (.i2l, 1) := by decide +kernel
theorem dX8_isText_2 : decode cX8_isText 2 = .ok (.lconst 0, 1) := by decide +kernel
theorem dX8_isText_3 : decode cX8_isText 3 = .ok (.ldc2_w 85, 3) := by decide +kernel
theorem dX8_isText_6 : decode cX8_isText 6 = .ok (.invokestatic 81, 3) := by decide +kernel
theorem dX8_isText_9 : decode cX8_isText 9 = .ok (.ireturn, 1) := by decide +kernel
set_option maxRecDepth 20000 in
theorem ggX8_row_X8_isRow : GoodIn wsX8_row wsX8_isRow := goodIn_r _ [4, 5, 6, 7, 3, 8] (by decide +kernel) (by decide +kernel)
set_option maxRecDepth 20000 in
theorem gX8_row_X8_isRow : GoodIn wsX8_row (va_wsS RX8 87 yX8_isRow wsX8_isRow) := goodIn_app (goodIn_of _ (by decide +kernel)) ggX8_row_X8_isRow
set_option maxRecDepth 20000 in
theorem ggX8_row_X8_find : GoodIn wsX8_row wsX8_find := goodIn_r _ [12, 13, 14, 21, 22, 23, 24, 25, 26, 27, 28, 29, 30, 31, 32, 33, 34, 35, 36, 37, 38, 39, 40, 41, 42, 43, 44, 45, 46, 47, 48, 49, 50, 51, 52, 53] (by decide +kernel) (by decide +kernel)
set_option maxRecDepth 20000 in
theorem gX8_row_X8_find : GoodIn wsX8_row (wsV RX8 91 RX8 yX8_find wsX8_find) := goodIn_app (goodIn_of _ (by decide +kernel)) ggX8_row_X8_find
set_option maxRecDepth 20000 in
theorem ggX8_row_X8_makeRow : GoodIn wsX8_row wsX8_makeRow := goodIn_r _ [18, 19, 20, 21, 22, 23, 24, 25, 26, 27, 28, 29, 30, 31, 32, 33, 34, 35, 36, 37, 38, 39, 40, 41, 42, 43, 44, 45, 46, 47, 48, 49, 50, 51, 52, 53] (by decide +kernel) (by decide +kernel)
set_option maxRecDepth 20000 in
theorem gX8_row_X8_makeRow : GoodIn wsX8_row (wsV RX8 95 RX8 yX8_makeRow wsX8_makeRow) := goodIn_app (goodIn_of _ (by decide +kernel)) ggX8_row_X8_makeRow
theorem dX8_row_0 : decode cX8_row 0 = .ok (.iload_n 1, 1) := by decide +kernel
theorem dX8_row_1 : decode cX8_row 1 = .ok (.invokestatic 87, 3) := by decide +kernel
theorem dX8_row_4 : decode cX8_row 4 = .ok (.ifCond .eq 9, 3) := by decide +kernel
theorem dX8_row_7 : decode cX8_row 7 = .ok (.iload_n 2, 1) := by decide +kernel
theorem dX8_row_8 : decode cX8_row 8 = .ok (.bipush 40, 2) := by decide +kernel
theorem dX8_row_10 : decode cX8_row 10 = .ok (.if_icmp .le 5, 3) := by decide +kernel
theorem dX8_row_13 : decode cX8_row 13 = .ok (.iconst (-1), 1) := by decide +kernel
theorem dX8_row_14 : decode cX8_row 14 = .ok (.ireturn, 1) := by decide +kernel
theorem dX8_row_15 : decode cX8_row 15 = .ok (.iload_n 2, 1) := by decide +kernel
theorem dX8_row_16 : decode cX8_row 16 = .ok (.ifCond .ge 9, 3) := by decide +kernel
theorem dX8_row_19 : decode cX8_row 19 = .ok (.aload_n 0, 1) := by decide +kernel
theorem dX8_row_20 : decode cX8_row 20 = .ok (.iconst 5, 1) := by decide +kernel
theorem dX8_row_21 : decode cX8_row 21 = .ok (.invokevirtual 91, 3) := by decide +kernel
theorem dX8_row_24 : decode cX8_row 24 = .ok (.ireturn, 1) := by decide +kernel
theorem dX8_row_25 : decode cX8_row 25 = .ok (.aload_n 0, 1) := by decide +kernel
theorem dX8_row_26 : decode cX8_row 26 = .ok (.iload_n 1, 1) := by decide +kernel
theorem dX8_row_27 : decode cX8_row 27 = .ok (.iload_n 2, 1) := by decide +kernel
theorem dX8_row_28 : decode cX8_row 28 = .ok (.invokevirtual 95, 3) := by decide +kernel
theorem dX8_row_31 : decode cX8_row 31 = .ok (.iload_n 2, 1) := by decide +kernel
theorem dX8_row_32 : decode cX8_row 32 = .ok (.ireturn, 1) := by decide +kernel
theorem dX8_makeRow_0 : decode cX8_makeRow 0 = .ok (.aload_n 0, 1) := by decide +kernel
theorem dX8_makeRow_1 : decode cX8_makeRow 1 = .ok (.getfield 25, 3) := by decide +kernel
theorem dX8_makeRow_4 : decode cX8_makeRow 4 = .ok (.iload_n 1, 1) := by decide +kernel
theorem dX8_makeRow_5 : decode cX8_makeRow 5 = .ok (.iload_n 2, 1) := by decide +kernel
theorem dX8_makeRow_6 : decode cX8_makeRow 6 = .ok (.iastore, 1) := by decide +kernel
theorem dX8_makeRow_7 : decode cX8_makeRow 7 = .ok (.iconst 0, 1) := by decide +kernel
theorem dX8_makeRow_8 : decode cX8_makeRow 8 = .ok (.istore_n 3, 1) := by decide +kernel
theorem dX8_makeRow_9 : decode cX8_makeRow 9 = .ok (.iload_n 3, 1) := by decide +kernel
theorem dX8_makeRow_10 : decode cX8_makeRow 10 = .ok (.bipush 40, 2) := by decide +kernel
theorem dX8_makeRow_12 : decode cX8_makeRow 12 = .ok (.if_icmp .ge 21, 3) := by decide +kernel
theorem dX8_makeRow_15 : decode cX8_makeRow 15 = .ok (.aload_n 0, 1) := by decide +kernel
theorem dX8_makeRow_16 : decode cX8_makeRow 16 = .ok (.getfield 28, 3) := by decide +kernel
theorem dX8_makeRow_19 : decode cX8_makeRow 19 = .ok (.bipush 40, 2) := by decide +kernel
theorem dX8_makeRow_21 : decode cX8_makeRow 21 = .ok (.iload_n 1, 1) := by decide +kernel
theorem dX8_makeRow_22 : decode cX8_makeRow 22 = .ok (.imul, 1) := by decide +kernel
theorem dX8_makeRow_23 : decode cX8_makeRow 23 = .ok (.iload_n 3, 1) := by decide +kernel
theorem dX8_makeRow_24 : decode cX8_makeRow 24 = .ok (.iadd, 1) := by decide +kernel
theorem dX8_makeRow_25 : decode cX8_makeRow 25 = .ok (.iconst 0, 1) := by decide +kernel
theorem dX8_makeRow_26 : decode cX8_makeRow 26 = .ok (.iastore, 1) := by decide +kernel
theorem dX8_makeRow_27 : decode cX8_makeRow 27 = .ok (.iinc 3 1, 3) := by decide +kernel
theorem dX8_makeRow_30 : decode cX8_makeRow 30 = .ok (.goto (-21), 3) := by decide +kernel
theorem dX8_makeRow_33 : decode cX8_makeRow 33 = .ok (.return_, 1) := by decide +kernel
set_option maxRecDepth 20000 in
theorem ggX8_refused_X8_isRow : GoodIn wsX8_refused wsX8_isRow := goodIn_r _ [5, 6, 7, 8, 4, 9] (by decide +kernel) (by decide +kernel)
set_option maxRecDepth 20000 in
theorem gX8_refused_X8_isRow : GoodIn wsX8_refused (va_wsS RX8 87 yX8_isRow wsX8_isRow) := goodIn_app (goodIn_of _ (by decide +kernel)) ggX8_refused_X8_isRow
set_option maxRecDepth 20000 in
theorem ggX8_refused_X8_find : GoodIn wsX8_refused wsX8_find := goodIn_r _ [13, 14, 15, 16, 17, 18, 19, 20, 21, 22, 23, 24, 25, 26, 27, 28, 29, 30, 31, 32, 33, 34, 35, 36, 37, 38, 39, 40, 41, 42, 43, 44, 45, 46, 47, 48] (by decide +kernel) (by decide +kernel)
set_option maxRecDepth 20000 in
theorem gX8_refused_X8_find : GoodIn wsX8_refused (wsV RX8 91 RX8 yX8_find wsX8_find) := goodIn_app (goodIn_of _ (by decide +kernel)) ggX8_refused_X8_find
set_option maxRecDepth 20000 in
theorem ggX8_refused_X8_in : GoodIn wsX8_refused wsX8_in := goodIn_r _ [9] (by decide +kernel) (by decide +kernel)
set_option maxRecDepth 20000 in
theorem gX8_refused_X8_in : GoodIn wsX8_refused (va_wsS RX8 81 yX8_in wsX8_in) := goodIn_app (goodIn_of _ (by decide +kernel)) ggX8_refused_X8_in
theorem dX8_refused_0 : decode cX8_refused 0 = .ok (.iload_n 1, 1) := by decide +kernel
theorem dX8_refused_1 : decode cX8_refused 1 = .ok (.invokestatic 87, 3) := by decide +kernel
theorem dX8_refused_4 : decode cX8_refused 4 = .ok (.ifCond .ne 7, 3) := by decide +kernel
theorem dX8_refused_7 : decode cX8_refused 7 = .ok (.iconst (-1), 1) := by decide +kernel
theorem dX8_refused_8 : decode cX8_refused 8 = .ok (.goto 47, 3) := by decide +kernel
theorem dX8_refused_11 : decode cX8_refused 11 = .ok (.aload_n 0, 1) := by decide +kernel
theorem dX8_refused_12 : decode cX8_refused 12 = .ok (.getfield 25, 3) := by decide +kernel
theorem dX8_refused_15 : decode cX8_refused 15 = .ok (.iload_n 1, 1) := by decide +kernel
theorem dX8_refused_16 : decode cX8_refused 16 = .ok (.iaload, 1) := by decide +kernel
theorem dX8_refused_17 : decode cX8_refused 17 = .ok (.ifCond .ge 11, 3) := by decide +kernel
theorem dX8_refused_20 : decode cX8_refused 20 = .ok (.aload_n 0, 1) := by decide +kernel
theorem dX8_refused_21 : decode cX8_refused 21 = .ok (.iconst 1, 1) := by decide +kernel
theorem dX8_refused_22 : decode cX8_refused 22 = .ok (.invokevirtual 91, 3) := by decide +kernel
theorem dX8_refused_25 : decode cX8_refused 25 = .ok (.goto 30, 3) := by decide +kernel
theorem dX8_refused_28 : decode cX8_refused 28 = .ok (.iload_n 2, 1) := by decide +kernel
theorem dX8_refused_29 : decode cX8_refused 29 = .ok (.i2l, 1) := by decide +kernel
theorem dX8_refused_30 : decode cX8_refused 30 = .ok (.lconst 0, 1) := by decide +kernel
theorem dX8_refused_31 : decode cX8_refused 31 = .ok (.aload_n 0, 1) := by decide +kernel
theorem dX8_refused_32 : decode cX8_refused 32 = .ok (.getfield 25, 3) := by decide +kernel
theorem dX8_refused_35 : decode cX8_refused 35 = .ok (.iload_n 1, 1) := by decide +kernel
theorem dX8_refused_36 : decode cX8_refused 36 = .ok (.iaload, 1) := by decide +kernel
theorem dX8_refused_37 : decode cX8_refused 37 = .ok (.iconst 1, 1) := by decide +kernel
theorem dX8_refused_38 : decode cX8_refused 38 = .ok (.isub, 1) := by decide +kernel
theorem dX8_refused_39 : decode cX8_refused 39 = .ok (.i2l, 1) := by decide +kernel
theorem dX8_refused_40 : decode cX8_refused 40 = .ok (.invokestatic 81, 3) := by decide +kernel
theorem dX8_refused_43 : decode cX8_refused 43 = .ok (.ifCond .eq 7, 3) := by decide +kernel
theorem dX8_refused_46 : decode cX8_refused 46 = .ok (.iconst 0, 1) := by decide +kernel
theorem dX8_refused_47 : decode cX8_refused 47 = .ok (.goto 8, 3) := by decide +kernel
theorem dX8_refused_50 : decode cX8_refused 50 = .ok (.aload_n 0, 1) := by decide +kernel
theorem dX8_refused_51 : decode cX8_refused 51 = .ok (.iconst 2, 1) := by decide +kernel
theorem dX8_refused_52 : decode cX8_refused 52 = .ok (.invokevirtual 91, 3) := by decide +kernel
theorem dX8_refused_55 : decode cX8_refused 55 = .ok (.ireturn, 1) := by decide +kernel
set_option maxRecDepth 20000 in
theorem ggX8_lay_X8_refused : GoodIn wsX8_lay wsX8_refused := goodIn_r _ [6, 7, 8, 9, 5, 10, 11, 12, 13, 14, 15, 16, 17, 18, 19, 20, 26, 27, 28, 29, 30, 31, 32, 33, 34, 35, 36, 37, 38, 39, 40, 41, 42, 43, 44, 45, 46, 47, 48, 49, 50, 51, 52, 53, 54, 55, 56, 57, 58] (by decide +kernel) (by decide +kernel)
set_option maxRecDepth 20000 in
theorem gX8_lay_X8_refused : GoodIn wsX8_lay (wsV RX8 99 RX8 yX8_refused wsX8_refused) := goodIn_app (goodIn_of _ (by decide +kernel)) ggX8_lay_X8_refused
set_option maxRecDepth 20000 in
theorem ggX8_lay_X8_tell : GoodIn wsX8_lay wsX8_tell := goodIn_r _ [24, 25, 26, 27, 28, 29, 30, 31, 32, 33, 34, 35, 36, 37, 38, 39, 40, 41, 42, 43, 44, 45, 46, 47, 48, 49, 50, 51, 52, 53, 54, 55, 56, 57, 58] (by decide +kernel) (by decide +kernel)
set_option maxRecDepth 20000 in
theorem gX8_lay_X8_tell : GoodIn wsX8_lay (wsV RX8 103 RX8 yX8_tell wsX8_tell) := goodIn_app (goodIn_of _ (by decide +kernel)) ggX8_lay_X8_tell
theorem dX8_lay_0 : decode cX8_lay 0 = .ok (.aload_n 0, 1) := by decide +kernel
theorem dX8_lay_1 : decode cX8_lay 1 = .ok (.iload_n 1, 1) := by decide +kernel
theorem dX8_lay_2 : decode cX8_lay 2 = .ok (.iload_n 2, 1) := by decide +kernel
theorem dX8_lay_3 : decode cX8_lay 3 = .ok (.invokevirtual 99, 3) := by decide +kernel
theorem dX8_lay_6 : decode cX8_lay 6 = .ok (.istore 4, 2) := by decide +kernel
theorem dX8_lay_8 : decode cX8_lay 8 = .ok (.iload 4, 2) := by decide +kernel
theorem dX8_lay_10 : decode cX8_lay 10 = .ok (.ifCond .eq 6, 3) := by decide +kernel
theorem dX8_lay_13 : decode cX8_lay 13 = .ok (.iload 4, 2) := by decide +kernel
theorem dX8_lay_15 : decode cX8_lay 15 = .ok (.ireturn, 1) := by decide +kernel
theorem dX8_lay_16 : decode cX8_lay 16 = .ok (.aload_n 0, 1) := by decide +kernel
theorem dX8_lay_17 : decode cX8_lay 17 = .ok (.getfield 28, 3) := by decide +kernel
theorem dX8_lay_20 : decode cX8_lay 20 = .ok (.bipush 40, 2) := by decide +kernel
theorem dX8_lay_22 : decode cX8_lay 22 = .ok (.iload_n 1, 1) := by decide +kernel
theorem dX8_lay_23 : decode cX8_lay 23 = .ok (.imul, 1) := by decide +kernel
theorem dX8_lay_24 : decode cX8_lay 24 = .ok (.iload_n 2, 1) := by decide +kernel
theorem dX8_lay_25 : decode cX8_lay 25 = .ok (.iadd, 1) := by decide +kernel
theorem dX8_lay_26 : decode cX8_lay 26 = .ok (.iaload, 1) := by decide +kernel
theorem dX8_lay_27 : decode cX8_lay 27 = .ok (.istore 5, 2) := by decide +kernel
theorem dX8_lay_29 : decode cX8_lay 29 = .ok (.aload_n 0, 1) := by decide +kernel
theorem dX8_lay_30 : decode cX8_lay 30 = .ok (.getfield 28, 3) := by decide +kernel
theorem dX8_lay_33 : decode cX8_lay 33 = .ok (.bipush 40, 2) := by decide +kernel
theorem dX8_lay_35 : decode cX8_lay 35 = .ok (.iload_n 1, 1) := by decide +kernel
theorem dX8_lay_36 : decode cX8_lay 36 = .ok (.imul, 1) := by decide +kernel
theorem dX8_lay_37 : decode cX8_lay 37 = .ok (.iload_n 2, 1) := by decide +kernel
theorem dX8_lay_38 : decode cX8_lay 38 = .ok (.iadd, 1) := by decide +kernel
theorem dX8_lay_39 : decode cX8_lay 39 = .ok (.iload_n 3, 1) := by decide +kernel
theorem dX8_lay_40 : decode cX8_lay 40 = .ok (.iastore, 1) := by decide +kernel
theorem dX8_lay_41 : decode cX8_lay 41 = .ok (.aload_n 0, 1) := by decide +kernel
theorem dX8_lay_42 : decode cX8_lay 42 = .ok (.iload 5, 2) := by decide +kernel
