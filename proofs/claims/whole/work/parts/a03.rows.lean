theorem dX0_init_0 : decode cX0_init 0 = .ok (.aload_n 0, 1) := by decide +kernel
theorem dX0_init_1 : decode cX0_init 1 = .ok (.invokespecial 3, 3) := by decide +kernel
theorem dX0_init_4 : decode cX0_init 4 = .ok (.aload_n 0, 1) := by decide +kernel
theorem dX0_init_5 : decode cX0_init 5 = .ok (.bipush 13, 2) := by decide +kernel
theorem dX0_init_7 : decode cX0_init 7 = .ok (.newarray .long, 2) := by decide +kernel
theorem dX0_init_9 : decode cX0_init 9 = .ok (.putfield 9, 3) := by decide +kernel
theorem dX0_init_12 : decode cX0_init 12 = .ok (.aload_n 0, 1) := by decide +kernel
theorem dX0_init_13 : decode cX0_init 13 = .ok (.lconst 1, 1) := by decide +kernel
theorem dX0_init_14 : decode cX0_init 14 = .ok (.putfield 15, 3) := by decide +kernel
theorem dX0_init_17 : decode cX0_init 17 = .ok (.return_, 1) := by decide +kernel
theorem dX0_fit_0 : decode cX0_fit 0 = .ok (.iload_n 0, 1) := by decide +kernel
theorem dX0_fit_1 : decode cX0_fit 1 = .ok (.ifCond .lt 23, 3) := by decide +kernel
theorem dX0_fit_4 : decode cX0_fit 4 = .ok (.iload_n 0, 1) := by decide +kernel
theorem dX0_fit_5 : decode cX0_fit 5 = .ok (.bipush 12, 2) := by decide +kernel
theorem dX0_fit_7 : decode cX0_fit 7 = .ok (.if_icmp .gt 17, 3) := by decide +kernel
theorem dX0_fit_10 : decode cX0_fit 10 = .ok (.iload_n 1, 1) := by decide +kernel
theorem dX0_fit_11 : decode cX0_fit 11 = .ok (.ifCond .lt 13, 3) := by decide +kernel
theorem dX0_fit_14 : decode cX0_fit 14 = .ok (.iload_n 1, 1) := by decide +kernel
theorem dX0_fit_15 : decode cX0_fit 15 = .ok (.bipush 12, 2) := by decide +kernel
theorem dX0_fit_17 : decode cX0_fit 17 = .ok (.if_icmp .gt 7, 3) := by decide +kernel
theorem dX0_fit_20 : decode cX0_fit 20 = .ok (.iconst 1, 1) := by decide +kernel
theorem dX0_fit_21 : decode cX0_fit 21 = .ok (.goto 4, 3) := by decide +kernel
theorem dX0_fit_24 : decode cX0_fit 24 = .ok (.iconst 0, 1) := by decide +kernel
theorem dX0_fit_25 : decode cX0_fit 25 = .ok (.ireturn, 1) := by decide +kernel
set_option maxRecDepth 20000 in
theorem ggX0_spread_J7_fill_d0a16 : GoodIn wsX0_spread wsJ7_fill_d0a16 := goodIn_r _ [7] (by decide +kernel) (by decide +kernel)
set_option maxRecDepth 20000 in
theorem gX0_spread_J7_fill_d0a16 : GoodIn wsX0_spread (va_wsS RX0 19 yJ7_fill_d0a16 wsJ7_fill_d0a16) := goodIn_app (goodIn_of _ (by decide +kernel)) ggX0_spread_J7_fill_d0a16
theorem dX0_spread_0 : decode cX0_spread 0 = .ok (.aload_n 0, 1) := by decide +kernel
theorem dX0_spread_1 : decode cX0_spread 1 = .ok (.getfield 9, 3) := by decide +kernel
theorem dX0_spread_4 : decode cX0_spread 4 = .ok (.lconst 0, 1) := by decide +kernel
theorem dX0_spread_5 : decode cX0_spread 5 = .ok (.invokestatic 19, 3) := by decide +kernel
theorem dX0_spread_8 : decode cX0_spread 8 = .ok (.aload_n 0, 1) := by decide +kernel
theorem dX0_spread_9 : decode cX0_spread 9 = .ok (.getfield 9, 3) := by decide +kernel
theorem dX0_spread_12 : decode cX0_spread 12 = .ok (.iconst 0, 1) := by decide +kernel
theorem dX0_spread_13 : decode cX0_spread 13 = .ok (.lconst 1, 1) := by decide +kernel
theorem dX0_spread_14 : decode cX0_spread 14 = .ok (.lastore, 1) := by decide +kernel
theorem dX0_spread_15 : decode cX0_spread 15 = .ok (.aload_n 0, 1) := by decide +kernel
theorem dX0_spread_16 : decode cX0_spread 16 = .ok (.lconst 1, 1) := by decide +kernel
theorem dX0_spread_17 : decode cX0_spread 17 = .ok (.putfield 15, 3) := by decide +kernel
theorem dX0_spread_20 : decode cX0_spread 20 = .ok (.iconst 1, 1) := by decide +kernel
theorem dX0_spread_21 : decode cX0_spread 21 = .ok (.istore_n 3, 1) := by decide +kernel
theorem dX0_spread_22 : decode cX0_spread 22 = .ok (.iload_n 3, 1) := by decide +kernel
theorem dX0_spread_23 : decode cX0_spread 23 = .ok (.iload_n 1, 1) := by decide +kernel
theorem dX0_spread_24 : decode cX0_spread 24 = .ok (.if_icmp .gt 85, 3) := by decide +kernel
theorem dX0_spread_27 : decode cX0_spread 27 = .ok (.iload_n 3, 1) := by decide +kernel
theorem dX0_spread_28 : decode cX0_spread 28 = .ok (.bipush 12, 2) := by decide +kernel
theorem dX0_spread_30 : decode cX0_spread 30 = .ok (.if_icmp .gt 79, 3) := by decide +kernel
theorem dX0_spread_33 : decode cX0_spread 33 = .ok (.iload_n 3, 1) := by decide +kernel
theorem dX0_spread_34 : decode cX0_spread 34 = .ok (.istore 4, 2) := by decide +kernel
theorem dX0_spread_36 : decode cX0_spread 36 = .ok (.iload 4, 2) := by decide +kernel
theorem dX0_spread_38 : decode cX0_spread 38 = .ok (.ifCond .le 42, 3) := by decide +kernel
theorem dX0_spread_41 : decode cX0_spread 41 = .ok (.aload_n 0, 1) := by decide +kernel
theorem dX0_spread_42 : decode cX0_spread 42 = .ok (.getfield 9, 3) := by decide +kernel
theorem dX0_spread_45 : decode cX0_spread 45 = .ok (.iload 4, 2) := by decide +kernel
theorem dX0_spread_47 : decode cX0_spread 47 = .ok (.aload_n 0, 1) := by decide +kernel
theorem dX0_spread_48 : decode cX0_spread 48 = .ok (.getfield 9, 3) := by decide +kernel
theorem dX0_spread_51 : decode cX0_spread 51 = .ok (.iload 4, 2) := by decide +kernel
theorem dX0_spread_53 : decode cX0_spread 53 = .ok (.laload, 1) := by decide +kernel
theorem dX0_spread_54 : decode cX0_spread 54 = .ok (.iload_n 2, 1) := by decide +kernel
theorem dX0_spread_55 : decode cX0_spread 55 = .ok (.i2l, 1) := by decide +kernel
theorem dX0_spread_56 : decode cX0_spread 56 = .ok (.lmul, 1) := by decide +kernel
theorem dX0_spread_57 : decode cX0_spread 57 = .ok (.aload_n 0, 1) := by decide +kernel
theorem dX0_spread_58 : decode cX0_spread 58 = .ok (.getfield 9, 3) := by decide +kernel
theorem dX0_spread_61 : decode cX0_spread 61 = .ok (.iload 4, 2) := by decide +kernel
theorem dX0_spread_63 : decode cX0_spread 63 = .ok (.iconst 1, 1) := by decide +kernel
theorem dX0_spread_64 : decode cX0_spread 64 = .ok (.isub, 1) := by decide +kernel
theorem dX0_spread_65 : decode cX0_spread 65 = .ok (.laload, 1) := by decide +kernel
theorem dX0_spread_66 : decode cX0_spread 66 = .ok (.bipush 12, 2) := by decide +kernel
theorem dX0_spread_68 : decode cX0_spread 68 = .ok (.iload_n 2, 1) := by decide +kernel
theorem dX0_spread_69 : decode cX0_spread 69 = .ok (.isub, 1) := by decide +kernel
theorem dX0_spread_70 : decode cX0_spread 70 = .ok (.i2l, 1) := by decide +kernel
theorem dX0_spread_71 : decode cX0_spread 71 = .ok (.lmul, 1) := by decide +kernel
theorem dX0_spread_72 : decode cX0_spread 72 = .ok (.ladd, 1) := by decide +kernel
theorem dX0_spread_73 : decode cX0_spread 73 = .ok (.lastore, 1) := by decide +kernel
theorem dX0_spread_74 : decode cX0_spread 74 = .ok (.iinc 4 (-1), 3) := by decide +kernel
theorem dX0_spread_77 : decode cX0_spread 77 = .ok (.goto (-41), 3) := by decide +kernel
theorem dX0_spread_80 : decode cX0_spread 80 = .ok (.aload_n 0, 1) := by decide +kernel
theorem dX0_spread_81 : decode cX0_spread 81 = .ok (.getfield 9, 3) := by decide +kernel
theorem dX0_spread_84 : decode cX0_spread 84 = .ok (.iconst 0, 1) := by decide +kernel
theorem dX0_spread_85 : decode cX0_spread 85 = .ok (.dup2, 1) := by decide +kernel
theorem dX0_spread_86 : decode cX0_spread 86 = .ok (.laload, 1) := by decide +kernel
theorem dX0_spread_87 : decode cX0_spread 87 = .ok (.iload_n 2, 1) := by decide +kernel
theorem dX0_spread_88 : decode cX0_spread 88 = .ok (.i2l, 1) := by decide +kernel
theorem dX0_spread_89 : decode cX0_spread 89 = .ok (.lmul, 1) := by decide +kernel
theorem dX0_spread_90 : decode cX0_spread 90 = .ok (.lastore, 1) := by decide +kernel
theorem dX0_spread_91 : decode cX0_spread 91 = .ok (.aload_n 0, 1) := by decide +kernel
theorem dX0_spread_92 : decode cX0_spread 92 = .ok (.dup, 1) := by decide +kernel
theorem dX0_spread_93 : decode cX0_spread 93 = .ok (.getfield 15, 3) := by decide +kernel
theorem dX0_spread_96 : decode cX0_spread 96 = .ok (.ldc2_w 25, 3) := by decide +kernel
theorem dX0_spread_99 : decode cX0_spread 99 = .ok (.lmul, 1) := by decide +kernel
theorem dX0_spread_100 : decode cX0_spread 100 = .ok (.putfield 15, 3) := by decide +kernel
theorem dX0_spread_103 : decode cX0_spread 103 = .ok (.iinc 3 1, 3) := by decide +kernel
theorem dX0_spread_106 : decode cX0_spread 106 = .ok (.goto (-84), 3) := by decide +kernel
theorem dX0_spread_109 : decode cX0_spread 109 = .ok (.return_, 1) := by decide +kernel
theorem dX0_strainSum_0 : decode cX0_strainSum 0 = .ok (.lconst 0, 1) := by decide +kernel
theorem dX0_strainSum_1 : decode cX0_strainSum 1 = .ok (.lstore_n 3, 1) := by decide +kernel
theorem dX0_strainSum_2 : decode cX0_strainSum 2 = .ok (.iconst 0, 1) := by decide +kernel
theorem dX0_strainSum_3 : decode cX0_strainSum 3 = .ok (.istore 5, 2) := by decide +kernel
theorem dX0_strainSum_5 : decode cX0_strainSum 5 = .ok (.iload 5, 2) := by decide +kernel
theorem dX0_strainSum_7 : decode cX0_strainSum 7 = .ok (.iload_n 1, 1) := by decide +kernel
theorem dX0_strainSum_8 : decode cX0_strainSum 8 = .ok (.if_icmp .gt 36, 3) := by decide +kernel
theorem dX0_strainSum_11 : decode cX0_strainSum 11 = .ok (.iload 5, 2) := by decide +kernel
theorem dX0_strainSum_13 : decode cX0_strainSum 13 = .ok (.bipush 12, 2) := by decide +kernel
theorem dX0_strainSum_15 : decode cX0_strainSum 15 = .ok (.if_icmp .gt 29, 3) := by decide +kernel
theorem dX0_strainSum_18 : decode cX0_strainSum 18 = .ok (.lload_n 3, 1) := by decide +kernel
theorem dX0_strainSum_19 : decode cX0_strainSum 19 = .ok (.aload_n 0, 1) := by decide +kernel
theorem dX0_strainSum_20 : decode cX0_strainSum 20 = .ok (.getfield 9, 3) := by decide +kernel
theorem dX0_strainSum_23 : decode cX0_strainSum 23 = .ok (.iload 5, 2) := by decide +kernel
theorem dX0_strainSum_25 : decode cX0_strainSum 25 = .ok (.laload, 1) := by decide +kernel
theorem dX0_strainSum_26 : decode cX0_strainSum 26 = .ok (.iconst 0, 1) := by decide +kernel
theorem dX0_strainSum_27 : decode cX0_strainSum 27 = .ok (.iload_n 2, 1) := by decide +kernel
theorem dX0_strainSum_28 : decode cX0_strainSum 28 = .ok (.iload 5, 2) := by decide +kernel
theorem dX0_strainSum_30 : decode cX0_strainSum 30 = .ok (.isub, 1) := by decide +kernel
theorem dX0_strainSum_31 : decode cX0_strainSum 31 = .ok (.invokestatic 27, 3) := by decide +kernel
theorem dX0_strainSum_34 : decode cX0_strainSum 34 = .ok (.i2l, 1) := by decide +kernel
theorem dX0_strainSum_35 : decode cX0_strainSum 35 = .ok (.lmul, 1) := by decide +kernel
theorem dX0_strainSum_36 : decode cX0_strainSum 36 = .ok (.ladd, 1) := by decide +kernel
theorem dX0_strainSum_37 : decode cX0_strainSum 37 = .ok (.lstore_n 3, 1) := by decide +kernel
theorem dX0_strainSum_38 : decode cX0_strainSum 38 = .ok (.iinc 5 1, 3) := by decide +kernel
theorem dX0_strainSum_41 : decode cX0_strainSum 41 = .ok (.goto (-36), 3) := by decide +kernel
theorem dX0_strainSum_44 : decode cX0_strainSum 44 = .ok (.lload_n 3, 1) := by decide +kernel
theorem dX0_strainSum_45 : decode cX0_strainSum 45 = .ok (.lreturn, 1) := by decide +kernel
theorem dX0_atMost_0 : decode cX0_atMost 0 = .ok (.lconst 0, 1) := by decide +kernel
theorem dX0_atMost_1 : decode cX0_atMost 1 = .ok (.lstore 4, 2) := by decide +kernel
theorem dX0_atMost_3 : decode cX0_atMost 3 = .ok (.iconst 0, 1) := by decide +kernel
theorem dX0_atMost_4 : decode cX0_atMost 4 = .ok (.istore 6, 2) := by decide +kernel
theorem dX0_atMost_6 : decode cX0_atMost 6 = .ok (.iload 6, 2) := by decide +kernel
theorem dX0_atMost_8 : decode cX0_atMost 8 = .ok (.iload_n 1, 1) := by decide +kernel
theorem dX0_atMost_9 : decode cX0_atMost 9 = .ok (.if_icmp .gt 40, 3) := by decide +kernel
theorem dX0_atMost_12 : decode cX0_atMost 12 = .ok (.iload 6, 2) := by decide +kernel
theorem dX0_atMost_14 : decode cX0_atMost 14 = .ok (.bipush 12, 2) := by decide +kernel
theorem dX0_atMost_16 : decode cX0_atMost 16 = .ok (.if_icmp .gt 33, 3) := by decide +kernel
theorem dX0_atMost_19 : decode cX0_atMost 19 = .ok (.iconst 0, 1) := by decide +kernel
theorem dX0_atMost_20 : decode cX0_atMost 20 = .ok (.iload_n 2, 1) := by decide +kernel
theorem dX0_atMost_21 : decode cX0_atMost 21 = .ok (.iload 6, 2) := by decide +kernel
theorem dX0_atMost_23 : decode cX0_atMost 23 = .ok (.isub, 1) := by decide +kernel
theorem dX0_atMost_24 : decode cX0_atMost 24 = .ok (.invokestatic 27, 3) := by decide +kernel
theorem dX0_atMost_27 : decode cX0_atMost 27 = .ok (.iload_n 3, 1) := by decide +kernel
theorem dX0_atMost_28 : decode cX0_atMost 28 = .ok (.if_icmp .gt 15, 3) := by decide +kernel
theorem dX0_atMost_31 : decode cX0_atMost 31 = .ok (.lload 4, 2) := by decide +kernel
theorem dX0_atMost_33 : decode cX0_atMost 33 = .ok (.aload_n 0, 1) := by decide +kernel
theorem dX0_atMost_34 : decode cX0_atMost 34 = .ok (.getfield 9, 3) := by decide +kernel
theorem dX0_atMost_37 : decode cX0_atMost 37 = .ok (.iload 6, 2) := by decide +kernel
theorem dX0_atMost_39 : decode cX0_atMost 39 = .ok (.laload, 1) := by decide +kernel
theorem dX0_atMost_40 : decode cX0_atMost 40 = .ok (.ladd, 1) := by decide +kernel
theorem dX0_atMost_41 : decode cX0_atMost 41 = .ok (.lstore 4, 2) := by decide +kernel
theorem dX0_atMost_43 : decode cX0_atMost 43 = .ok (.iinc 6 1, 3) := by decide +kernel
theorem dX0_atMost_46 : decode cX0_atMost 46 = .ok (.goto (-40), 3) := by decide +kernel
theorem dX0_atMost_49 : decode cX0_atMost 49 = .ok (.lload 4, 2) := by decide +kernel
theorem dX0_atMost_51 : decode cX0_atMost 51 = .ok (.lreturn, 1) := by decide +kernel
set_option maxRecDepth 20000 in
theorem ggX1_worth_X1_worthOf : GoodIn wsX1_worth wsX1_worthOf := goodIn_r _ [9, 10, 11, 12, 13, 14, 15, 16, 17, 18, 19, 20, 21, 22, 23, 24, 25, 26, 27, 28, 29, 30, 31, 32, 33, 34, 35, 36, 37, 38, 39, 40, 41, 3, 4, 5, 42, 43, 44, 45, 46, 47, 48, 49, 50, 51, 52, 53, 54, 55, 56, 57, 8, 58, 59, 60, 61, 0, 1, 2, 6, 7, 62, 63, 64, 65, 66, 67, 68, 69, 70, 71, 72, 73, 74] (by decide +kernel) (by decide +kernel)
set_option maxRecDepth 20000 in
theorem gX1_worth_X1_worthOf : GoodIn wsX1_worth (va_wsS RX1 17 yX1_worthOf wsX1_worthOf) := goodIn_app (goodIn_of _ (by decide +kernel)) ggX1_worth_X1_worthOf
theorem dX1_worth_0 : decode cX1_worth 0 = .ok (.iload 4, 2) := by decide +kernel
theorem dX1_worth_2 : decode cX1_worth 2 = .ok (.aload_n 0, 1) := by decide +kernel
theorem dX1_worth_3 : decode cX1_worth 3 = .ok (.getfield 9, 3) := by decide +kernel
theorem dX1_worth_6 : decode cX1_worth 6 = .ok (.if_icmp .ge 10, 3) := by decide +kernel
theorem dX1_worth_9 : decode cX1_worth 9 = .ok (.iload 4, 2) := by decide +kernel
theorem dX1_worth_11 : decode cX1_worth 11 = .ok (.bipush 6, 2) := by decide +kernel
theorem dX1_worth_13 : decode cX1_worth 13 = .ok (.if_icmp .lt 5, 3) := by decide +kernel
theorem dX1_worth_16 : decode cX1_worth 16 = .ok (.iconst 0, 1) := by decide +kernel
theorem dX1_worth_17 : decode cX1_worth 17 = .ok (.ireturn, 1) := by decide +kernel
theorem dX1_worth_18 : decode cX1_worth 18 = .ok (.iconst (-1), 1) := by decide +kernel
theorem dX1_worth_19 : decode cX1_worth 19 = .ok (.istore 5, 2) := by decide +kernel
theorem dX1_worth_21 : decode cX1_worth 21 = .ok (.iconst 0, 1) := by decide +kernel
theorem dX1_worth_22 : decode cX1_worth 22 = .ok (.istore 6, 2) := by decide +kernel
theorem dX1_worth_24 : decode cX1_worth 24 = .ok (.iload 6, 2) := by decide +kernel
theorem dX1_worth_26 : decode cX1_worth 26 = .ok (.aload_n 0, 1) := by decide +kernel
theorem dX1_worth_27 : decode cX1_worth 27 = .ok (.getfield 9, 3) := by decide +kernel
theorem dX1_worth_30 : decode cX1_worth 30 = .ok (.if_icmp .ge 42, 3) := by decide +kernel
theorem dX1_worth_33 : decode cX1_worth 33 = .ok (.iload 5, 2) := by decide +kernel
theorem dX1_worth_35 : decode cX1_worth 35 = .ok (.iconst 1, 1) := by decide +kernel
theorem dX1_worth_36 : decode cX1_worth 36 = .ok (.if_icmp .eq 36, 3) := by decide +kernel
theorem dX1_worth_39 : decode cX1_worth 39 = .ok (.iload_n 3, 1) := by decide +kernel
theorem dX1_worth_40 : decode cX1_worth 40 = .ok (.iconst 1, 1) := by decide +kernel
theorem dX1_worth_41 : decode cX1_worth 41 = .ok (.iload 6, 2) := by decide +kernel
theorem dX1_worth_43 : decode cX1_worth 43 = .ok (.ishl, 1) := by decide +kernel
theorem dX1_worth_44 : decode cX1_worth 44 = .ok (.iand, 1) := by decide +kernel
theorem dX1_worth_45 : decode cX1_worth 45 = .ok (.ifCond .ne 21, 3) := by decide +kernel
theorem dX1_worth_48 : decode cX1_worth 48 = .ok (.iload 5, 2) := by decide +kernel
theorem dX1_worth_50 : decode cX1_worth 50 = .ok (.aload_n 0, 1) := by decide +kernel
theorem dX1_worth_51 : decode cX1_worth 51 = .ok (.iload_n 1, 1) := by decide +kernel
theorem dX1_worth_52 : decode cX1_worth 52 = .ok (.iload_n 2, 1) := by decide +kernel
theorem dX1_worth_53 : decode cX1_worth 53 = .ok (.iload 6, 2) := by decide +kernel
theorem dX1_worth_55 : decode cX1_worth 55 = .ok (.iload_n 3, 1) := by decide +kernel
theorem dX1_worth_56 : decode cX1_worth 56 = .ok (.iload 4, 2) := by decide +kernel
theorem dX1_worth_58 : decode cX1_worth 58 = .ok (.invokestatic 17, 3) := by decide +kernel
theorem dX1_worth_61 : decode cX1_worth 61 = .ok (.invokestatic 21, 3) := by decide +kernel
theorem dX1_worth_64 : decode cX1_worth 64 = .ok (.istore 5, 2) := by decide +kernel
theorem dX1_worth_66 : decode cX1_worth 66 = .ok (.iinc 6 1, 3) := by decide +kernel
theorem dX1_worth_69 : decode cX1_worth 69 = .ok (.goto (-45), 3) := by decide +kernel
theorem dX1_worth_72 : decode cX1_worth 72 = .ok (.iload 5, 2) := by decide +kernel
theorem dX1_worth_74 : decode cX1_worth 74 = .ok (.ireturn, 1) := by decide +kernel
set_option maxRecDepth 20000 in
theorem ggX1_worthOf_X2_bearsSaying : GoodIn wsX1_worthOf wsX2_bearsSaying := goodIn_r _ [7, 8, 9, 10, 11, 12, 6, 13, 14, 15, 16, 17, 18, 19, 20, 21, 22, 23, 24, 25, 26, 27, 28, 29, 30, 31, 32, 33, 34, 35, 62, 63, 64, 65, 66, 67, 68, 69, 70, 71, 72, 73, 74] (by decide +kernel) (by decide +kernel)
set_option maxRecDepth 20000 in
theorem gX1_worthOf_X2_bearsSaying : GoodIn wsX1_worthOf (wsV RX1 27 RX2 yX2_bearsSaying wsX2_bearsSaying) := goodIn_app (goodIn_of _ (by decide +kernel)) ggX1_worthOf_X2_bearsSaying
set_option maxRecDepth 20000 in
theorem ggX1_worthOf_X2_attempt : GoodIn wsX1_worthOf wsX2_attempt := goodIn_r _ [39, 40, 41, 42, 6, 43, 8, 32, 33, 34, 35, 44, 45, 46, 47, 21, 48, 16, 9, 49, 10, 11, 12, 13, 14, 15, 17, 18, 19, 20, 22, 23, 24, 25, 26, 27, 28, 29, 30, 31, 62, 63, 64, 65, 66, 67, 68, 69, 70, 71, 72, 73, 74] (by decide +kernel) (by decide +kernel)
set_option maxRecDepth 20000 in
theorem gX1_worthOf_X2_attempt : GoodIn wsX1_worthOf (wsV RX1 37 RX2 yX2_attempt wsX2_attempt) := goodIn_app (goodIn_of _ (by decide +kernel)) ggX1_worthOf_X2_attempt
set_option maxRecDepth 20000 in
theorem ggX1_worthOf_X1_worth : GoodIn wsX1_worthOf wsX1_worth := goodIn_r _ [57, 58, 59, 33, 34, 35, 60, 61, 52, 0, 1, 2, 3, 4, 5, 6, 7, 8, 9, 10, 11, 12, 13, 14, 15, 16, 17, 18, 19, 20, 21, 22, 23, 24, 25, 26, 27, 28, 29, 30, 31, 32, 36, 37, 38, 39, 40, 41, 42, 43, 44, 45, 46, 47, 48, 49, 50, 51, 53, 54, 55, 56, 62, 63, 64, 65, 66, 67, 68, 69, 70, 71, 72, 73, 74] (by decide +kernel) (by decide +kernel)
set_option maxRecDepth 20000 in
theorem gX1_worthOf_X1_worth : GoodIn wsX1_worthOf (va_wsS RX1 41 yX1_worth wsX1_worth) := goodIn_app (goodIn_of _ (by decide +kernel)) ggX1_worthOf_X1_worth
set_option maxRecDepth 20000 in
theorem ggX1_worthOf_X2_takeBack : GoodIn wsX1_worthOf wsX2_takeBack := goodIn_r _ [56, 16, 8, 21, 62, 63, 64, 65, 66, 67, 68, 69, 70, 71, 72, 73, 74] (by decide +kernel) (by decide +kernel)
set_option maxRecDepth 20000 in
theorem gX1_worthOf_X2_takeBack : GoodIn wsX1_worthOf (wsV RX1 45 RX2 yX2_takeBack wsX2_takeBack) := goodIn_app (goodIn_of _ (by decide +kernel)) ggX1_worthOf_X2_takeBack
theorem dX1_worthOf_0 : decode cX1_worthOf 0 = .ok (.aload_n 0, 1) := by decide +kernel
theorem dX1_worthOf_1 : decode cX1_worthOf 1 = .ok (.iload_n 1, 1) := by decide +kernel
theorem dX1_worthOf_2 : decode cX1_worthOf 2 = .ok (.iload_n 3, 1) := by decide +kernel
theorem dX1_worthOf_3 : decode cX1_worthOf 3 = .ok (.invokevirtual 27, 3) := by decide +kernel
theorem dX1_worthOf_6 : decode cX1_worthOf 6 = .ok (.ifCond .ne 5, 3) := by decide +kernel
theorem dX1_worthOf_9 : decode cX1_worthOf 9 = .ok (.iconst (-1), 1) := by decide +kernel
theorem dX1_worthOf_10 : decode cX1_worthOf 10 = .ok (.ireturn, 1) := by decide +kernel
theorem dX1_worthOf_11 : decode cX1_worthOf 11 = .ok (.aload_n 0, 1) := by decide +kernel
theorem dX1_worthOf_12 : decode cX1_worthOf 12 = .ok (.getfield 31, 3) := by decide +kernel
theorem dX1_worthOf_15 : decode cX1_worthOf 15 = .ok (.istore 6, 2) := by decide +kernel
theorem dX1_worthOf_17 : decode cX1_worthOf 17 = .ok (.aload_n 0, 1) := by decide +kernel
theorem dX1_worthOf_18 : decode cX1_worthOf 18 = .ok (.getfield 34, 3) := by decide +kernel
theorem dX1_worthOf_21 : decode cX1_worthOf 21 = .ok (.istore 7, 2) := by decide +kernel
theorem dX1_worthOf_23 : decode cX1_worthOf 23 = .ok (.aload_n 0, 1) := by decide +kernel
theorem dX1_worthOf_24 : decode cX1_worthOf 24 = .ok (.iload_n 1, 1) := by decide +kernel
theorem dX1_worthOf_25 : decode cX1_worthOf 25 = .ok (.iload_n 3, 1) := by decide +kernel
theorem dX1_worthOf_26 : decode cX1_worthOf 26 = .ok (.invokevirtual 37, 3) := by decide +kernel
theorem dX1_worthOf_29 : decode cX1_worthOf 29 = .ok (.aload_n 0, 1) := by decide +kernel
theorem dX1_worthOf_30 : decode cX1_worthOf 30 = .ok (.iload_n 2, 1) := by decide +kernel
theorem dX1_worthOf_31 : decode cX1_worthOf 31 = .ok (.iload_n 1, 1) := by decide +kernel
theorem dX1_worthOf_32 : decode cX1_worthOf 32 = .ok (.iload 4, 2) := by decide +kernel
theorem dX1_worthOf_34 : decode cX1_worthOf 34 = .ok (.iconst 1, 1) := by decide +kernel
theorem dX1_worthOf_35 : decode cX1_worthOf 35 = .ok (.iload_n 3, 1) := by decide +kernel
theorem dX1_worthOf_36 : decode cX1_worthOf 36 = .ok (.ishl, 1) := by decide +kernel
theorem dX1_worthOf_37 : decode cX1_worthOf 37 = .ok (.ior, 1) := by decide +kernel
theorem dX1_worthOf_38 : decode cX1_worthOf 38 = .ok (.iload 5, 2) := by decide +kernel
theorem dX1_worthOf_40 : decode cX1_worthOf 40 = .ok (.iconst 1, 1) := by decide +kernel
theorem dX1_worthOf_41 : decode cX1_worthOf 41 = .ok (.iadd, 1) := by decide +kernel
theorem dX1_worthOf_42 : decode cX1_worthOf 42 = .ok (.invokestatic 41, 3) := by decide +kernel
theorem dX1_worthOf_45 : decode cX1_worthOf 45 = .ok (.ineg, 1) := by decide +kernel
theorem dX1_worthOf_46 : decode cX1_worthOf 46 = .ok (.istore 8, 2) := by decide +kernel
theorem dX1_worthOf_48 : decode cX1_worthOf 48 = .ok (.aload_n 0, 1) := by decide +kernel
theorem dX1_worthOf_49 : decode cX1_worthOf 49 = .ok (.iload_n 3, 1) := by decide +kernel
theorem dX1_worthOf_50 : decode cX1_worthOf 50 = .ok (.iload 6, 2) := by decide +kernel
theorem dX1_worthOf_52 : decode cX1_worthOf 52 = .ok (.iload 7, 2) := by decide +kernel
theorem dX1_worthOf_54 : decode cX1_worthOf 54 = .ok (.invokevirtual 45, 3) := by decide +kernel
theorem dX1_worthOf_57 : decode cX1_worthOf 57 = .ok (.iload 8, 2) := by decide +kernel
theorem dX1_worthOf_59 : decode cX1_worthOf 59 = .ok (.ireturn, 1) := by decide +kernel
set_option maxRecDepth 20000 in
theorem ggX1_firstBest_X1_worthOf : GoodIn wsX1_firstBest wsX1_worthOf := goodIn_r _ [5, 6, 7, 8, 9, 10, 11, 12, 13, 14, 15, 16, 17, 18, 19, 20, 21, 22, 23, 24, 25, 26, 27, 28, 29, 30, 31, 32, 33, 34, 35, 36, 37, 38, 39, 40, 41, 42, 43, 44, 45, 46, 47, 48, 49, 50, 51, 52, 53, 54, 55, 56, 4, 57, 58, 59, 60, 61, 1, 62, 2, 3, 63, 64, 65, 66, 67, 68, 69, 70, 71, 72, 73, 74, 75] (by decide +kernel) (by decide +kernel)
set_option maxRecDepth 20000 in
theorem gX1_firstBest_X1_worthOf : GoodIn wsX1_firstBest (va_wsS RX1 17 yX1_worthOf wsX1_worthOf) := goodIn_app (goodIn_of _ (by decide +kernel)) ggX1_firstBest_X1_worthOf
theorem dX1_firstBest_0 : decode cX1_firstBest 0 = .ok (.iconst 0, 1) := by decide +kernel
theorem dX1_firstBest_1 : decode cX1_firstBest 1 = .ok (.istore_n 3, 1) := by decide +kernel
theorem dX1_firstBest_2 : decode cX1_firstBest 2 = .ok (.iconst (-1), 1) := by decide +kernel
theorem dX1_firstBest_3 : decode cX1_firstBest 3 = .ok (.istore 4, 2) := by decide +kernel
theorem dX1_firstBest_5 : decode cX1_firstBest 5 = .ok (.iconst 0, 1) := by decide +kernel
theorem dX1_firstBest_6 : decode cX1_firstBest 6 = .ok (.istore 5, 2) := by decide +kernel
theorem dX1_firstBest_8 : decode cX1_firstBest 8 = .ok (.iload 5, 2) := by decide +kernel
theorem dX1_firstBest_10 : decode cX1_firstBest 10 = .ok (.aload_n 0, 1) := by decide +kernel
theorem dX1_firstBest_11 : decode cX1_firstBest 11 = .ok (.getfield 9, 3) := by decide +kernel
theorem dX1_firstBest_14 : decode cX1_firstBest 14 = .ok (.if_icmp .ge 35, 3) := by decide +kernel
theorem dX1_firstBest_17 : decode cX1_firstBest 17 = .ok (.aload_n 0, 1) := by decide +kernel
theorem dX1_firstBest_18 : decode cX1_firstBest 18 = .ok (.iload_n 1, 1) := by decide +kernel
theorem dX1_firstBest_19 : decode cX1_firstBest 19 = .ok (.iload_n 2, 1) := by decide +kernel
theorem dX1_firstBest_20 : decode cX1_firstBest 20 = .ok (.iload 5, 2) := by decide +kernel
theorem dX1_firstBest_22 : decode cX1_firstBest 22 = .ok (.iconst 0, 1) := by decide +kernel
theorem dX1_firstBest_23 : decode cX1_firstBest 23 = .ok (.iconst 0, 1) := by decide +kernel
theorem dX1_firstBest_24 : decode cX1_firstBest 24 = .ok (.invokestatic 17, 3) := by decide +kernel
theorem dX1_firstBest_27 : decode cX1_firstBest 27 = .ok (.istore 6, 2) := by decide +kernel
theorem dX1_firstBest_29 : decode cX1_firstBest 29 = .ok (.iload 6, 2) := by decide +kernel
theorem dX1_firstBest_31 : decode cX1_firstBest 31 = .ok (.iload 4, 2) := by decide +kernel
theorem dX1_firstBest_33 : decode cX1_firstBest 33 = .ok (.if_icmp .le 10, 3) := by decide +kernel
theorem dX1_firstBest_36 : decode cX1_firstBest 36 = .ok (.iload 5, 2) := by decide +kernel
theorem dX1_firstBest_38 : decode cX1_firstBest 38 = .ok (.istore_n 3, 1) := by decide +kernel
theorem dX1_firstBest_39 : decode cX1_firstBest 39 = .ok (.iload 6, 2) := by decide +kernel
theorem dX1_firstBest_41 : decode cX1_firstBest 41 = .ok (.istore 4, 2) := by decide +kernel
theorem dX1_firstBest_43 : decode cX1_firstBest 43 = .ok (.iinc 5 1, 3) := by decide +kernel
theorem dX1_firstBest_46 : decode cX1_firstBest 46 = .ok (.goto (-38), 3) := by decide +kernel
theorem dX1_firstBest_49 : decode cX1_firstBest 49 = .ok (.iload_n 3, 1) := by decide +kernel
theorem dX1_firstBest_50 : decode cX1_firstBest 50 = .ok (.ireturn, 1) := by decide +kernel
theorem dX2_init_0 : decode cX2_init 0 = .ok (.aload_n 0, 1) := by decide +kernel
theorem dX2_init_1 : decode cX2_init 1 = .ok (.invokespecial 3, 3) := by decide +kernel
theorem dX2_init_4 : decode cX2_init 4 = .ok (.aload_n 0, 1) := by decide +kernel
theorem dX2_init_5 : decode cX2_init 5 = .ok (.iconst 0, 1) := by decide +kernel
theorem dX2_init_6 : decode cX2_init 6 = .ok (.putfield 9, 3) := by decide +kernel
theorem dX2_init_9 : decode cX2_init 9 = .ok (.aload_n 0, 1) := by decide +kernel
theorem dX2_init_10 : decode cX2_init 10 = .ok (.iconst 4, 1) := by decide +kernel
theorem dX2_init_11 : decode cX2_init 11 = .ok (.newarray .int, 2) := by decide +kernel
theorem dX2_init_13 : decode cX2_init 13 = .ok (.putfield 15, 3) := by decide +kernel
theorem dX2_init_16 : decode cX2_init 16 = .ok (.aload_n 0, 1) := by decide +kernel
theorem dX2_init_17 : decode cX2_init 17 = .ok (.iconst 0, 1) := by decide +kernel
theorem dX2_init_18 : decode cX2_init 18 = .ok (.putfield 19, 3) := by decide +kernel
theorem dX2_init_21 : decode cX2_init 21 = .ok (.aload_n 0, 1) := by decide +kernel
theorem dX2_init_22 : decode cX2_init 22 = .ok (.bipush 6, 2) := by decide +kernel
theorem dX2_init_24 : decode cX2_init 24 = .ok (.newarray .int, 2) := by decide +kernel
theorem dX2_init_26 : decode cX2_init 26 = .ok (.putfield 22, 3) := by decide +kernel
theorem dX2_init_29 : decode cX2_init 29 = .ok (.aload_n 0, 1) := by decide +kernel
theorem dX2_init_30 : decode cX2_init 30 = .ok (.bipush 6, 2) := by decide +kernel
theorem dX2_init_32 : decode cX2_init 32 = .ok (.newarray .int, 2) := by decide +kernel
theorem dX2_init_34 : decode cX2_init 34 = .ok (.putfield 25, 3) := by decide +kernel
theorem dX2_init_37 : decode cX2_init 37 = .ok (.aload_n 0, 1) := by decide +kernel
theorem dX2_init_38 : decode cX2_init 38 = .ok (.bipush 6, 2) := by decide +kernel
theorem dX2_init_40 : decode cX2_init 40 = .ok (.newarray .int, 2) := by decide +kernel
theorem dX2_init_42 : decode cX2_init 42 = .ok (.putfield 28, 3) := by decide +kernel
theorem dX2_init_45 : decode cX2_init 45 = .ok (.aload_n 0, 1) := by decide +kernel
theorem dX2_init_46 : decode cX2_init 46 = .ok (.iconst 0, 1) := by decide +kernel
theorem dX2_init_47 : decode cX2_init 47 = .ok (.putfield 31, 3) := by decide +kernel
theorem dX2_init_50 : decode cX2_init 50 = .ok (.aload_n 0, 1) := by decide +kernel
theorem dX2_init_51 : decode cX2_init 51 = .ok (.iconst 0, 1) := by decide +kernel
theorem dX2_init_52 : decode cX2_init 52 = .ok (.putfield 34, 3) := by decide +kernel
theorem dX2_init_55 : decode cX2_init 55 = .ok (.aload_n 0, 1) := by decide +kernel
theorem dX2_init_56 : decode cX2_init 56 = .ok (.iconst 0, 1) := by decide +kernel
theorem dX2_init_57 : decode cX2_init 57 = .ok (.putfield 37, 3) := by decide +kernel
theorem dX2_init_60 : decode cX2_init 60 = .ok (.aload_n 0, 1) := by decide +kernel
theorem dX2_init_61 : decode cX2_init 61 = .ok (.bipush (-9), 2) := by decide +kernel
theorem dX2_init_63 : decode cX2_init 63 = .ok (.putfield 40, 3) := by decide +kernel
theorem dX2_init_66 : decode cX2_init 66 = .ok (.aload_n 0, 1) := by decide +kernel
theorem dX2_init_67 : decode cX2_init 67 = .ok (.bipush 6, 2) := by decide +kernel
theorem dX2_init_69 : decode cX2_init 69 = .ok (.newarray .int, 2) := by decide +kernel
theorem dX2_init_71 : decode cX2_init 71 = .ok (.putfield 43, 3) := by decide +kernel
theorem dX2_init_74 : decode cX2_init 74 = .ok (.aload_n 0, 1) := by decide +kernel
theorem dX2_init_75 : decode cX2_init 75 = .ok (.iconst 0, 1) := by decide +kernel
theorem dX2_init_76 : decode cX2_init 76 = .ok (.putfield 46, 3) := by decide +kernel
theorem dX2_init_79 : decode cX2_init 79 = .ok (.aload_n 0, 1) := by decide +kernel
theorem dX2_init_80 : decode cX2_init 80 = .ok (.bipush 40, 2) := by decide +kernel
theorem dX2_init_82 : decode cX2_init 82 = .ok (.newarray .int, 2) := by decide +kernel
theorem dX2_init_84 : decode cX2_init 84 = .ok (.putfield 49, 3) := by decide +kernel
theorem dX2_init_87 : decode cX2_init 87 = .ok (.return_, 1) := by decide +kernel
theorem dX2_clear_0 : decode cX2_clear 0 = .ok (.aload_n 0, 1) := by decide +kernel
theorem dX2_clear_1 : decode cX2_clear 1 = .ok (.iconst 0, 1) := by decide +kernel
theorem dX2_clear_2 : decode cX2_clear 2 = .ok (.putfield 9, 3) := by decide +kernel
theorem dX2_clear_5 : decode cX2_clear 5 = .ok (.aload_n 0, 1) := by decide +kernel
theorem dX2_clear_6 : decode cX2_clear 6 = .ok (.iconst 0, 1) := by decide +kernel
theorem dX2_clear_7 : decode cX2_clear 7 = .ok (.putfield 19, 3) := by decide +kernel
theorem dX2_clear_10 : decode cX2_clear 10 = .ok (.aload_n 0, 1) := by decide +kernel
theorem dX2_clear_11 : decode cX2_clear 11 = .ok (.iconst 0, 1) := by decide +kernel
theorem dX2_clear_12 : decode cX2_clear 12 = .ok (.putfield 31, 3) := by decide +kernel
theorem dX2_clear_15 : decode cX2_clear 15 = .ok (.return_, 1) := by decide +kernel
set_option maxRecDepth 20000 in
theorem ggX2_become_X2_startAnew : GoodIn wsX2_become wsX2_startAnew := goodIn_r _ [16, 17, 18, 19, 20, 21, 22, 23, 24, 25, 26, 27, 28, 29, 30, 31, 32, 33, 34, 35, 36, 37, 38] (by decide +kernel) (by decide +kernel)
set_option maxRecDepth 20000 in
theorem gX2_become_X2_startAnew : GoodIn wsX2_become (wsV RX2 58 RX2 yX2_startAnew wsX2_startAnew) := goodIn_app (goodIn_of _ (by decide +kernel)) ggX2_become_X2_startAnew
theorem dX2_become_0 : decode cX2_become 0 = .ok (.aload_n 0, 1) := by decide +kernel
theorem dX2_become_1 : decode cX2_become 1 = .ok (.aload_n 1, 1) := by decide +kernel
theorem dX2_become_2 : decode cX2_become 2 = .ok (.getfield 9, 3) := by decide +kernel
theorem dX2_become_5 : decode cX2_become 5 = .ok (.putfield 9, 3) := by decide +kernel
theorem dX2_become_8 : decode cX2_become 8 = .ok (.aload_n 0, 1) := by decide +kernel
theorem dX2_become_9 : decode cX2_become 9 = .ok (.aload_n 1, 1) := by decide +kernel
theorem dX2_become_10 : decode cX2_become 10 = .ok (.getfield 19, 3) := by decide +kernel
theorem dX2_become_13 : decode cX2_become 13 = .ok (.putfield 19, 3) := by decide +kernel
theorem dX2_become_16 : decode cX2_become 16 = .ok (.aload_n 0, 1) := by decide +kernel
theorem dX2_become_17 : decode cX2_become 17 = .ok (.aload_n 1, 1) := by decide +kernel
theorem dX2_become_18 : decode cX2_become 18 = .ok (.getfield 31, 3) := by decide +kernel
theorem dX2_become_21 : decode cX2_become 21 = .ok (.putfield 31, 3) := by decide +kernel
theorem dX2_become_24 : decode cX2_become 24 = .ok (.aload_n 1, 1) := by decide +kernel
theorem dX2_become_25 : decode cX2_become 25 = .ok (.getfield 15, 3) := by decide +kernel
theorem dX2_become_28 : decode cX2_become 28 = .ok (.iconst 0, 1) := by decide +kernel
theorem dX2_become_29 : decode cX2_become 29 = .ok (.aload_n 0, 1) := by decide +kernel
theorem dX2_become_30 : decode cX2_become 30 = .ok (.getfield 15, 3) := by decide +kernel
theorem dX2_become_33 : decode cX2_become 33 = .ok (.iconst 0, 1) := by decide +kernel
theorem dX2_become_34 : decode cX2_become 34 = .ok (.iconst 4, 1) := by decide +kernel
theorem dX2_become_35 : decode cX2_become 35 = .ok (.invokestatic 52, 3) := by decide +kernel
theorem dX2_become_38 : decode cX2_become 38 = .ok (.aload_n 1, 1) := by decide +kernel
theorem dX2_become_39 : decode cX2_become 39 = .ok (.getfield 22, 3) := by decide +kernel
theorem dX2_become_42 : decode cX2_become 42 = .ok (.iconst 0, 1) := by decide +kernel
theorem dX2_become_43 : decode cX2_become 43 = .ok (.aload_n 0, 1) := by decide +kernel
theorem dX2_become_44 : decode cX2_become 44 = .ok (.getfield 22, 3) := by decide +kernel
theorem dX2_become_47 : decode cX2_become 47 = .ok (.iconst 0, 1) := by decide +kernel
theorem dX2_become_48 : decode cX2_become 48 = .ok (.bipush 6, 2) := by decide +kernel
theorem dX2_become_50 : decode cX2_become 50 = .ok (.invokestatic 52, 3) := by decide +kernel
theorem dX2_become_53 : decode cX2_become 53 = .ok (.aload_n 1, 1) := by decide +kernel
theorem dX2_become_54 : decode cX2_become 54 = .ok (.getfield 25, 3) := by decide +kernel
theorem dX2_become_57 : decode cX2_become 57 = .ok (.iconst 0, 1) := by decide +kernel
theorem dX2_become_58 : decode cX2_become 58 = .ok (.aload_n 0, 1) := by decide +kernel
theorem dX2_become_59 : decode cX2_become 59 = .ok (.getfield 25, 3) := by decide +kernel
theorem dX2_become_62 : decode cX2_become 62 = .ok (.iconst 0, 1) := by decide +kernel
theorem dX2_become_63 : decode cX2_become 63 = .ok (.bipush 6, 2) := by decide +kernel
theorem dX2_become_65 : decode cX2_become 65 = .ok (.invokestatic 52, 3) := by decide +kernel
theorem dX2_become_68 : decode cX2_become 68 = .ok (.aload_n 1, 1) := by decide +kernel
theorem dX2_become_69 : decode cX2_become 69 = .ok (.getfield 28, 3) := by decide +kernel
theorem dX2_become_72 : decode cX2_become 72 = .ok (.iconst 0, 1) := by decide +kernel
theorem dX2_become_73 : decode cX2_become 73 = .ok (.aload_n 0, 1) := by decide +kernel
theorem dX2_become_74 : decode cX2_become 74 = .ok (.getfield 28, 3) := by decide +kernel
theorem dX2_become_77 : decode cX2_become 77 = .ok (.iconst 0, 1) := by decide +kernel
theorem dX2_become_78 : decode cX2_become 78 = .ok (.bipush 6, 2) := by decide +kernel
theorem dX2_become_80 : decode cX2_become 80 = .ok (.invokestatic 52, 3) := by decide +kernel
theorem dX2_become_83 : decode cX2_become 83 = .ok (.aload_n 0, 1) := by decide +kernel
theorem dX2_become_84 : decode cX2_become 84 = .ok (.invokevirtual 58, 3) := by decide +kernel
theorem dX2_become_87 : decode cX2_become 87 = .ok (.return_, 1) := by decide +kernel
set_option maxRecDepth 20000 in
theorem ggX2_startAnew_J7_fill_53178 : GoodIn wsX2_startAnew wsJ7_fill_53178 := goodIn_r _ [9] (by decide +kernel) (by decide +kernel)
set_option maxRecDepth 20000 in
theorem gX2_startAnew_J7_fill_53178 : GoodIn wsX2_startAnew (va_wsS RX2 61 yJ7_fill_53178 wsJ7_fill_53178) := goodIn_app (goodIn_of _ (by decide +kernel)) ggX2_startAnew_J7_fill_53178
theorem dX2_startAnew_0 : decode cX2_startAnew 0 = .ok (.aload_n 0, 1) := by decide +kernel
theorem dX2_startAnew_1 : decode cX2_startAnew 1 = .ok (.iconst 0, 1) := by decide +kernel
theorem dX2_startAnew_2 : decode cX2_startAnew 2 = .ok (.putfield 34, 3) := by decide +kernel
theorem dX2_startAnew_5 : decode cX2_startAnew 5 = .ok (.aload_n 0, 1) := by decide +kernel
theorem dX2_startAnew_6 : decode cX2_startAnew 6 = .ok (.iconst 0, 1) := by decide +kernel
theorem dX2_startAnew_7 : decode cX2_startAnew 7 = .ok (.putfield 37, 3) := by decide +kernel
theorem dX2_startAnew_10 : decode cX2_startAnew 10 = .ok (.aload_n 0, 1) := by decide +kernel
theorem dX2_startAnew_11 : decode cX2_startAnew 11 = .ok (.bipush (-9), 2) := by decide +kernel
theorem dX2_startAnew_13 : decode cX2_startAnew 13 = .ok (.putfield 40, 3) := by decide +kernel
theorem dX2_startAnew_16 : decode cX2_startAnew 16 = .ok (.aload_n 0, 1) := by decide +kernel
theorem dX2_startAnew_17 : decode cX2_startAnew 17 = .ok (.getfield 43, 3) := by decide +kernel
theorem dX2_startAnew_20 : decode cX2_startAnew 20 = .ok (.iconst 0, 1) := by decide +kernel
theorem dX2_startAnew_21 : decode cX2_startAnew 21 = .ok (.invokestatic 61, 3) := by decide +kernel
theorem dX2_startAnew_24 : decode cX2_startAnew 24 = .ok (.aload_n 0, 1) := by decide +kernel
theorem dX2_startAnew_25 : decode cX2_startAnew 25 = .ok (.iconst 0, 1) := by decide +kernel
theorem dX2_startAnew_26 : decode cX2_startAnew 26 = .ok (.putfield 46, 3) := by decide +kernel
theorem dX2_startAnew_29 : decode cX2_startAnew 29 = .ok (.return_, 1) := by decide +kernel
theorem dX2_isEmpty_0 : decode cX2_isEmpty 0 = .ok (.aload_n 0, 1) := by decide +kernel
theorem dX2_isEmpty_1 : decode cX2_isEmpty 1 = .ok (.getfield 19, 3) := by decide +kernel
theorem dX2_isEmpty_4 : decode cX2_isEmpty 4 = .ok (.ifCond .eq 10, 3) := by decide +kernel
theorem dX2_isEmpty_7 : decode cX2_isEmpty 7 = .ok (.aload_n 0, 1) := by decide +kernel
theorem dX2_isEmpty_8 : decode cX2_isEmpty 8 = .ok (.getfield 9, 3) := by decide +kernel
theorem dX2_isEmpty_11 : decode cX2_isEmpty 11 = .ok (.ifCond .ne 7, 3) := by decide +kernel
theorem dX2_isEmpty_14 : decode cX2_isEmpty 14 = .ok (.iconst 1, 1) := by decide +kernel
theorem dX2_isEmpty_15 : decode cX2_isEmpty 15 = .ok (.goto 4, 3) := by decide +kernel
theorem dX2_isEmpty_18 : decode cX2_isEmpty 18 = .ok (.iconst 0, 1) := by decide +kernel
theorem dX2_isEmpty_19 : decode cX2_isEmpty 19 = .ok (.ireturn, 1) := by decide +kernel
theorem dX2_hasPerson_0 : decode cX2_hasPerson 0 = .ok (.iload_n 1, 1) := by decide +kernel
theorem dX2_hasPerson_1 : decode cX2_hasPerson 1 = .ok (.ifCond .lt 15, 3) := by decide +kernel
theorem dX2_hasPerson_4 : decode cX2_hasPerson 4 = .ok (.iload_n 1, 1) := by decide +kernel
theorem dX2_hasPerson_5 : decode cX2_hasPerson 5 = .ok (.aload_n 0, 1) := by decide +kernel
theorem dX2_hasPerson_6 : decode cX2_hasPerson 6 = .ok (.getfield 9, 3) := by decide +kernel
theorem dX2_hasPerson_9 : decode cX2_hasPerson 9 = .ok (.if_icmp .ge 7, 3) := by decide +kernel
theorem dX2_hasPerson_12 : decode cX2_hasPerson 12 = .ok (.iconst 1, 1) := by decide +kernel
theorem dX2_hasPerson_13 : decode cX2_hasPerson 13 = .ok (.goto 4, 3) := by decide +kernel
theorem dX2_hasPerson_16 : decode cX2_hasPerson 16 = .ok (.iconst 0, 1) := by decide +kernel
theorem dX2_hasPerson_17 : decode cX2_hasPerson 17 = .ok (.ireturn, 1) := by decide +kernel
theorem dX2_hasSaying_0 : decode cX2_hasSaying 0 = .ok (.iload_n 1, 1) := by decide +kernel
theorem dX2_hasSaying_1 : decode cX2_hasSaying 1 = .ok (.ifCond .lt 15, 3) := by decide +kernel
theorem dX2_hasSaying_4 : decode cX2_hasSaying 4 = .ok (.iload_n 1, 1) := by decide +kernel
theorem dX2_hasSaying_5 : decode cX2_hasSaying 5 = .ok (.aload_n 0, 1) := by decide +kernel
theorem dX2_hasSaying_6 : decode cX2_hasSaying 6 = .ok (.getfield 19, 3) := by decide +kernel
theorem dX2_hasSaying_9 : decode cX2_hasSaying 9 = .ok (.if_icmp .ge 7, 3) := by decide +kernel
theorem dX2_hasSaying_12 : decode cX2_hasSaying 12 = .ok (.iconst 1, 1) := by decide +kernel
theorem dX2_hasSaying_13 : decode cX2_hasSaying 13 = .ok (.goto 4, 3) := by decide +kernel
theorem dX2_hasSaying_16 : decode cX2_hasSaying 16 = .ok (.iconst 0, 1) := by decide +kernel
theorem dX2_hasSaying_17 : decode cX2_hasSaying 17 = .ok (.ireturn, 1) := by decide +kernel
theorem dX2_isAnyOver_0 : decode cX2_isAnyOver 0 = .ok (.aload_n 0, 1) := by decide +kernel
theorem dX2_isAnyOver_1 : decode cX2_isAnyOver 1 = .ok (.getfield 40, 3) := by decide +kernel
theorem dX2_isAnyOver_4 : decode cX2_isAnyOver 4 = .ok (.bipush (-9), 2) := by decide +kernel
theorem dX2_isAnyOver_6 : decode cX2_isAnyOver 6 = .ok (.if_icmp .eq 7, 3) := by decide +kernel
theorem dX2_isAnyOver_9 : decode cX2_isAnyOver 9 = .ok (.iconst 1, 1) := by decide +kernel
theorem dX2_isAnyOver_10 : decode cX2_isAnyOver 10 = .ok (.goto 4, 3) := by decide +kernel
theorem dX2_isAnyOver_13 : decode cX2_isAnyOver 13 = .ok (.iconst 0, 1) := by decide +kernel
theorem dX2_isAnyOver_14 : decode cX2_isAnyOver 14 = .ok (.ireturn, 1) := by decide +kernel
theorem dX2_isOfKind_0 : decode cX2_isOfKind 0 = .ok (.aload_n 0, 1) := by decide +kernel
theorem dX2_isOfKind_1 : decode cX2_isOfKind 1 = .ok (.getfield 22, 3) := by decide +kernel
theorem dX2_isOfKind_4 : decode cX2_isOfKind 4 = .ok (.iload_n 1, 1) := by decide +kernel
theorem dX2_isOfKind_5 : decode cX2_isOfKind 5 = .ok (.iaload, 1) := by decide +kernel
theorem dX2_isOfKind_6 : decode cX2_isOfKind 6 = .ok (.iload_n 2, 1) := by decide +kernel
theorem dX2_isOfKind_7 : decode cX2_isOfKind 7 = .ok (.if_icmp .eq 17, 3) := by decide +kernel
theorem dX2_isOfKind_10 : decode cX2_isOfKind 10 = .ok (.getstatic 67, 3) := by decide +kernel
theorem dX2_isOfKind_13 : decode cX2_isOfKind 13 = .ok (.aload_n 0, 1) := by decide +kernel
theorem dX2_isOfKind_14 : decode cX2_isOfKind 14 = .ok (.getfield 22, 3) := by decide +kernel
theorem dX2_isOfKind_17 : decode cX2_isOfKind 17 = .ok (.iload_n 1, 1) := by decide +kernel
theorem dX2_isOfKind_18 : decode cX2_isOfKind 18 = .ok (.iaload, 1) := by decide +kernel
theorem dX2_isOfKind_19 : decode cX2_isOfKind 19 = .ok (.iaload, 1) := by decide +kernel
theorem dX2_isOfKind_20 : decode cX2_isOfKind 20 = .ok (.iload_n 2, 1) := by decide +kernel
theorem dX2_isOfKind_21 : decode cX2_isOfKind 21 = .ok (.if_icmp .ne 7, 3) := by decide +kernel
theorem dX2_isOfKind_24 : decode cX2_isOfKind 24 = .ok (.iconst 1, 1) := by decide +kernel
theorem dX2_isOfKind_25 : decode cX2_isOfKind 25 = .ok (.goto 4, 3) := by decide +kernel
theorem dX2_isOfKind_28 : decode cX2_isOfKind 28 = .ok (.iconst 0, 1) := by decide +kernel
theorem dX2_isOfKind_29 : decode cX2_isOfKind 29 = .ok (.ireturn, 1) := by decide +kernel
set_option maxRecDepth 20000 in
theorem ggX2_howManyOfKind_X2_isOfKind : GoodIn wsX2_howManyOfKind wsX2_isOfKind := goodIn_r _ [6, 7, 8, 9, 10, 11, 12, 13, 14, 15, 16, 17, 18, 19, 20] (by decide +kernel) (by decide +kernel)
set_option maxRecDepth 20000 in
theorem gX2_howManyOfKind_X2_isOfKind : GoodIn wsX2_howManyOfKind (wsV RX2 70 RX2 yX2_isOfKind wsX2_isOfKind) := goodIn_app (goodIn_of _ (by decide +kernel)) ggX2_howManyOfKind_X2_isOfKind
theorem dX2_howManyOfKind_0 : decode cX2_howManyOfKind 0 = .ok (.iconst 0, 1) := by decide +kernel
theorem dX2_howManyOfKind_1 : decode cX2_howManyOfKind 1 = .ok (.istore_n 2, 1) := by decide +kernel
theorem dX2_howManyOfKind_2 : decode cX2_howManyOfKind 2 = .ok (.iconst 0, 1) := by decide +kernel
theorem dX2_howManyOfKind_3 : decode cX2_howManyOfKind 3 = .ok (.istore_n 3, 1) := by decide +kernel
theorem dX2_howManyOfKind_4 : decode cX2_howManyOfKind 4 = .ok (.iload_n 3, 1) := by decide +kernel
theorem dX2_howManyOfKind_5 : decode cX2_howManyOfKind 5 = .ok (.aload_n 0, 1) := by decide +kernel
theorem dX2_howManyOfKind_6 : decode cX2_howManyOfKind 6 = .ok (.getfield 19, 3) := by decide +kernel
theorem dX2_howManyOfKind_9 : decode cX2_howManyOfKind 9 = .ok (.if_icmp .ge 21, 3) := by decide +kernel
theorem dX2_howManyOfKind_12 : decode cX2_howManyOfKind 12 = .ok (.aload_n 0, 1) := by decide +kernel
theorem dX2_howManyOfKind_13 : decode cX2_howManyOfKind 13 = .ok (.iload_n 3, 1) := by decide +kernel
theorem dX2_howManyOfKind_14 : decode cX2_howManyOfKind 14 = .ok (.iload_n 1, 1) := by decide +kernel
theorem dX2_howManyOfKind_15 : decode cX2_howManyOfKind 15 = .ok (.invokevirtual 70, 3) := by decide +kernel
theorem dX2_howManyOfKind_18 : decode cX2_howManyOfKind 18 = .ok (.ifCond .eq 6, 3) := by decide +kernel
theorem dX2_howManyOfKind_21 : decode cX2_howManyOfKind 21 = .ok (.iinc 2 1, 3) := by decide +kernel
theorem dX2_howManyOfKind_24 : decode cX2_howManyOfKind 24 = .ok (.iinc 3 1, 3) := by decide +kernel
theorem dX2_howManyOfKind_27 : decode cX2_howManyOfKind 27 = .ok (.goto (-23), 3) := by decide +kernel
theorem dX2_howManyOfKind_30 : decode cX2_howManyOfKind 30 = .ok (.iload_n 2, 1) := by decide +kernel
theorem dX2_howManyOfKind_31 : decode cX2_howManyOfKind 31 = .ok (.ireturn, 1) := by decide +kernel
set_option maxRecDepth 20000 in
theorem ggX2_openTopics_J6_bitCount_0f7a4 : GoodIn wsX2_openTopics wsJ6_bitCount_0f7a4 := goodIn_r _ [5, 6, 7, 8] (by decide +kernel) (by decide +kernel)
set_option maxRecDepth 20000 in
theorem gX2_openTopics_J6_bitCount_0f7a4 : GoodIn wsX2_openTopics (va_wsS RX2 74 yJ6_bitCount_0f7a4 wsJ6_bitCount_0f7a4) := goodIn_app (goodIn_of _ (by decide +kernel)) ggX2_openTopics_J6_bitCount_0f7a4
theorem dX2_openTopics_0 : decode cX2_openTopics 0 = .ok (.iconst 3, 1) := by decide +kernel
theorem dX2_openTopics_1 : decode cX2_openTopics 1 = .ok (.aload_n 0, 1) := by decide +kernel
theorem dX2_openTopics_2 : decode cX2_openTopics 2 = .ok (.getfield 37, 3) := by decide +kernel
theorem dX2_openTopics_5 : decode cX2_openTopics 5 = .ok (.invokestatic 74, 3) := by decide +kernel
theorem dX2_openTopics_8 : decode cX2_openTopics 8 = .ok (.isub, 1) := by decide +kernel
theorem dX2_openTopics_9 : decode cX2_openTopics 9 = .ok (.ireturn, 1) := by decide +kernel
theorem dX2_nearOf_0 : decode cX2_nearOf 0 = .ok (.iload_n 0, 1) := by decide +kernel
theorem dX2_nearOf_1 : decode cX2_nearOf 1 = .ok (.tableswitch 65 1 5 #[35, 39, 43, 53, 59], 35) := by decide +kernel
theorem dX2_nearOf_36 : decode cX2_nearOf 36 = .ok (.iload_n 1, 1) := by decide +kernel
theorem dX2_nearOf_37 : decode cX2_nearOf 37 = .ok (.iload_n 2, 1) := by decide +kernel
theorem dX2_nearOf_38 : decode cX2_nearOf 38 = .ok (.iadd, 1) := by decide +kernel
theorem dX2_nearOf_39 : decode cX2_nearOf 39 = .ok (.ireturn, 1) := by decide +kernel
theorem dX2_nearOf_40 : decode cX2_nearOf 40 = .ok (.iload_n 1, 1) := by decide +kernel
theorem dX2_nearOf_41 : decode cX2_nearOf 41 = .ok (.iconst 2, 1) := by decide +kernel
theorem dX2_nearOf_42 : decode cX2_nearOf 42 = .ok (.idiv, 1) := by decide +kernel
theorem dX2_nearOf_43 : decode cX2_nearOf 43 = .ok (.ireturn, 1) := by decide +kernel
theorem dX2_nearOf_44 : decode cX2_nearOf 44 = .ok (.iconst 0, 1) := by decide +kernel
theorem dX2_nearOf_45 : decode cX2_nearOf 45 = .ok (.iload_n 1, 1) := by decide +kernel
theorem dX2_nearOf_46 : decode cX2_nearOf 46 = .ok (.iload_n 2, 1) := by decide +kernel
theorem dX2_nearOf_47 : decode cX2_nearOf 47 = .ok (.iadd, 1) := by decide +kernel
theorem dX2_nearOf_48 : decode cX2_nearOf 48 = .ok (.iconst 2, 1) := by decide +kernel
theorem dX2_nearOf_49 : decode cX2_nearOf 49 = .ok (.isub, 1) := by decide +kernel
theorem dX2_nearOf_50 : decode cX2_nearOf 50 = .ok (.invokestatic 80, 3) := by decide +kernel
theorem dX2_nearOf_53 : decode cX2_nearOf 53 = .ok (.ireturn, 1) := by decide +kernel
theorem dX2_nearOf_54 : decode cX2_nearOf 54 = .ok (.iload_n 1, 1) := by decide +kernel
theorem dX2_nearOf_55 : decode cX2_nearOf 55 = .ok (.iconst 2, 1) := by decide +kernel
theorem dX2_nearOf_56 : decode cX2_nearOf 56 = .ok (.idiv, 1) := by decide +kernel
theorem dX2_nearOf_57 : decode cX2_nearOf 57 = .ok (.iload_n 3, 1) := by decide +kernel
theorem dX2_nearOf_58 : decode cX2_nearOf 58 = .ok (.iadd, 1) := by decide +kernel
theorem dX2_nearOf_59 : decode cX2_nearOf 59 = .ok (.ireturn, 1) := by decide +kernel
theorem dX2_nearOf_60 : decode cX2_nearOf 60 = .ok (.iconst 2, 1) := by decide +kernel
theorem dX2_nearOf_61 : decode cX2_nearOf 61 = .ok (.iload_n 1, 1) := by decide +kernel
theorem dX2_nearOf_62 : decode cX2_nearOf 62 = .ok (.iload_n 2, 1) := by decide +kernel
theorem dX2_nearOf_63 : decode cX2_nearOf 63 = .ok (.iadd, 1) := by decide +kernel
theorem dX2_nearOf_64 : decode cX2_nearOf 64 = .ok (.imul, 1) := by decide +kernel
theorem dX2_nearOf_65 : decode cX2_nearOf 65 = .ok (.ireturn, 1) := by decide +kernel
theorem dX2_nearOf_66 : decode cX2_nearOf 66 = .ok (.iload_n 1, 1) := by decide +kernel
theorem dX2_nearOf_67 : decode cX2_nearOf 67 = .ok (.ireturn, 1) := by decide +kernel
set_option maxRecDepth 20000 in
theorem ggX2_nearNow_X2_openTopics : GoodIn wsX2_nearNow wsX2_openTopics := goodIn_r _ [8, 9, 10, 11, 12, 13, 14, 15, 16, 24, 25, 26, 27, 28, 29, 30, 31, 32, 33, 34, 35, 36] (by decide +kernel) (by decide +kernel)
set_option maxRecDepth 20000 in
theorem gX2_nearNow_X2_openTopics : GoodIn wsX2_nearNow (wsV RX2 86 RX2 yX2_openTopics wsX2_openTopics) := goodIn_app (goodIn_of _ (by decide +kernel)) ggX2_nearNow_X2_openTopics
set_option maxRecDepth 20000 in
theorem ggX2_nearNow_X2_nearOf : GoodIn wsX2_nearNow wsX2_nearOf := goodIn_r _ [19, 20, 21, 22, 23] (by decide +kernel) (by decide +kernel)
set_option maxRecDepth 20000 in
theorem gX2_nearNow_X2_nearOf : GoodIn wsX2_nearNow (va_wsS RX2 90 yX2_nearOf wsX2_nearOf) := goodIn_app (goodIn_of _ (by decide +kernel)) ggX2_nearNow_X2_nearOf
theorem dX2_nearNow_0 : decode cX2_nearNow 0 = .ok (.aload_n 0, 1) := by decide +kernel
theorem dX2_nearNow_1 : decode cX2_nearNow 1 = .ok (.getfield 22, 3) := by decide +kernel
theorem dX2_nearNow_4 : decode cX2_nearNow 4 = .ok (.iload_n 1, 1) := by decide +kernel
theorem dX2_nearNow_5 : decode cX2_nearNow 5 = .ok (.iaload, 1) := by decide +kernel
theorem dX2_nearNow_6 : decode cX2_nearNow 6 = .ok (.aload_n 0, 1) := by decide +kernel
theorem dX2_nearNow_7 : decode cX2_nearNow 7 = .ok (.getfield 25, 3) := by decide +kernel
theorem dX2_nearNow_10 : decode cX2_nearNow 10 = .ok (.iload_n 1, 1) := by decide +kernel
theorem dX2_nearNow_11 : decode cX2_nearNow 11 = .ok (.iaload, 1) := by decide +kernel
theorem dX2_nearNow_12 : decode cX2_nearNow 12 = .ok (.aload_n 0, 1) := by decide +kernel
theorem dX2_nearNow_13 : decode cX2_nearNow 13 = .ok (.getfield 43, 3) := by decide +kernel
theorem dX2_nearNow_16 : decode cX2_nearNow 16 = .ok (.iload_n 1, 1) := by decide +kernel
theorem dX2_nearNow_17 : decode cX2_nearNow 17 = .ok (.iaload, 1) := by decide +kernel
theorem dX2_nearNow_18 : decode cX2_nearNow 18 = .ok (.aload_n 0, 1) := by decide +kernel
theorem dX2_nearNow_19 : decode cX2_nearNow 19 = .ok (.invokevirtual 86, 3) := by decide +kernel
theorem dX2_nearNow_22 : decode cX2_nearNow 22 = .ok (.invokestatic 90, 3) := by decide +kernel
theorem dX2_nearNow_25 : decode cX2_nearNow 25 = .ok (.ireturn, 1) := by decide +kernel
set_option maxRecDepth 20000 in
theorem ggX2_aspect_X2_nearNow : GoodIn wsX2_aspect wsX2_nearNow := goodIn_r _ [9, 1, 2, 4, 10, 11, 12, 8, 13, 14, 15, 16, 17, 18, 19, 20, 21, 22, 23, 24, 25, 26, 27, 28, 29, 30, 31, 32, 33, 34, 35, 36, 37, 38, 39, 40, 41] (by decide +kernel) (by decide +kernel)
set_option maxRecDepth 20000 in
theorem gX2_aspect_X2_nearNow : GoodIn wsX2_aspect (wsV RX2 94 RX2 yX2_nearNow wsX2_nearNow) := goodIn_app (goodIn_of _ (by decide +kernel)) ggX2_aspect_X2_nearNow
theorem dX2_aspect_0 : decode cX2_aspect 0 = .ok (.iload_n 2, 1) := by decide +kernel
theorem dX2_aspect_1 : decode cX2_aspect 1 = .ok (.tableswitch 58 0 3 #[31, 38, 45, 51], 31) := by decide +kernel
theorem dX2_aspect_32 : decode cX2_aspect 32 = .ok (.aload_n 0, 1) := by decide +kernel
theorem dX2_aspect_33 : decode cX2_aspect 33 = .ok (.getfield 22, 3) := by decide +kernel
theorem dX2_aspect_36 : decode cX2_aspect 36 = .ok (.iload_n 1, 1) := by decide +kernel
theorem dX2_aspect_37 : decode cX2_aspect 37 = .ok (.iaload, 1) := by decide +kernel
theorem dX2_aspect_38 : decode cX2_aspect 38 = .ok (.ireturn, 1) := by decide +kernel
theorem dX2_aspect_39 : decode cX2_aspect 39 = .ok (.aload_n 0, 1) := by decide +kernel
theorem dX2_aspect_40 : decode cX2_aspect 40 = .ok (.getfield 25, 3) := by decide +kernel
theorem dX2_aspect_43 : decode cX2_aspect 43 = .ok (.iload_n 1, 1) := by decide +kernel
theorem dX2_aspect_44 : decode cX2_aspect 44 = .ok (.iaload, 1) := by decide +kernel
theorem dX2_aspect_45 : decode cX2_aspect 45 = .ok (.ireturn, 1) := by decide +kernel
theorem dX2_aspect_46 : decode cX2_aspect 46 = .ok (.aload_n 0, 1) := by decide +kernel
theorem dX2_aspect_47 : decode cX2_aspect 47 = .ok (.iload_n 1, 1) := by decide +kernel
theorem dX2_aspect_48 : decode cX2_aspect 48 = .ok (.invokevirtual 94, 3) := by decide +kernel
theorem dX2_aspect_51 : decode cX2_aspect 51 = .ok (.ireturn, 1) := by decide +kernel
theorem dX2_aspect_52 : decode cX2_aspect 52 = .ok (.aload_n 0, 1) := by decide +kernel
theorem dX2_aspect_53 : decode cX2_aspect 53 = .ok (.getfield 28, 3) := by decide +kernel
theorem dX2_aspect_56 : decode cX2_aspect 56 = .ok (.iload_n 1, 1) := by decide +kernel
theorem dX2_aspect_57 : decode cX2_aspect 57 = .ok (.iaload, 1) := by decide +kernel
theorem dX2_aspect_58 : decode cX2_aspect 58 = .ok (.ireturn, 1) := by decide +kernel
theorem dX2_aspect_59 : decode cX2_aspect 59 = .ok (.aload_n 0, 1) := by decide +kernel
theorem dX2_aspect_60 : decode cX2_aspect 60 = .ok (.getfield 43, 3) := by decide +kernel
theorem dX2_aspect_63 : decode cX2_aspect 63 = .ok (.iload_n 1, 1) := by decide +kernel
theorem dX2_aspect_64 : decode cX2_aspect 64 = .ok (.iaload, 1) := by decide +kernel
theorem dX2_aspect_65 : decode cX2_aspect 65 = .ok (.ireturn, 1) := by decide +kernel
set_option maxRecDepth 20000 in
theorem ggX2_bearsSaying_X2_nearNow : GoodIn wsX2_bearsSaying wsX2_nearNow := goodIn_r _ [7, 8, 9, 10, 11, 12, 13, 6, 14, 15, 16, 17, 18, 19, 20, 21, 22, 23, 24, 25, 26, 27, 28, 29, 30, 31, 32, 33, 34, 35, 36, 37, 38, 39, 40, 41, 42] (by decide +kernel) (by decide +kernel)
set_option maxRecDepth 20000 in
theorem gX2_bearsSaying_X2_nearNow : GoodIn wsX2_bearsSaying (wsV RX2 94 RX2 yX2_nearNow wsX2_nearNow) := goodIn_app (goodIn_of _ (by decide +kernel)) ggX2_bearsSaying_X2_nearNow
theorem dX2_bearsSaying_0 : decode cX2_bearsSaying 0 = .ok (.aload_n 0, 1) := by decide +kernel
theorem dX2_bearsSaying_1 : decode cX2_bearsSaying 1 = .ok (.getfield 34, 3) := by decide +kernel
theorem dX2_bearsSaying_4 : decode cX2_bearsSaying 4 = .ok (.aload_n 0, 1) := by decide +kernel
theorem dX2_bearsSaying_5 : decode cX2_bearsSaying 5 = .ok (.iload_n 2, 1) := by decide +kernel
theorem dX2_bearsSaying_6 : decode cX2_bearsSaying 6 = .ok (.invokevirtual 94, 3) := by decide +kernel
theorem dX2_bearsSaying_9 : decode cX2_bearsSaying 9 = .ok (.iadd, 1) := by decide +kernel
theorem dX2_bearsSaying_10 : decode cX2_bearsSaying 10 = .ok (.aload_n 0, 1) := by decide +kernel
theorem dX2_bearsSaying_11 : decode cX2_bearsSaying 11 = .ok (.getfield 15, 3) := by decide +kernel
theorem dX2_bearsSaying_14 : decode cX2_bearsSaying 14 = .ok (.iload_n 1, 1) := by decide +kernel
theorem dX2_bearsSaying_15 : decode cX2_bearsSaying 15 = .ok (.iaload, 1) := by decide +kernel
theorem dX2_bearsSaying_16 : decode cX2_bearsSaying 16 = .ok (.if_icmp .gt 7, 3) := by decide +kernel
theorem dX2_bearsSaying_19 : decode cX2_bearsSaying 19 = .ok (.iconst 1, 1) := by decide +kernel
theorem dX2_bearsSaying_20 : decode cX2_bearsSaying 20 = .ok (.goto 4, 3) := by decide +kernel
theorem dX2_bearsSaying_23 : decode cX2_bearsSaying 23 = .ok (.iconst 0, 1) := by decide +kernel
theorem dX2_bearsSaying_24 : decode cX2_bearsSaying 24 = .ok (.ireturn, 1) := by decide +kernel
set_option maxRecDepth 20000 in
theorem ggX2_whatCanBeSaid_X2_isAnyOver : GoodIn wsX2_whatCanBeSaid wsX2_isAnyOver := goodIn_r _ [6, 7, 40, 41, 42, 43, 44, 45, 46, 47, 48, 49, 50, 51, 52] (by decide +kernel) (by decide +kernel)
set_option maxRecDepth 20000 in
theorem gX2_whatCanBeSaid_X2_isAnyOver : GoodIn wsX2_whatCanBeSaid (wsV RX2 97 RX2 yX2_isAnyOver wsX2_isAnyOver) := goodIn_app (goodIn_of _ (by decide +kernel)) ggX2_whatCanBeSaid_X2_isAnyOver
set_option maxRecDepth 20000 in
theorem ggX2_whatCanBeSaid_X2_bearsSaying : GoodIn wsX2_whatCanBeSaid wsX2_bearsSaying := goodIn_r _ [11, 12, 13, 14, 15, 16, 5, 17, 18, 19, 20, 21, 22, 23, 24, 25, 26, 27, 28, 29, 30, 31, 32, 33, 34, 35, 36, 37, 38, 39, 40, 41, 42, 43, 44, 45, 46, 47, 48, 49, 50, 51, 52] (by decide +kernel) (by decide +kernel)
set_option maxRecDepth 20000 in
theorem gX2_whatCanBeSaid_X2_bearsSaying : GoodIn wsX2_whatCanBeSaid (wsV RX2 101 RX2 yX2_bearsSaying wsX2_bearsSaying) := goodIn_app (goodIn_of _ (by decide +kernel)) ggX2_whatCanBeSaid_X2_bearsSaying
theorem dX2_whatCanBeSaid_0 : decode cX2_whatCanBeSaid 0 = .ok (.iconst 0, 1) := by decide +kernel
theorem dX2_whatCanBeSaid_1 : decode cX2_whatCanBeSaid 1 = .ok (.istore_n 2, 1) := by decide +kernel
theorem dX2_whatCanBeSaid_2 : decode cX2_whatCanBeSaid 2 = .ok (.iconst 0, 1) := by decide +kernel
theorem dX2_whatCanBeSaid_3 : decode cX2_whatCanBeSaid 3 = .ok (.istore_n 3, 1) := by decide +kernel
theorem dX2_whatCanBeSaid_4 : decode cX2_whatCanBeSaid 4 = .ok (.iload_n 3, 1) := by decide +kernel
theorem dX2_whatCanBeSaid_5 : decode cX2_whatCanBeSaid 5 = .ok (.aload_n 0, 1) := by decide +kernel
theorem dX2_whatCanBeSaid_6 : decode cX2_whatCanBeSaid 6 = .ok (.getfield 19, 3) := by decide +kernel
theorem dX2_whatCanBeSaid_9 : decode cX2_whatCanBeSaid 9 = .ok (.if_icmp .ge 31, 3) := by decide +kernel
theorem dX2_whatCanBeSaid_12 : decode cX2_whatCanBeSaid 12 = .ok (.aload_n 0, 1) := by decide +kernel
theorem dX2_whatCanBeSaid_13 : decode cX2_whatCanBeSaid 13 = .ok (.invokevirtual 97, 3) := by decide +kernel
theorem dX2_whatCanBeSaid_16 : decode cX2_whatCanBeSaid 16 = .ok (.ifCond .ne 24, 3) := by decide +kernel
theorem dX2_whatCanBeSaid_19 : decode cX2_whatCanBeSaid 19 = .ok (.aload_n 0, 1) := by decide +kernel
theorem dX2_whatCanBeSaid_20 : decode cX2_whatCanBeSaid 20 = .ok (.iload_n 1, 1) := by decide +kernel
theorem dX2_whatCanBeSaid_21 : decode cX2_whatCanBeSaid 21 = .ok (.iload_n 3, 1) := by decide +kernel
theorem dX2_whatCanBeSaid_22 : decode cX2_whatCanBeSaid 22 = .ok (.invokevirtual 101, 3) := by decide +kernel
theorem dX2_whatCanBeSaid_25 : decode cX2_whatCanBeSaid 25 = .ok (.ifCond .eq 9, 3) := by decide +kernel
theorem dX2_whatCanBeSaid_28 : decode cX2_whatCanBeSaid 28 = .ok (.iload_n 2, 1) := by decide +kernel
theorem dX2_whatCanBeSaid_29 : decode cX2_whatCanBeSaid 29 = .ok (.iconst 1, 1) := by decide +kernel
theorem dX2_whatCanBeSaid_30 : decode cX2_whatCanBeSaid 30 = .ok (.iload_n 3, 1) := by decide +kernel
theorem dX2_whatCanBeSaid_31 : decode cX2_whatCanBeSaid 31 = .ok (.ishl, 1) := by decide +kernel
theorem dX2_whatCanBeSaid_32 : decode cX2_whatCanBeSaid 32 = .ok (.ior, 1) := by decide +kernel
theorem dX2_whatCanBeSaid_33 : decode cX2_whatCanBeSaid 33 = .ok (.istore_n 2, 1) := by decide +kernel
theorem dX2_whatCanBeSaid_34 : decode cX2_whatCanBeSaid 34 = .ok (.iinc 3 1, 3) := by decide +kernel
theorem dX2_whatCanBeSaid_37 : decode cX2_whatCanBeSaid 37 = .ok (.goto (-33), 3) := by decide +kernel
theorem dX2_whatCanBeSaid_40 : decode cX2_whatCanBeSaid 40 = .ok (.iload_n 2, 1) := by decide +kernel
theorem dX2_whatCanBeSaid_41 : decode cX2_whatCanBeSaid 41 = .ok (.ireturn, 1) := by decide +kernel
set_option maxRecDepth 20000 in
theorem ggX2_whoWouldBeOver_X2_isAnyOver : GoodIn wsX2_whoWouldBeOver wsX2_isAnyOver := goodIn_r _ [6, 7, 40, 41, 42, 43, 44, 45, 46, 47, 48, 49, 50, 51, 52] (by decide +kernel) (by decide +kernel)
set_option maxRecDepth 20000 in
theorem gX2_whoWouldBeOver_X2_isAnyOver : GoodIn wsX2_whoWouldBeOver (wsV RX2 97 RX2 yX2_isAnyOver wsX2_isAnyOver) := goodIn_app (goodIn_of _ (by decide +kernel)) ggX2_whoWouldBeOver_X2_isAnyOver
set_option maxRecDepth 20000 in
theorem ggX2_whoWouldBeOver_X2_bearsSaying : GoodIn wsX2_whoWouldBeOver wsX2_bearsSaying := goodIn_r _ [11, 12, 13, 14, 15, 16, 5, 17, 18, 19, 20, 21, 22, 23, 24, 25, 26, 27, 28, 29, 30, 31, 32, 33, 34, 35, 36, 37, 38, 39, 40, 41, 42, 43, 44, 45, 46, 47, 48, 49, 50, 51, 52] (by decide +kernel) (by decide +kernel)
set_option maxRecDepth 20000 in
theorem gX2_whoWouldBeOver_X2_bearsSaying : GoodIn wsX2_whoWouldBeOver (wsV RX2 101 RX2 yX2_bearsSaying wsX2_bearsSaying) := goodIn_app (goodIn_of _ (by decide +kernel)) ggX2_whoWouldBeOver_X2_bearsSaying
theorem dX2_whoWouldBeOver_0 : decode cX2_whoWouldBeOver 0 = .ok (.iconst 0, 1) := by decide +kernel
theorem dX2_whoWouldBeOver_1 : decode cX2_whoWouldBeOver 1 = .ok (.istore_n 2, 1) := by decide +kernel
theorem dX2_whoWouldBeOver_2 : decode cX2_whoWouldBeOver 2 = .ok (.iconst 0, 1) := by decide +kernel
theorem dX2_whoWouldBeOver_3 : decode cX2_whoWouldBeOver 3 = .ok (.istore_n 3, 1) := by decide +kernel
theorem dX2_whoWouldBeOver_4 : decode cX2_whoWouldBeOver 4 = .ok (.iload_n 3, 1) := by decide +kernel
theorem dX2_whoWouldBeOver_5 : decode cX2_whoWouldBeOver 5 = .ok (.aload_n 0, 1) := by decide +kernel
theorem dX2_whoWouldBeOver_6 : decode cX2_whoWouldBeOver 6 = .ok (.getfield 9, 3) := by decide +kernel
theorem dX2_whoWouldBeOver_9 : decode cX2_whoWouldBeOver 9 = .ok (.if_icmp .ge 31, 3) := by decide +kernel
theorem dX2_whoWouldBeOver_12 : decode cX2_whoWouldBeOver 12 = .ok (.aload_n 0, 1) := by decide +kernel
theorem dX2_whoWouldBeOver_13 : decode cX2_whoWouldBeOver 13 = .ok (.invokevirtual 97, 3) := by decide +kernel
theorem dX2_whoWouldBeOver_16 : decode cX2_whoWouldBeOver 16 = .ok (.ifCond .ne 24, 3) := by decide +kernel
theorem dX2_whoWouldBeOver_19 : decode cX2_whoWouldBeOver 19 = .ok (.aload_n 0, 1) := by decide +kernel
theorem dX2_whoWouldBeOver_20 : decode cX2_whoWouldBeOver 20 = .ok (.iload_n 3, 1) := by decide +kernel
theorem dX2_whoWouldBeOver_21 : decode cX2_whoWouldBeOver 21 = .ok (.iload_n 1, 1) := by decide +kernel
theorem dX2_whoWouldBeOver_22 : decode cX2_whoWouldBeOver 22 = .ok (.invokevirtual 101, 3) := by decide +kernel
theorem dX2_whoWouldBeOver_25 : decode cX2_whoWouldBeOver 25 = .ok (.ifCond .ne 9, 3) := by decide +kernel
theorem dX2_whoWouldBeOver_28 : decode cX2_whoWouldBeOver 28 = .ok (.iload_n 2, 1) := by decide +kernel
theorem dX2_whoWouldBeOver_29 : decode cX2_whoWouldBeOver 29 = .ok (.iconst 1, 1) := by decide +kernel
theorem dX2_whoWouldBeOver_30 : decode cX2_whoWouldBeOver 30 = .ok (.iload_n 3, 1) := by decide +kernel
theorem dX2_whoWouldBeOver_31 : decode cX2_whoWouldBeOver 31 = .ok (.ishl, 1) := by decide +kernel
theorem dX2_whoWouldBeOver_32 : decode cX2_whoWouldBeOver 32 = .ok (.ior, 1) := by decide +kernel
theorem dX2_whoWouldBeOver_33 : decode cX2_whoWouldBeOver 33 = .ok (.istore_n 2, 1) := by decide +kernel
theorem dX2_whoWouldBeOver_34 : decode cX2_whoWouldBeOver 34 = .ok (.iinc 3 1, 3) := by decide +kernel
theorem dX2_whoWouldBeOver_37 : decode cX2_whoWouldBeOver 37 = .ok (.goto (-33), 3) := by decide +kernel
theorem dX2_whoWouldBeOver_40 : decode cX2_whoWouldBeOver 40 = .ok (.iload_n 2, 1) := by decide +kernel
theorem dX2_whoWouldBeOver_41 : decode cX2_whoWouldBeOver 41 = .ok (.ireturn, 1) := by decide +kernel
set_option maxRecDepth 20000 in
theorem ggX2_utter_X2_nearNow : GoodIn wsX2_utter wsX2_nearNow := goodIn_r _ [11, 12, 13, 4, 14, 15, 16, 10, 17, 2, 18, 19, 20, 21, 22, 23, 24, 25, 26, 27, 28, 29, 30, 31, 32, 33, 34, 35, 36, 37, 38, 39, 40, 41, 42, 43, 44] (by decide +kernel) (by decide +kernel)
set_option maxRecDepth 20000 in
theorem gX2_utter_X2_nearNow : GoodIn wsX2_utter (wsV RX2 94 RX2 yX2_nearNow wsX2_nearNow) := goodIn_app (goodIn_of _ (by decide +kernel)) ggX2_utter_X2_nearNow
theorem dX2_utter_0 : decode cX2_utter 0 = .ok (.aload_n 0, 1) := by decide +kernel
theorem dX2_utter_1 : decode cX2_utter 1 = .ok (.dup, 1) := by decide +kernel
theorem dX2_utter_2 : decode cX2_utter 2 = .ok (.getfield 34, 3) := by decide +kernel
theorem dX2_utter_5 : decode cX2_utter 5 = .ok (.aload_n 0, 1) := by decide +kernel
theorem dX2_utter_6 : decode cX2_utter 6 = .ok (.iload_n 2, 1) := by decide +kernel
theorem dX2_utter_7 : decode cX2_utter 7 = .ok (.invokevirtual 94, 3) := by decide +kernel
theorem dX2_utter_10 : decode cX2_utter 10 = .ok (.iadd, 1) := by decide +kernel
theorem dX2_utter_11 : decode cX2_utter 11 = .ok (.putfield 34, 3) := by decide +kernel
theorem dX2_utter_14 : decode cX2_utter 14 = .ok (.aload_n 0, 1) := by decide +kernel
theorem dX2_utter_15 : decode cX2_utter 15 = .ok (.dup, 1) := by decide +kernel
theorem dX2_utter_16 : decode cX2_utter 16 = .ok (.getfield 37, 3) := by decide +kernel
theorem dX2_utter_19 : decode cX2_utter 19 = .ok (.aload_n 0, 1) := by decide +kernel
theorem dX2_utter_20 : decode cX2_utter 20 = .ok (.getfield 28, 3) := by decide +kernel
theorem dX2_utter_23 : decode cX2_utter 23 = .ok (.iload_n 2, 1) := by decide +kernel
theorem dX2_utter_24 : decode cX2_utter 24 = .ok (.iaload, 1) := by decide +kernel
theorem dX2_utter_25 : decode cX2_utter 25 = .ok (.ior, 1) := by decide +kernel
theorem dX2_utter_26 : decode cX2_utter 26 = .ok (.putfield 37, 3) := by decide +kernel
theorem dX2_utter_29 : decode cX2_utter 29 = .ok (.aload_n 0, 1) := by decide +kernel
theorem dX2_utter_30 : decode cX2_utter 30 = .ok (.getfield 43, 3) := by decide +kernel
theorem dX2_utter_33 : decode cX2_utter 33 = .ok (.iload_n 2, 1) := by decide +kernel
theorem dX2_utter_34 : decode cX2_utter 34 = .ok (.dup2, 1) := by decide +kernel
theorem dX2_utter_35 : decode cX2_utter 35 = .ok (.iaload, 1) := by decide +kernel
theorem dX2_utter_36 : decode cX2_utter 36 = .ok (.iconst 1, 1) := by decide +kernel
theorem dX2_utter_37 : decode cX2_utter 37 = .ok (.iadd, 1) := by decide +kernel
theorem dX2_utter_38 : decode cX2_utter 38 = .ok (.iastore, 1) := by decide +kernel
theorem dX2_utter_39 : decode cX2_utter 39 = .ok (.aload_n 0, 1) := by decide +kernel
theorem dX2_utter_40 : decode cX2_utter 40 = .ok (.getfield 34, 3) := by decide +kernel
theorem dX2_utter_43 : decode cX2_utter 43 = .ok (.aload_n 0, 1) := by decide +kernel
theorem dX2_utter_44 : decode cX2_utter 44 = .ok (.getfield 15, 3) := by decide +kernel
theorem dX2_utter_47 : decode cX2_utter 47 = .ok (.iload_n 1, 1) := by decide +kernel
theorem dX2_utter_48 : decode cX2_utter 48 = .ok (.iaload, 1) := by decide +kernel
theorem dX2_utter_49 : decode cX2_utter 49 = .ok (.if_icmp .le 8, 3) := by decide +kernel
theorem dX2_utter_52 : decode cX2_utter 52 = .ok (.aload_n 0, 1) := by decide +kernel
theorem dX2_utter_53 : decode cX2_utter 53 = .ok (.iload_n 1, 1) := by decide +kernel
theorem dX2_utter_54 : decode cX2_utter 54 = .ok (.putfield 40, 3) := by decide +kernel
theorem dX2_utter_57 : decode cX2_utter 57 = .ok (.return_, 1) := by decide +kernel
theorem dX2_ease_0 : decode cX2_ease 0 = .ok (.aload_n 0, 1) := by decide +kernel
theorem dX2_ease_1 : decode cX2_ease 1 = .ok (.iconst 0, 1) := by decide +kernel
theorem dX2_ease_2 : decode cX2_ease 2 = .ok (.aload_n 0, 1) := by decide +kernel
theorem dX2_ease_3 : decode cX2_ease 3 = .ok (.getfield 34, 3) := by decide +kernel
theorem dX2_ease_6 : decode cX2_ease 6 = .ok (.iconst 1, 1) := by decide +kernel
theorem dX2_ease_7 : decode cX2_ease 7 = .ok (.isub, 1) := by decide +kernel
theorem dX2_ease_8 : decode cX2_ease 8 = .ok (.invokestatic 80, 3) := by decide +kernel
theorem dX2_ease_11 : decode cX2_ease 11 = .ok (.putfield 34, 3) := by decide +kernel
theorem dX2_ease_14 : decode cX2_ease 14 = .ok (.return_, 1) := by decide +kernel
set_option maxRecDepth 20000 in
theorem ggX2_attempt_X2_ease : GoodIn wsX2_attempt wsX2_ease := goodIn_r _ [5, 6, 7, 8, 9, 10, 40, 41, 42, 43, 44, 45, 46, 47, 48, 49, 50, 51, 52] (by decide +kernel) (by decide +kernel)
set_option maxRecDepth 20000 in
theorem gX2_attempt_X2_ease : GoodIn wsX2_attempt (wsV RX2 104 RX2 yX2_ease wsX2_ease) := goodIn_app (goodIn_of _ (by decide +kernel)) ggX2_attempt_X2_ease
set_option maxRecDepth 20000 in
theorem ggX2_attempt_X2_utter : GoodIn wsX2_attempt wsX2_utter := goodIn_r _ [14, 6, 15, 16, 17, 18, 19, 20, 21, 22, 4, 23, 24, 25, 26, 27, 28, 29, 30, 31, 32, 33, 34, 35, 36, 37, 38, 39, 7, 8, 9, 10, 40, 41, 42, 43, 44, 45, 46, 47, 48, 49, 50, 51, 52] (by decide +kernel) (by decide +kernel)
set_option maxRecDepth 20000 in
theorem gX2_attempt_X2_utter : GoodIn wsX2_attempt (wsV RX2 107 RX2 yX2_utter wsX2_utter) := goodIn_app (goodIn_of _ (by decide +kernel)) ggX2_attempt_X2_utter
theorem dX2_attempt_0 : decode cX2_attempt 0 = .ok (.iload_n 2, 1) := by decide +kernel
theorem dX2_attempt_1 : decode cX2_attempt 1 = .ok (.iconst (-1), 1) := by decide +kernel
theorem dX2_attempt_2 : decode cX2_attempt 2 = .ok (.if_icmp .ne 10, 3) := by decide +kernel
theorem dX2_attempt_5 : decode cX2_attempt 5 = .ok (.aload_n 0, 1) := by decide +kernel
theorem dX2_attempt_6 : decode cX2_attempt 6 = .ok (.invokevirtual 104, 3) := by decide +kernel
theorem dX2_attempt_9 : decode cX2_attempt 9 = .ok (.goto 9, 3) := by decide +kernel
theorem dX2_attempt_12 : decode cX2_attempt 12 = .ok (.aload_n 0, 1) := by decide +kernel
theorem dX2_attempt_13 : decode cX2_attempt 13 = .ok (.iload_n 1, 1) := by decide +kernel
theorem dX2_attempt_14 : decode cX2_attempt 14 = .ok (.iload_n 2, 1) := by decide +kernel
theorem dX2_attempt_15 : decode cX2_attempt 15 = .ok (.invokevirtual 107, 3) := by decide +kernel
theorem dX2_attempt_18 : decode cX2_attempt 18 = .ok (.return_, 1) := by decide +kernel
theorem dX2_takeBack_0 : decode cX2_takeBack 0 = .ok (.iload_n 1, 1) := by decide +kernel
theorem dX2_takeBack_1 : decode cX2_takeBack 1 = .ok (.iconst (-1), 1) := by decide +kernel
theorem dX2_takeBack_2 : decode cX2_takeBack 2 = .ok (.if_icmp .eq 13, 3) := by decide +kernel
theorem dX2_takeBack_5 : decode cX2_takeBack 5 = .ok (.aload_n 0, 1) := by decide +kernel
theorem dX2_takeBack_6 : decode cX2_takeBack 6 = .ok (.getfield 43, 3) := by decide +kernel
theorem dX2_takeBack_9 : decode cX2_takeBack 9 = .ok (.iload_n 1, 1) := by decide +kernel
theorem dX2_takeBack_10 : decode cX2_takeBack 10 = .ok (.dup2, 1) := by decide +kernel
theorem dX2_takeBack_11 : decode cX2_takeBack 11 = .ok (.iaload, 1) := by decide +kernel
theorem dX2_takeBack_12 : decode cX2_takeBack 12 = .ok (.iconst 1, 1) := by decide +kernel
theorem dX2_takeBack_13 : decode cX2_takeBack 13 = .ok (.isub, 1) := by decide +kernel
theorem dX2_takeBack_14 : decode cX2_takeBack 14 = .ok (.iastore, 1) := by decide +kernel
theorem dX2_takeBack_15 : decode cX2_takeBack 15 = .ok (.aload_n 0, 1) := by decide +kernel
theorem dX2_takeBack_16 : decode cX2_takeBack 16 = .ok (.iload_n 2, 1) := by decide +kernel
theorem dX2_takeBack_17 : decode cX2_takeBack 17 = .ok (.putfield 34, 3) := by decide +kernel
theorem dX2_takeBack_20 : decode cX2_takeBack 20 = .ok (.aload_n 0, 1) := by decide +kernel
theorem dX2_takeBack_21 : decode cX2_takeBack 21 = .ok (.iload_n 3, 1) := by decide +kernel
theorem dX2_takeBack_22 : decode cX2_takeBack 22 = .ok (.putfield 37, 3) := by decide +kernel
theorem dX2_takeBack_25 : decode cX2_takeBack 25 = .ok (.return_, 1) := by decide +kernel
theorem dX2_deedOf_0 : decode cX2_deedOf 0 = .ok (.iload_n 0, 1) := by decide +kernel
theorem dX2_deedOf_1 : decode cX2_deedOf 1 = .ok (.bipush 6, 2) := by decide +kernel
theorem dX2_deedOf_3 : decode cX2_deedOf 3 = .ok (.imul, 1) := by decide +kernel
theorem dX2_deedOf_4 : decode cX2_deedOf 4 = .ok (.iload_n 1, 1) := by decide +kernel
theorem dX2_deedOf_5 : decode cX2_deedOf 5 = .ok (.iadd, 1) := by decide +kernel
theorem dX2_deedOf_6 : decode cX2_deedOf 6 = .ok (.ireturn, 1) := by decide +kernel
set_option maxRecDepth 20000 in
theorem ggX2_deedByLot_X2_isEmpty : GoodIn wsX2_deedByLot wsX2_isEmpty := goodIn_r _ [10, 5, 4, 51, 52, 53, 54, 55, 56, 57, 58, 59, 60, 61, 62, 63] (by decide +kernel) (by decide +kernel)
set_option maxRecDepth 20000 in
theorem gX2_deedByLot_X2_isEmpty : GoodIn wsX2_deedByLot (wsV RX2 111 RX2 yX2_isEmpty wsX2_isEmpty) := goodIn_app (goodIn_of _ (by decide +kernel)) ggX2_deedByLot_X2_isEmpty
set_option maxRecDepth 20000 in
theorem ggX2_deedByLot_X2_isAnyOver : GoodIn wsX2_deedByLot wsX2_isAnyOver := goodIn_r _ [14, 15, 51, 52, 53, 54, 55, 56, 57, 58, 59, 60, 61, 62, 63] (by decide +kernel) (by decide +kernel)
set_option maxRecDepth 20000 in
theorem gX2_deedByLot_X2_isAnyOver : GoodIn wsX2_deedByLot (wsV RX2 97 RX2 yX2_isAnyOver wsX2_isAnyOver) := goodIn_app (goodIn_of _ (by decide +kernel)) ggX2_deedByLot_X2_isAnyOver
set_option maxRecDepth 20000 in
theorem ggX2_deedByLot_X2_bearsSaying : GoodIn wsX2_deedByLot wsX2_bearsSaying := goodIn_r _ [19, 20, 21, 22, 23, 24, 9, 25, 26, 27, 28, 29, 30, 31, 32, 33, 34, 35, 36, 37, 38, 39, 40, 41, 42, 43, 44, 45, 46, 47, 51, 52, 53, 54, 55, 56, 57, 58, 59, 60, 61, 62, 63] (by decide +kernel) (by decide +kernel)
set_option maxRecDepth 20000 in
theorem gX2_deedByLot_X2_bearsSaying : GoodIn wsX2_deedByLot (wsV RX2 101 RX2 yX2_bearsSaying wsX2_bearsSaying) := goodIn_app (goodIn_of _ (by decide +kernel)) ggX2_deedByLot_X2_bearsSaying
set_option maxRecDepth 20000 in
theorem ggX2_deedByLot_X2_deedOf : GoodIn wsX2_deedByLot wsX2_deedOf := goodIn_r _ [50] (by decide +kernel) (by decide +kernel)
set_option maxRecDepth 20000 in
theorem gX2_deedByLot_X2_deedOf : GoodIn wsX2_deedByLot (va_wsS RX2 120 yX2_deedOf wsX2_deedOf) := goodIn_app (goodIn_of _ (by decide +kernel)) ggX2_deedByLot_X2_deedOf
theorem dX2_deedByLot_0 : decode cX2_deedByLot 0 = .ok (.aload_n 0, 1) := by decide +kernel
theorem dX2_deedByLot_1 : decode cX2_deedByLot 1 = .ok (.invokevirtual 111, 3) := by decide +kernel
theorem dX2_deedByLot_4 : decode cX2_deedByLot 4 = .ok (.ifCond .ne 24, 3) := by decide +kernel
theorem dX2_deedByLot_7 : decode cX2_deedByLot 7 = .ok (.lload_n 1, 1) := by decide +kernel
theorem dX2_deedByLot_8 : decode cX2_deedByLot 8 = .ok (.ldc2_w 114, 3) := by decide +kernel
theorem dX2_deedByLot_11 : decode cX2_deedByLot 11 = .ok (.ldiv, 1) := by decide +kernel
theorem dX2_deedByLot_12 : decode cX2_deedByLot 12 = .ok (.ldc2_w 116, 3) := by decide +kernel
theorem dX2_deedByLot_15 : decode cX2_deedByLot 15 = .ok (.lrem, 1) := by decide +kernel
theorem dX2_deedByLot_16 : decode cX2_deedByLot 16 = .ok (.lconst 0, 1) := by decide +kernel
theorem dX2_deedByLot_17 : decode cX2_deedByLot 17 = .ok (.lcmp, 1) := by decide +kernel
theorem dX2_deedByLot_18 : decode cX2_deedByLot 18 = .ok (.ifCond .eq 10, 3) := by decide +kernel
theorem dX2_deedByLot_21 : decode cX2_deedByLot 21 = .ok (.aload_n 0, 1) := by decide +kernel
theorem dX2_deedByLot_22 : decode cX2_deedByLot 22 = .ok (.invokevirtual 97, 3) := by decide +kernel
theorem dX2_deedByLot_25 : decode cX2_deedByLot 25 = .ok (.ifCond .eq 5, 3) := by decide +kernel
theorem dX2_deedByLot_28 : decode cX2_deedByLot 28 = .ok (.iconst (-1), 1) := by decide +kernel
theorem dX2_deedByLot_29 : decode cX2_deedByLot 29 = .ok (.ireturn, 1) := by decide +kernel
theorem dX2_deedByLot_30 : decode cX2_deedByLot 30 = .ok (.lload_n 1, 1) := by decide +kernel
theorem dX2_deedByLot_31 : decode cX2_deedByLot 31 = .ok (.ldc2_w 118, 3) := by decide +kernel
theorem dX2_deedByLot_34 : decode cX2_deedByLot 34 = .ok (.ldiv, 1) := by decide +kernel
theorem dX2_deedByLot_35 : decode cX2_deedByLot 35 = .ok (.aload_n 0, 1) := by decide +kernel
theorem dX2_deedByLot_36 : decode cX2_deedByLot 36 = .ok (.getfield 9, 3) := by decide +kernel
theorem dX2_deedByLot_39 : decode cX2_deedByLot 39 = .ok (.i2l, 1) := by decide +kernel
theorem dX2_deedByLot_40 : decode cX2_deedByLot 40 = .ok (.lrem, 1) := by decide +kernel
theorem dX2_deedByLot_41 : decode cX2_deedByLot 41 = .ok (.l2i, 1) := by decide +kernel
theorem dX2_deedByLot_42 : decode cX2_deedByLot 42 = .ok (.istore_n 3, 1) := by decide +kernel
theorem dX2_deedByLot_43 : decode cX2_deedByLot 43 = .ok (.lload_n 1, 1) := by decide +kernel
theorem dX2_deedByLot_44 : decode cX2_deedByLot 44 = .ok (.aload_n 0, 1) := by decide +kernel
theorem dX2_deedByLot_45 : decode cX2_deedByLot 45 = .ok (.getfield 19, 3) := by decide +kernel
theorem dX2_deedByLot_48 : decode cX2_deedByLot 48 = .ok (.i2l, 1) := by decide +kernel
theorem dX2_deedByLot_49 : decode cX2_deedByLot 49 = .ok (.lrem, 1) := by decide +kernel
theorem dX2_deedByLot_50 : decode cX2_deedByLot 50 = .ok (.l2i, 1) := by decide +kernel
theorem dX2_deedByLot_51 : decode cX2_deedByLot 51 = .ok (.istore 4, 2) := by decide +kernel
theorem dX2_deedByLot_53 : decode cX2_deedByLot 53 = .ok (.aload_n 0, 1) := by decide +kernel
theorem dX2_deedByLot_54 : decode cX2_deedByLot 54 = .ok (.iload_n 3, 1) := by decide +kernel
theorem dX2_deedByLot_55 : decode cX2_deedByLot 55 = .ok (.iload 4, 2) := by decide +kernel
theorem dX2_deedByLot_57 : decode cX2_deedByLot 57 = .ok (.invokevirtual 101, 3) := by decide +kernel
theorem dX2_deedByLot_60 : decode cX2_deedByLot 60 = .ok (.ifCond .eq 12, 3) := by decide +kernel
theorem dX2_deedByLot_63 : decode cX2_deedByLot 63 = .ok (.iload_n 3, 1) := by decide +kernel
theorem dX2_deedByLot_64 : decode cX2_deedByLot 64 = .ok (.iload 4, 2) := by decide +kernel
theorem dX2_deedByLot_66 : decode cX2_deedByLot 66 = .ok (.invokestatic 120, 3) := by decide +kernel
theorem dX2_deedByLot_69 : decode cX2_deedByLot 69 = .ok (.goto 4, 3) := by decide +kernel
theorem dX2_deedByLot_72 : decode cX2_deedByLot 72 = .ok (.iconst (-1), 1) := by decide +kernel
theorem dX2_deedByLot_73 : decode cX2_deedByLot 73 = .ok (.ireturn, 1) := by decide +kernel
set_option maxRecDepth 20000 in
theorem ggX2_record_X2_enact : GoodIn wsX2_record wsX2_enact := goodIn_r _ [7, 8, 9, 10, 6, 11, 12, 13, 14, 15, 16, 17, 18, 19, 20, 21, 22, 23, 24, 25, 26, 27, 28, 29, 30, 31, 32, 33, 34, 35, 36, 37, 38, 39, 40, 41, 42, 43, 44, 45, 46, 47, 48, 49, 50, 51, 52, 53, 54, 55, 56, 57, 58, 59, 60, 61, 62, 63, 64, 65, 66, 67, 68] (by decide +kernel) (by decide +kernel)
set_option maxRecDepth 20000 in
theorem gX2_record_X2_enact : GoodIn wsX2_record (wsV RX2 123 RX2 yX2_enact wsX2_enact) := goodIn_app (goodIn_of _ (by decide +kernel)) ggX2_record_X2_enact
theorem dX2_record_0 : decode cX2_record 0 = .ok (.aload_n 0, 1) := by decide +kernel
theorem dX2_record_1 : decode cX2_record 1 = .ok (.getfield 46, 3) := by decide +kernel
theorem dX2_record_4 : decode cX2_record 4 = .ok (.bipush 40, 2) := by decide +kernel
theorem dX2_record_6 : decode cX2_record 6 = .ok (.if_icmp .ge 28, 3) := by decide +kernel
theorem dX2_record_9 : decode cX2_record 9 = .ok (.aload_n 0, 1) := by decide +kernel
theorem dX2_record_10 : decode cX2_record 10 = .ok (.getfield 49, 3) := by decide +kernel
theorem dX2_record_13 : decode cX2_record 13 = .ok (.aload_n 0, 1) := by decide +kernel
theorem dX2_record_14 : decode cX2_record 14 = .ok (.getfield 46, 3) := by decide +kernel
theorem dX2_record_17 : decode cX2_record 17 = .ok (.iload_n 1, 1) := by decide +kernel
theorem dX2_record_18 : decode cX2_record 18 = .ok (.iastore, 1) := by decide +kernel
theorem dX2_record_19 : decode cX2_record 19 = .ok (.aload_n 0, 1) := by decide +kernel
theorem dX2_record_20 : decode cX2_record 20 = .ok (.dup, 1) := by decide +kernel
theorem dX2_record_21 : decode cX2_record 21 = .ok (.getfield 46, 3) := by decide +kernel
theorem dX2_record_24 : decode cX2_record 24 = .ok (.iconst 1, 1) := by decide +kernel
theorem dX2_record_25 : decode cX2_record 25 = .ok (.iadd, 1) := by decide +kernel
theorem dX2_record_26 : decode cX2_record 26 = .ok (.putfield 46, 3) := by decide +kernel
theorem dX2_record_29 : decode cX2_record 29 = .ok (.aload_n 0, 1) := by decide +kernel
theorem dX2_record_30 : decode cX2_record 30 = .ok (.iload_n 1, 1) := by decide +kernel
theorem dX2_record_31 : decode cX2_record 31 = .ok (.invokevirtual 123, 3) := by decide +kernel
theorem dX2_record_34 : decode cX2_record 34 = .ok (.return_, 1) := by decide +kernel
set_option maxRecDepth 20000 in
theorem ggX2_enact_X2_ease : GoodIn wsX2_enact wsX2_ease := goodIn_r _ [5, 6, 7, 8, 9, 10, 50, 51, 52, 53, 54, 55, 56, 57, 58, 59, 60, 61, 62] (by decide +kernel) (by decide +kernel)
set_option maxRecDepth 20000 in
theorem gX2_enact_X2_ease : GoodIn wsX2_enact (wsV RX2 104 RX2 yX2_ease wsX2_ease) := goodIn_app (goodIn_of _ (by decide +kernel)) ggX2_enact_X2_ease
set_option maxRecDepth 20000 in
theorem ggX2_enact_X2_hasPerson : GoodIn wsX2_enact wsX2_hasPerson := goodIn_r _ [14, 15, 50, 51, 52, 53, 54, 55, 56, 57, 58, 59, 60, 61, 62] (by decide +kernel) (by decide +kernel)
set_option maxRecDepth 20000 in
theorem gX2_enact_X2_hasPerson : GoodIn wsX2_enact (wsV RX2 127 RX2 yX2_hasPerson wsX2_hasPerson) := goodIn_app (goodIn_of _ (by decide +kernel)) ggX2_enact_X2_hasPerson
set_option maxRecDepth 20000 in
theorem ggX2_enact_X2_hasSaying : GoodIn wsX2_enact wsX2_hasSaying := goodIn_r _ [19, 20, 50, 51, 52, 53, 54, 55, 56, 57, 58, 59, 60, 61, 62] (by decide +kernel) (by decide +kernel)
set_option maxRecDepth 20000 in
theorem gX2_enact_X2_hasSaying : GoodIn wsX2_enact (wsV RX2 131 RX2 yX2_hasSaying wsX2_hasSaying) := goodIn_app (goodIn_of _ (by decide +kernel)) ggX2_enact_X2_hasSaying
set_option maxRecDepth 20000 in
theorem ggX2_enact_X2_utter : GoodIn wsX2_enact wsX2_utter := goodIn_r _ [24, 6, 25, 26, 27, 28, 29, 30, 31, 32, 4, 33, 34, 35, 36, 37, 38, 39, 40, 41, 42, 43, 44, 45, 46, 47, 48, 49, 7, 8, 9, 10, 50, 51, 52, 53, 54, 55, 56, 57, 58, 59, 60, 61, 62] (by decide +kernel) (by decide +kernel)
set_option maxRecDepth 20000 in
theorem gX2_enact_X2_utter : GoodIn wsX2_enact (wsV RX2 107 RX2 yX2_utter wsX2_utter) := goodIn_app (goodIn_of _ (by decide +kernel)) ggX2_enact_X2_utter
theorem dX2_enact_0 : decode cX2_enact 0 = .ok (.iload_n 1, 1) := by decide +kernel
theorem dX2_enact_1 : decode cX2_enact 1 = .ok (.bipush 6, 2) := by decide +kernel
theorem dX2_enact_3 : decode cX2_enact 3 = .ok (.idiv, 1) := by decide +kernel
theorem dX2_enact_4 : decode cX2_enact 4 = .ok (.istore_n 2, 1) := by decide +kernel
theorem dX2_enact_5 : decode cX2_enact 5 = .ok (.iload_n 1, 1) := by decide +kernel
theorem dX2_enact_6 : decode cX2_enact 6 = .ok (.bipush 6, 2) := by decide +kernel
theorem dX2_enact_8 : decode cX2_enact 8 = .ok (.irem, 1) := by decide +kernel
theorem dX2_enact_9 : decode cX2_enact 9 = .ok (.istore_n 3, 1) := by decide +kernel
theorem dX2_enact_10 : decode cX2_enact 10 = .ok (.iload_n 1, 1) := by decide +kernel
theorem dX2_enact_11 : decode cX2_enact 11 = .ok (.iconst (-1), 1) := by decide +kernel
theorem dX2_enact_12 : decode cX2_enact 12 = .ok (.if_icmp .ne 10, 3) := by decide +kernel
theorem dX2_enact_15 : decode cX2_enact 15 = .ok (.aload_n 0, 1) := by decide +kernel
theorem dX2_enact_16 : decode cX2_enact 16 = .ok (.invokevirtual 104, 3) := by decide +kernel
theorem dX2_enact_19 : decode cX2_enact 19 = .ok (.goto 25, 3) := by decide +kernel
theorem dX2_enact_22 : decode cX2_enact 22 = .ok (.aload_n 0, 1) := by decide +kernel
theorem dX2_enact_23 : decode cX2_enact 23 = .ok (.iload_n 2, 1) := by decide +kernel
theorem dX2_enact_24 : decode cX2_enact 24 = .ok (.invokevirtual 127, 3) := by decide +kernel
theorem dX2_enact_27 : decode cX2_enact 27 = .ok (.ifCond .eq 17, 3) := by decide +kernel
theorem dX2_enact_30 : decode cX2_enact 30 = .ok (.aload_n 0, 1) := by decide +kernel
theorem dX2_enact_31 : decode cX2_enact 31 = .ok (.iload_n 3, 1) := by decide +kernel
theorem dX2_enact_32 : decode cX2_enact 32 = .ok (.invokevirtual 131, 3) := by decide +kernel
theorem dX2_enact_35 : decode cX2_enact 35 = .ok (.ifCond .eq 9, 3) := by decide +kernel
theorem dX2_enact_38 : decode cX2_enact 38 = .ok (.aload_n 0, 1) := by decide +kernel
theorem dX2_enact_39 : decode cX2_enact 39 = .ok (.iload_n 2, 1) := by decide +kernel
theorem dX2_enact_40 : decode cX2_enact 40 = .ok (.iload_n 3, 1) := by decide +kernel
theorem dX2_enact_41 : decode cX2_enact 41 = .ok (.invokevirtual 107, 3) := by decide +kernel
theorem dX2_enact_44 : decode cX2_enact 44 = .ok (.return_, 1) := by decide +kernel
set_option maxRecDepth 20000 in
theorem ggX2_goBackTo_X2_startAnew : GoodIn wsX2_goBackTo wsX2_startAnew := goodIn_r _ [7, 8, 9, 10, 11, 2, 12, 13, 14, 15, 64, 65, 66, 67, 68, 69, 70, 71, 72, 73, 74, 75, 76] (by decide +kernel) (by decide +kernel)
set_option maxRecDepth 20000 in
theorem gX2_goBackTo_X2_startAnew : GoodIn wsX2_goBackTo (wsV RX2 58 RX2 yX2_startAnew wsX2_startAnew) := goodIn_app (goodIn_of _ (by decide +kernel)) ggX2_goBackTo_X2_startAnew
set_option maxRecDepth 20000 in
theorem ggX2_goBackTo_X2_enact : GoodIn wsX2_goBackTo wsX2_enact := goodIn_r _ [19, 20, 21, 22, 6, 23, 8, 24, 25, 26, 27, 28, 29, 30, 31, 32, 33, 34, 35, 36, 37, 38, 39, 40, 41, 9, 42, 11, 43, 10, 44, 45, 46, 47, 48, 49, 50, 51, 52, 53, 54, 55, 56, 57, 58, 59, 60, 61, 62, 63, 64, 65, 66, 67, 68, 69, 70, 71, 72, 73, 74, 75, 76] (by decide +kernel) (by decide +kernel)
set_option maxRecDepth 20000 in
theorem gX2_goBackTo_X2_enact : GoodIn wsX2_goBackTo (wsV RX2 123 RX2 yX2_enact wsX2_enact) := goodIn_app (goodIn_of _ (by decide +kernel)) ggX2_goBackTo_X2_enact
theorem dX2_goBackTo_0 : decode cX2_goBackTo 0 = .ok (.aload_n 0, 1) := by decide +kernel
