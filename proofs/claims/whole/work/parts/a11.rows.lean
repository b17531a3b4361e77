theorem dX8_noSayings_67 : decode cX8_noSayings 67 = .ok (.invokevirtual 91, 3) := by decide +kernel
theorem dX8_noSayings_70 : decode cX8_noSayings 70 = .ok (.ireturn, 1) := by decide +kernel
theorem dX8_noSayings_71 : decode cX8_noSayings 71 = .ok (.iinc 2 1, 3) := by decide +kernel
theorem dX8_noSayings_74 : decode cX8_noSayings 74 = .ok (.goto (-37), 3) := by decide +kernel
theorem dX8_noSayings_77 : decode cX8_noSayings 77 = .ok (.iconst 0, 1) := by decide +kernel
theorem dX8_noSayings_78 : decode cX8_noSayings 78 = .ok (.ireturn, 1) := by decide +kernel
theorem dX8_neverOf_0 : decode cX8_neverOf 0 = .ok (.bipush 7, 2) := by decide +kernel
theorem dX8_neverOf_2 : decode cX8_neverOf 2 = .ok (.istore_n 2, 1) := by decide +kernel
theorem dX8_neverOf_3 : decode cX8_neverOf 3 = .ok (.bipush 40, 2) := by decide +kernel
theorem dX8_neverOf_5 : decode cX8_neverOf 5 = .ok (.iload_n 1, 1) := by decide +kernel
theorem dX8_neverOf_6 : decode cX8_neverOf 6 = .ok (.imul, 1) := by decide +kernel
theorem dX8_neverOf_7 : decode cX8_neverOf 7 = .ok (.istore_n 3, 1) := by decide +kernel
theorem dX8_neverOf_8 : decode cX8_neverOf 8 = .ok (.iload_n 3, 1) := by decide +kernel
theorem dX8_neverOf_9 : decode cX8_neverOf 9 = .ok (.bipush 40, 2) := by decide +kernel
theorem dX8_neverOf_11 : decode cX8_neverOf 11 = .ok (.iload_n 1, 1) := by decide +kernel
theorem dX8_neverOf_12 : decode cX8_neverOf 12 = .ok (.imul, 1) := by decide +kernel
theorem dX8_neverOf_13 : decode cX8_neverOf 13 = .ok (.aload_n 0, 1) := by decide +kernel
theorem dX8_neverOf_14 : decode cX8_neverOf 14 = .ok (.getfield 25, 3) := by decide +kernel
theorem dX8_neverOf_17 : decode cX8_neverOf 17 = .ok (.iload_n 1, 1) := by decide +kernel
theorem dX8_neverOf_18 : decode cX8_neverOf 18 = .ok (.iaload, 1) := by decide +kernel
theorem dX8_neverOf_19 : decode cX8_neverOf 19 = .ok (.iadd, 1) := by decide +kernel
theorem dX8_neverOf_20 : decode cX8_neverOf 20 = .ok (.if_icmp .ge 25, 3) := by decide +kernel
theorem dX8_neverOf_23 : decode cX8_neverOf 23 = .ok (.iload_n 2, 1) := by decide +kernel
theorem dX8_neverOf_24 : decode cX8_neverOf 24 = .ok (.aload_n 0, 1) := by decide +kernel
theorem dX8_neverOf_25 : decode cX8_neverOf 25 = .ok (.getfield 22, 3) := by decide +kernel
theorem dX8_neverOf_28 : decode cX8_neverOf 28 = .ok (.aload_n 0, 1) := by decide +kernel
theorem dX8_neverOf_29 : decode cX8_neverOf 29 = .ok (.getfield 28, 3) := by decide +kernel
theorem dX8_neverOf_32 : decode cX8_neverOf 32 = .ok (.iload_n 3, 1) := by decide +kernel
theorem dX8_neverOf_33 : decode cX8_neverOf 33 = .ok (.iaload, 1) := by decide +kernel
theorem dX8_neverOf_34 : decode cX8_neverOf 34 = .ok (.iaload, 1) := by decide +kernel
theorem dX8_neverOf_35 : decode cX8_neverOf 35 = .ok (.iconst (-1), 1) := by decide +kernel
theorem dX8_neverOf_36 : decode cX8_neverOf 36 = .ok (.ixor, 1) := by decide +kernel
theorem dX8_neverOf_37 : decode cX8_neverOf 37 = .ok (.iand, 1) := by decide +kernel
theorem dX8_neverOf_38 : decode cX8_neverOf 38 = .ok (.istore_n 2, 1) := by decide +kernel
theorem dX8_neverOf_39 : decode cX8_neverOf 39 = .ok (.iinc 3 1, 3) := by decide +kernel
theorem dX8_neverOf_42 : decode cX8_neverOf 42 = .ok (.goto (-34), 3) := by decide +kernel
theorem dX8_neverOf_45 : decode cX8_neverOf 45 = .ok (.iload_n 2, 1) := by decide +kernel
theorem dX8_neverOf_46 : decode cX8_neverOf 46 = .ok (.ireturn, 1) := by decide +kernel
set_option maxRecDepth 20000 in
theorem ggX8_never_X8_isRow : GoodIn wsX8_never wsX8_isRow := goodIn_r _ [4, 5, 6, 7, 3, 8] (by decide +kernel) (by decide +kernel)
set_option maxRecDepth 20000 in
theorem gX8_never_X8_isRow : GoodIn wsX8_never (va_wsS RX8 87 yX8_isRow wsX8_isRow) := goodIn_app (goodIn_of _ (by decide +kernel)) ggX8_never_X8_isRow
set_option maxRecDepth 20000 in
theorem ggX8_never_X8_noSayings : GoodIn wsX8_never wsX8_noSayings := goodIn_r _ [12, 13, 14, 15, 16, 17, 3, 18, 19, 20, 21, 22, 23, 24, 25, 6, 7, 8, 31, 32, 33, 34, 35, 36, 37, 38, 39, 40, 41, 42, 43, 44, 45, 46, 47, 48, 49, 50, 51, 52, 53, 54, 55, 56, 57, 58, 59, 60, 61, 62, 63] (by decide +kernel) (by decide +kernel)
set_option maxRecDepth 20000 in
theorem gX8_never_X8_noSayings : GoodIn wsX8_never (wsV RX8 255 RX8 yX8_noSayings wsX8_noSayings) := goodIn_app (goodIn_of _ (by decide +kernel)) ggX8_never_X8_noSayings
set_option maxRecDepth 20000 in
theorem ggX8_never_X8_neverOf : GoodIn wsX8_never wsX8_neverOf := goodIn_r _ [29, 13, 30, 14, 31, 32, 33, 34, 35, 36, 37, 38, 39, 40, 41, 42, 43, 44, 45, 46, 47, 48, 49, 50, 51, 52, 53, 54, 55, 56, 57, 58, 59, 60, 61, 62, 63] (by decide +kernel) (by decide +kernel)
set_option maxRecDepth 20000 in
theorem gX8_never_X8_neverOf : GoodIn wsX8_never (wsV RX8 258 RX8 yX8_neverOf wsX8_neverOf) := goodIn_app (goodIn_of _ (by decide +kernel)) ggX8_never_X8_neverOf
theorem dX8_never_0 : decode cX8_never 0 = .ok (.iload_n 1, 1) := by decide +kernel
theorem dX8_never_1 : decode cX8_never 1 = .ok (.invokestatic 87, 3) := by decide +kernel
theorem dX8_never_4 : decode cX8_never 4 = .ok (.ifCond .ne 5, 3) := by decide +kernel
theorem dX8_never_7 : decode cX8_never 7 = .ok (.iconst (-1), 1) := by decide +kernel
theorem dX8_never_8 : decode cX8_never 8 = .ok (.ireturn, 1) := by decide +kernel
theorem dX8_never_9 : decode cX8_never 9 = .ok (.aload_n 0, 1) := by decide +kernel
theorem dX8_never_10 : decode cX8_never 10 = .ok (.iload_n 1, 1) := by decide +kernel
theorem dX8_never_11 : decode cX8_never 11 = .ok (.invokevirtual 255, 3) := by decide +kernel
theorem dX8_never_14 : decode cX8_never 14 = .ok (.istore_n 2, 1) := by decide +kernel
theorem dX8_never_15 : decode cX8_never 15 = .ok (.iload_n 2, 1) := by decide +kernel
theorem dX8_never_16 : decode cX8_never 16 = .ok (.ifCond .eq 7, 3) := by decide +kernel
theorem dX8_never_19 : decode cX8_never 19 = .ok (.iload_n 2, 1) := by decide +kernel
theorem dX8_never_20 : decode cX8_never 20 = .ok (.goto 8, 3) := by decide +kernel
theorem dX8_never_23 : decode cX8_never 23 = .ok (.aload_n 0, 1) := by decide +kernel
theorem dX8_never_24 : decode cX8_never 24 = .ok (.iload_n 1, 1) := by decide +kernel
theorem dX8_never_25 : decode cX8_never 25 = .ok (.invokevirtual 258, 3) := by decide +kernel
theorem dX8_never_28 : decode cX8_never 28 = .ok (.ireturn, 1) := by decide +kernel
set_option maxRecDepth 20000 in
theorem ggX8_next_X8_isRow : GoodIn wsX8_next wsX8_isRow := goodIn_r _ [7, 8, 9, 10, 6, 11] (by decide +kernel) (by decide +kernel)
set_option maxRecDepth 20000 in
theorem gX8_next_X8_isRow : GoodIn wsX8_next (va_wsS RX8 87 yX8_isRow wsX8_isRow) := goodIn_app (goodIn_of _ (by decide +kernel)) ggX8_next_X8_isRow
set_option maxRecDepth 20000 in
theorem ggX8_next_X8_noSayings : GoodIn wsX8_next wsX8_noSayings := goodIn_r _ [15, 16, 17, 18, 19, 20, 6, 21, 22, 23, 24, 25, 26, 27, 1, 9, 10, 11, 48, 49, 50, 51, 52, 53, 54, 55, 56, 57, 58, 59, 60, 61, 62, 63, 64, 65, 66, 67, 68, 69, 70, 71, 72, 73, 74, 75, 76, 77, 78, 79, 80] (by decide +kernel) (by decide +kernel)
set_option maxRecDepth 20000 in
theorem gX8_next_X8_noSayings : GoodIn wsX8_next (wsV RX8 255 RX8 yX8_noSayings wsX8_noSayings) := goodIn_app (goodIn_of _ (by decide +kernel)) ggX8_next_X8_noSayings
set_option maxRecDepth 20000 in
theorem ggX8_next_X8_neverOf : GoodIn wsX8_next wsX8_neverOf := goodIn_r _ [31, 16, 2, 17, 48, 49, 50, 51, 52, 53, 54, 55, 56, 57, 58, 59, 60, 61, 62, 63, 64, 65, 66, 67, 68, 69, 70, 71, 72, 73, 74, 75, 76, 77, 78, 79, 80] (by decide +kernel) (by decide +kernel)
set_option maxRecDepth 20000 in
theorem gX8_next_X8_neverOf : GoodIn wsX8_next (wsV RX8 258 RX8 yX8_neverOf wsX8_neverOf) := goodIn_app (goodIn_of _ (by decide +kernel)) ggX8_next_X8_neverOf
set_option maxRecDepth 20000 in
theorem ggX8_next_X8_bits : GoodIn wsX8_next wsX8_bits := goodIn_r _ [34] (by decide +kernel) (by decide +kernel)
set_option maxRecDepth 20000 in
theorem gX8_next_X8_bits : GoodIn wsX8_next (va_wsS RX8 173 yX8_bits wsX8_bits) := goodIn_app (goodIn_of _ (by decide +kernel)) ggX8_next_X8_bits
set_option maxRecDepth 20000 in
theorem ggX8_next_X8_nearOf : GoodIn wsX8_next wsX8_nearOf := goodIn_r _ [38, 39, 40, 41, 42, 43, 6, 44, 32, 33, 34, 45, 46, 47, 48, 49, 50, 51, 52, 53, 54, 55, 56, 57, 58, 59, 60, 61, 62, 63, 64, 65, 66, 67, 68, 69, 70, 71, 72, 73, 74, 75, 76, 77, 78, 79, 80] (by decide +kernel) (by decide +kernel)
set_option maxRecDepth 20000 in
theorem gX8_next_X8_nearOf : GoodIn wsX8_next (wsV RX8 183 RX8 yX8_nearOf wsX8_nearOf) := goodIn_app (goodIn_of _ (by decide +kernel)) ggX8_next_X8_nearOf
theorem dX8_next_0 : decode cX8_next 0 = .ok (.iload_n 1, 1) := by decide +kernel
theorem dX8_next_1 : decode cX8_next 1 = .ok (.invokestatic 87, 3) := by decide +kernel
theorem dX8_next_4 : decode cX8_next 4 = .ok (.ifCond .ne 5, 3) := by decide +kernel
theorem dX8_next_7 : decode cX8_next 7 = .ok (.iconst (-1), 1) := by decide +kernel
theorem dX8_next_8 : decode cX8_next 8 = .ok (.ireturn, 1) := by decide +kernel
theorem dX8_next_9 : decode cX8_next 9 = .ok (.aload_n 0, 1) := by decide +kernel
theorem dX8_next_10 : decode cX8_next 10 = .ok (.getfield 167, 3) := by decide +kernel
theorem dX8_next_13 : decode cX8_next 13 = .ok (.ifCond .ne 6, 3) := by decide +kernel
theorem dX8_next_16 : decode cX8_next 16 = .ok (.bipush (-4), 2) := by decide +kernel
theorem dX8_next_18 : decode cX8_next 18 = .ok (.ireturn, 1) := by decide +kernel
theorem dX8_next_19 : decode cX8_next 19 = .ok (.aload_n 0, 1) := by decide +kernel
theorem dX8_next_20 : decode cX8_next 20 = .ok (.iload_n 1, 1) := by decide +kernel
theorem dX8_next_21 : decode cX8_next 21 = .ok (.invokevirtual 255, 3) := by decide +kernel
theorem dX8_next_24 : decode cX8_next 24 = .ok (.istore_n 2, 1) := by decide +kernel
theorem dX8_next_25 : decode cX8_next 25 = .ok (.iload_n 2, 1) := by decide +kernel
theorem dX8_next_26 : decode cX8_next 26 = .ok (.ifCond .eq 5, 3) := by decide +kernel
theorem dX8_next_29 : decode cX8_next 29 = .ok (.iload_n 2, 1) := by decide +kernel
theorem dX8_next_30 : decode cX8_next 30 = .ok (.ireturn, 1) := by decide +kernel
theorem dX8_next_31 : decode cX8_next 31 = .ok (.iconst 0, 1) := by decide +kernel
theorem dX8_next_32 : decode cX8_next 32 = .ok (.istore_n 3, 1) := by decide +kernel
theorem dX8_next_33 : decode cX8_next 33 = .ok (.iconst (-1), 1) := by decide +kernel
theorem dX8_next_34 : decode cX8_next 34 = .ok (.istore 4, 2) := by decide +kernel
theorem dX8_next_36 : decode cX8_next 36 = .ok (.iconst 0, 1) := by decide +kernel
theorem dX8_next_37 : decode cX8_next 37 = .ok (.istore 5, 2) := by decide +kernel
theorem dX8_next_39 : decode cX8_next 39 = .ok (.iload 5, 2) := by decide +kernel
theorem dX8_next_41 : decode cX8_next 41 = .ok (.aload_n 0, 1) := by decide +kernel
theorem dX8_next_42 : decode cX8_next 42 = .ok (.getfield 167, 3) := by decide +kernel
theorem dX8_next_45 : decode cX8_next 45 = .ok (.if_icmp .ge 90, 3) := by decide +kernel
theorem dX8_next_48 : decode cX8_next 48 = .ok (.aload_n 0, 1) := by decide +kernel
theorem dX8_next_49 : decode cX8_next 49 = .ok (.getfield 22, 3) := by decide +kernel
theorem dX8_next_52 : decode cX8_next 52 = .ok (.iload 5, 2) := by decide +kernel
theorem dX8_next_54 : decode cX8_next 54 = .ok (.iaload, 1) := by decide +kernel
theorem dX8_next_55 : decode cX8_next 55 = .ok (.aload_n 0, 1) := by decide +kernel
theorem dX8_next_56 : decode cX8_next 56 = .ok (.iload_n 1, 1) := by decide +kernel
theorem dX8_next_57 : decode cX8_next 57 = .ok (.invokevirtual 258, 3) := by decide +kernel
theorem dX8_next_60 : decode cX8_next 60 = .ok (.iand, 1) := by decide +kernel
theorem dX8_next_61 : decode cX8_next 61 = .ok (.invokestatic 173, 3) := by decide +kernel
theorem dX8_next_64 : decode cX8_next 64 = .ok (.istore 6, 2) := by decide +kernel
theorem dX8_next_66 : decode cX8_next 66 = .ok (.iload 6, 2) := by decide +kernel
theorem dX8_next_68 : decode cX8_next 68 = .ok (.iload 4, 2) := by decide +kernel
theorem dX8_next_70 : decode cX8_next 70 = .ok (.if_icmp .gt 26, 3) := by decide +kernel
theorem dX8_next_73 : decode cX8_next 73 = .ok (.iload 6, 2) := by decide +kernel
theorem dX8_next_75 : decode cX8_next 75 = .ok (.iload 4, 2) := by decide +kernel
theorem dX8_next_77 : decode cX8_next 77 = .ok (.if_icmp .ne 23, 3) := by decide +kernel
theorem dX8_next_80 : decode cX8_next 80 = .ok (.aload_n 0, 1) := by decide +kernel
theorem dX8_next_81 : decode cX8_next 81 = .ok (.iconst 0, 1) := by decide +kernel
theorem dX8_next_82 : decode cX8_next 82 = .ok (.iload 5, 2) := by decide +kernel
theorem dX8_next_84 : decode cX8_next 84 = .ok (.invokevirtual 183, 3) := by decide +kernel
theorem dX8_next_87 : decode cX8_next 87 = .ok (.aload_n 0, 1) := by decide +kernel
theorem dX8_next_88 : decode cX8_next 88 = .ok (.iconst 0, 1) := by decide +kernel
theorem dX8_next_89 : decode cX8_next 89 = .ok (.iload_n 3, 1) := by decide +kernel
theorem dX8_next_90 : decode cX8_next 90 = .ok (.invokevirtual 183, 3) := by decide +kernel
theorem dX8_next_93 : decode cX8_next 93 = .ok (.if_icmp .ge 7, 3) := by decide +kernel
theorem dX8_next_96 : decode cX8_next 96 = .ok (.iconst 1, 1) := by decide +kernel
theorem dX8_next_97 : decode cX8_next 97 = .ok (.goto 4, 3) := by decide +kernel
theorem dX8_next_100 : decode cX8_next 100 = .ok (.iconst 0, 1) := by decide +kernel
theorem dX8_next_101 : decode cX8_next 101 = .ok (.istore 7, 2) := by decide +kernel
theorem dX8_next_103 : decode cX8_next 103 = .ok (.iload 7, 2) := by decide +kernel
theorem dX8_next_105 : decode cX8_next 105 = .ok (.ifCond .eq 8, 3) := by decide +kernel
theorem dX8_next_108 : decode cX8_next 108 = .ok (.iload 5, 2) := by decide +kernel
theorem dX8_next_110 : decode cX8_next 110 = .ok (.goto 4, 3) := by decide +kernel
theorem dX8_next_113 : decode cX8_next 113 = .ok (.iload_n 3, 1) := by decide +kernel
theorem dX8_next_114 : decode cX8_next 114 = .ok (.istore_n 3, 1) := by decide +kernel
theorem dX8_next_115 : decode cX8_next 115 = .ok (.iload 7, 2) := by decide +kernel
theorem dX8_next_117 : decode cX8_next 117 = .ok (.ifCond .eq 8, 3) := by decide +kernel
theorem dX8_next_120 : decode cX8_next 120 = .ok (.iload 6, 2) := by decide +kernel
theorem dX8_next_122 : decode cX8_next 122 = .ok (.goto 5, 3) := by decide +kernel
theorem dX8_next_125 : decode cX8_next 125 = .ok (.iload 4, 2) := by decide +kernel
theorem dX8_next_127 : decode cX8_next 127 = .ok (.istore 4, 2) := by decide +kernel
theorem dX8_next_129 : decode cX8_next 129 = .ok (.iinc 5 1, 3) := by decide +kernel
theorem dX8_next_132 : decode cX8_next 132 = .ok (.goto (-93), 3) := by decide +kernel
theorem dX8_next_135 : decode cX8_next 135 = .ok (.aload_n 0, 1) := by decide +kernel
theorem dX8_next_136 : decode cX8_next 136 = .ok (.iload 4, 2) := by decide +kernel
theorem dX8_next_138 : decode cX8_next 138 = .ok (.putfield 76, 3) := by decide +kernel
theorem dX8_next_141 : decode cX8_next 141 = .ok (.iload_n 3, 1) := by decide +kernel
theorem dX8_next_142 : decode cX8_next 142 = .ok (.ireturn, 1) := by decide +kernel
set_option maxRecDepth 20000 in
theorem ggX8_kinds_X8_isSaying : GoodIn wsX8_kinds wsX8_isSaying := goodIn_r _ [9, 10, 11, 12, 8, 13, 17, 18, 19, 20, 21, 22, 23, 24, 25, 26, 27, 28, 29, 30, 31, 32, 33, 34, 35, 36, 37, 38, 39, 40, 41, 42, 43, 44, 45, 46, 47, 48, 49] (by decide +kernel) (by decide +kernel)
set_option maxRecDepth 20000 in
theorem gX8_kinds_X8_isSaying : GoodIn wsX8_kinds (wsV RX8 186 RX8 yX8_isSaying wsX8_isSaying) := goodIn_app (goodIn_of _ (by decide +kernel)) ggX8_kinds_X8_isSaying
set_option maxRecDepth 20000 in
theorem ggX8_kinds_X8_in : GoodIn wsX8_kinds wsX8_in := goodIn_r _ [13] (by decide +kernel) (by decide +kernel)
set_option maxRecDepth 20000 in
theorem gX8_kinds_X8_in : GoodIn wsX8_kinds (va_wsS RX8 81 yX8_in wsX8_in) := goodIn_app (goodIn_of _ (by decide +kernel)) ggX8_kinds_X8_in
set_option maxRecDepth 20000 in
theorem ggX8_kinds_X8_nearBy : GoodIn wsX8_kinds wsX8_nearBy := goodIn_r _ [16] (by decide +kernel) (by decide +kernel)
set_option maxRecDepth 20000 in
theorem gX8_kinds_X8_nearBy : GoodIn wsX8_kinds (va_wsS RX8 179 yX8_nearBy wsX8_nearBy) := goodIn_app (goodIn_of _ (by decide +kernel)) ggX8_kinds_X8_nearBy
theorem dX8_kinds_0 : decode cX8_kinds 0 = .ok (.aload_n 0, 1) := by decide +kernel
theorem dX8_kinds_1 : decode cX8_kinds 1 = .ok (.iload_n 1, 1) := by decide +kernel
theorem dX8_kinds_2 : decode cX8_kinds 2 = .ok (.invokevirtual 186, 3) := by decide +kernel
theorem dX8_kinds_5 : decode cX8_kinds 5 = .ok (.ifCond .eq 40, 3) := by decide +kernel
theorem dX8_kinds_8 : decode cX8_kinds 8 = .ok (.iload_n 2, 1) := by decide +kernel
theorem dX8_kinds_9 : decode cX8_kinds 9 = .ok (.i2l, 1) := by decide +kernel
theorem dX8_kinds_10 : decode cX8_kinds 10 = .ok (.lconst 0, 1) := by decide +kernel
theorem dX8_kinds_11 : decode cX8_kinds 11 = .ok (.ldc2_w 261, 3) := by decide +kernel
theorem dX8_kinds_14 : decode cX8_kinds 14 = .ok (.invokestatic 81, 3) := by decide +kernel
theorem dX8_kinds_17 : decode cX8_kinds 17 = .ok (.ifCond .eq 28, 3) := by decide +kernel
theorem dX8_kinds_20 : decode cX8_kinds 20 = .ok (.iload_n 3, 1) := by decide +kernel
theorem dX8_kinds_21 : decode cX8_kinds 21 = .ok (.i2l, 1) := by decide +kernel
theorem dX8_kinds_22 : decode cX8_kinds 22 = .ok (.lconst 0, 1) := by decide +kernel
theorem dX8_kinds_23 : decode cX8_kinds 23 = .ok (.ldc2_w 263, 3) := by decide +kernel
theorem dX8_kinds_26 : decode cX8_kinds 26 = .ok (.invokestatic 81, 3) := by decide +kernel
theorem dX8_kinds_29 : decode cX8_kinds 29 = .ok (.ifCond .eq 16, 3) := by decide +kernel
theorem dX8_kinds_32 : decode cX8_kinds 32 = .ok (.iload 4, 2) := by decide +kernel
theorem dX8_kinds_34 : decode cX8_kinds 34 = .ok (.i2l, 1) := by decide +kernel
theorem dX8_kinds_35 : decode cX8_kinds 35 = .ok (.lconst 0, 1) := by decide +kernel
theorem dX8_kinds_36 : decode cX8_kinds 36 = .ok (.ldc2_w 85, 3) := by decide +kernel
theorem dX8_kinds_39 : decode cX8_kinds 39 = .ok (.invokestatic 81, 3) := by decide +kernel
theorem dX8_kinds_42 : decode cX8_kinds 42 = .ok (.ifCond .ne 5, 3) := by decide +kernel
theorem dX8_kinds_45 : decode cX8_kinds 45 = .ok (.iconst (-1), 1) := by decide +kernel
theorem dX8_kinds_46 : decode cX8_kinds 46 = .ok (.ireturn, 1) := by decide +kernel
theorem dX8_kinds_47 : decode cX8_kinds 47 = .ok (.iconst 0, 1) := by decide +kernel
theorem dX8_kinds_48 : decode cX8_kinds 48 = .ok (.istore 5, 2) := by decide +kernel
theorem dX8_kinds_50 : decode cX8_kinds 50 = .ok (.iconst 0, 1) := by decide +kernel
theorem dX8_kinds_51 : decode cX8_kinds 51 = .ok (.istore 6, 2) := by decide +kernel
theorem dX8_kinds_53 : decode cX8_kinds 53 = .ok (.iload 6, 2) := by decide +kernel
theorem dX8_kinds_55 : decode cX8_kinds 55 = .ok (.bipush 6, 2) := by decide +kernel
theorem dX8_kinds_57 : decode cX8_kinds 57 = .ok (.if_icmp .ge 40, 3) := by decide +kernel
theorem dX8_kinds_60 : decode cX8_kinds 60 = .ok (.iload 5, 2) := by decide +kernel
theorem dX8_kinds_62 : decode cX8_kinds 62 = .ok (.iload 6, 2) := by decide +kernel
theorem dX8_kinds_64 : decode cX8_kinds 64 = .ok (.aload_n 0, 1) := by decide +kernel
theorem dX8_kinds_65 : decode cX8_kinds 65 = .ok (.getfield 19, 3) := by decide +kernel
theorem dX8_kinds_68 : decode cX8_kinds 68 = .ok (.iload_n 1, 1) := by decide +kernel
theorem dX8_kinds_69 : decode cX8_kinds 69 = .ok (.iaload, 1) := by decide +kernel
theorem dX8_kinds_70 : decode cX8_kinds 70 = .ok (.iload_n 3, 1) := by decide +kernel
theorem dX8_kinds_71 : decode cX8_kinds 71 = .ok (.iload 4, 2) := by decide +kernel
theorem dX8_kinds_73 : decode cX8_kinds 73 = .ok (.invokestatic 179, 3) := by decide +kernel
theorem dX8_kinds_76 : decode cX8_kinds 76 = .ok (.iload_n 2, 1) := by decide +kernel
theorem dX8_kinds_77 : decode cX8_kinds 77 = .ok (.if_icmp .ne 10, 3) := by decide +kernel
theorem dX8_kinds_80 : decode cX8_kinds 80 = .ok (.iconst 1, 1) := by decide +kernel
theorem dX8_kinds_81 : decode cX8_kinds 81 = .ok (.iload 6, 2) := by decide +kernel
theorem dX8_kinds_83 : decode cX8_kinds 83 = .ok (.ishl, 1) := by decide +kernel
theorem dX8_kinds_84 : decode cX8_kinds 84 = .ok (.goto 4, 3) := by decide +kernel
theorem dX8_kinds_87 : decode cX8_kinds 87 = .ok (.iconst 0, 1) := by decide +kernel
theorem dX8_kinds_88 : decode cX8_kinds 88 = .ok (.ior, 1) := by decide +kernel
theorem dX8_kinds_89 : decode cX8_kinds 89 = .ok (.istore 5, 2) := by decide +kernel
theorem dX8_kinds_91 : decode cX8_kinds 91 = .ok (.iinc 6 1, 3) := by decide +kernel
theorem dX8_kinds_94 : decode cX8_kinds 94 = .ok (.goto (-41), 3) := by decide +kernel
theorem dX8_kinds_97 : decode cX8_kinds 97 = .ok (.iload 5, 2) := by decide +kernel
theorem dX8_kinds_99 : decode cX8_kinds 99 = .ok (.ireturn, 1) := by decide +kernel
theorem dX8_beginTurn_0 : decode cX8_beginTurn 0 = .ok (.aload_n 0, 1) := by decide +kernel
theorem dX8_beginTurn_1 : decode cX8_beginTurn 1 = .ok (.getfield 53, 3) := by decide +kernel
theorem dX8_beginTurn_4 : decode cX8_beginTurn 4 = .ok (.iload_n 1, 1) := by decide +kernel
theorem dX8_beginTurn_5 : decode cX8_beginTurn 5 = .ok (.iconst 0, 1) := by decide +kernel
theorem dX8_beginTurn_6 : decode cX8_beginTurn 6 = .ok (.iastore, 1) := by decide +kernel
theorem dX8_beginTurn_7 : decode cX8_beginTurn 7 = .ok (.aload_n 0, 1) := by decide +kernel
theorem dX8_beginTurn_8 : decode cX8_beginTurn 8 = .ok (.getfield 56, 3) := by decide +kernel
theorem dX8_beginTurn_11 : decode cX8_beginTurn 11 = .ok (.iload_n 1, 1) := by decide +kernel
theorem dX8_beginTurn_12 : decode cX8_beginTurn 12 = .ok (.iload_n 2, 1) := by decide +kernel
theorem dX8_beginTurn_13 : decode cX8_beginTurn 13 = .ok (.iastore, 1) := by decide +kernel
theorem dX8_beginTurn_14 : decode cX8_beginTurn 14 = .ok (.aload_n 0, 1) := by decide +kernel
theorem dX8_beginTurn_15 : decode cX8_beginTurn 15 = .ok (.getfield 59, 3) := by decide +kernel
theorem dX8_beginTurn_18 : decode cX8_beginTurn 18 = .ok (.iload_n 1, 1) := by decide +kernel
theorem dX8_beginTurn_19 : decode cX8_beginTurn 19 = .ok (.iload_n 3, 1) := by decide +kernel
theorem dX8_beginTurn_20 : decode cX8_beginTurn 20 = .ok (.iastore, 1) := by decide +kernel
theorem dX8_beginTurn_21 : decode cX8_beginTurn 21 = .ok (.aload_n 0, 1) := by decide +kernel
theorem dX8_beginTurn_22 : decode cX8_beginTurn 22 = .ok (.getfield 62, 3) := by decide +kernel
theorem dX8_beginTurn_25 : decode cX8_beginTurn 25 = .ok (.iload_n 1, 1) := by decide +kernel
theorem dX8_beginTurn_26 : decode cX8_beginTurn 26 = .ok (.iload 4, 2) := by decide +kernel
theorem dX8_beginTurn_28 : decode cX8_beginTurn 28 = .ok (.iastore, 1) := by decide +kernel
theorem dX8_beginTurn_29 : decode cX8_beginTurn 29 = .ok (.aload_n 0, 1) := by decide +kernel
theorem dX8_beginTurn_30 : decode cX8_beginTurn 30 = .ok (.getfield 65, 3) := by decide +kernel
theorem dX8_beginTurn_33 : decode cX8_beginTurn 33 = .ok (.iload_n 1, 1) := by decide +kernel
theorem dX8_beginTurn_34 : decode cX8_beginTurn 34 = .ok (.iload_n 1, 1) := by decide +kernel
theorem dX8_beginTurn_35 : decode cX8_beginTurn 35 = .ok (.aload_n 0, 1) := by decide +kernel
theorem dX8_beginTurn_36 : decode cX8_beginTurn 36 = .ok (.getfield 167, 3) := by decide +kernel
theorem dX8_beginTurn_39 : decode cX8_beginTurn 39 = .ok (.if_icmp .ne 7, 3) := by decide +kernel
theorem dX8_beginTurn_42 : decode cX8_beginTurn 42 = .ok (.iconst 1, 1) := by decide +kernel
theorem dX8_beginTurn_43 : decode cX8_beginTurn 43 = .ok (.goto 14, 3) := by decide +kernel
theorem dX8_beginTurn_46 : decode cX8_beginTurn 46 = .ok (.iload_n 1, 1) := by decide +kernel
theorem dX8_beginTurn_47 : decode cX8_beginTurn 47 = .ok (.iconst 2, 1) := by decide +kernel
theorem dX8_beginTurn_48 : decode cX8_beginTurn 48 = .ok (.irem, 1) := by decide +kernel
theorem dX8_beginTurn_49 : decode cX8_beginTurn 49 = .ok (.ifCond .ne 7, 3) := by decide +kernel
theorem dX8_beginTurn_52 : decode cX8_beginTurn 52 = .ok (.iconst (-1), 1) := by decide +kernel
theorem dX8_beginTurn_53 : decode cX8_beginTurn 53 = .ok (.goto 4, 3) := by decide +kernel
theorem dX8_beginTurn_56 : decode cX8_beginTurn 56 = .ok (.iconst 3, 1) := by decide +kernel
theorem dX8_beginTurn_57 : decode cX8_beginTurn 57 = .ok (.iastore, 1) := by decide +kernel
theorem dX8_beginTurn_58 : decode cX8_beginTurn 58 = .ok (.return_, 1) := by decide +kernel
theorem dX8_isBetter_0 : decode cX8_isBetter 0 = .ok (.iload_n 1, 1) := by decide +kernel
theorem dX8_isBetter_1 : decode cX8_isBetter 1 = .ok (.iconst 2, 1) := by decide +kernel
theorem dX8_isBetter_2 : decode cX8_isBetter 2 = .ok (.irem, 1) := by decide +kernel
theorem dX8_isBetter_3 : decode cX8_isBetter 3 = .ok (.ifCond .ne 21, 3) := by decide +kernel
theorem dX8_isBetter_6 : decode cX8_isBetter 6 = .ok (.iload_n 2, 1) := by decide +kernel
theorem dX8_isBetter_7 : decode cX8_isBetter 7 = .ok (.aload_n 0, 1) := by decide +kernel
theorem dX8_isBetter_8 : decode cX8_isBetter 8 = .ok (.getfield 65, 3) := by decide +kernel
theorem dX8_isBetter_11 : decode cX8_isBetter 11 = .ok (.iload_n 1, 1) := by decide +kernel
theorem dX8_isBetter_12 : decode cX8_isBetter 12 = .ok (.iaload, 1) := by decide +kernel
theorem dX8_isBetter_13 : decode cX8_isBetter 13 = .ok (.if_icmp .le 7, 3) := by decide +kernel
theorem dX8_isBetter_16 : decode cX8_isBetter 16 = .ok (.iconst 1, 1) := by decide +kernel
theorem dX8_isBetter_17 : decode cX8_isBetter 17 = .ok (.goto 22, 3) := by decide +kernel
theorem dX8_isBetter_20 : decode cX8_isBetter 20 = .ok (.iconst 0, 1) := by decide +kernel
theorem dX8_isBetter_21 : decode cX8_isBetter 21 = .ok (.goto 18, 3) := by decide +kernel
theorem dX8_isBetter_24 : decode cX8_isBetter 24 = .ok (.iload_n 2, 1) := by decide +kernel
theorem dX8_isBetter_25 : decode cX8_isBetter 25 = .ok (.aload_n 0, 1) := by decide +kernel
theorem dX8_isBetter_26 : decode cX8_isBetter 26 = .ok (.getfield 65, 3) := by decide +kernel
theorem dX8_isBetter_29 : decode cX8_isBetter 29 = .ok (.iload_n 1, 1) := by decide +kernel
theorem dX8_isBetter_30 : decode cX8_isBetter 30 = .ok (.iaload, 1) := by decide +kernel
theorem dX8_isBetter_31 : decode cX8_isBetter 31 = .ok (.if_icmp .ge 7, 3) := by decide +kernel
theorem dX8_isBetter_34 : decode cX8_isBetter 34 = .ok (.iconst 1, 1) := by decide +kernel
theorem dX8_isBetter_35 : decode cX8_isBetter 35 = .ok (.goto 4, 3) := by decide +kernel
theorem dX8_isBetter_38 : decode cX8_isBetter 38 = .ok (.iconst 0, 1) := by decide +kernel
theorem dX8_isBetter_39 : decode cX8_isBetter 39 = .ok (.ireturn, 1) := by decide +kernel
set_option maxRecDepth 20000 in
theorem ggX8_take_X8_isBetter : GoodIn wsX8_take wsX8_isBetter := goodIn_r _ [7, 1, 8, 9, 10, 11, 12, 13, 14, 15, 16, 17, 18, 19, 20, 21, 22, 23, 24, 25, 26, 27, 28, 29, 30, 31, 32, 33, 34, 35, 36, 37, 38, 39, 40] (by decide +kernel) (by decide +kernel)
set_option maxRecDepth 20000 in
theorem gX8_take_X8_isBetter : GoodIn wsX8_take (wsV RX8 265 RX8 yX8_isBetter wsX8_isBetter) := goodIn_app (goodIn_of _ (by decide +kernel)) ggX8_take_X8_isBetter
theorem dX8_take_0 : decode cX8_take 0 = .ok (.aload_n 0, 1) := by decide +kernel
theorem dX8_take_1 : decode cX8_take 1 = .ok (.iload_n 1, 1) := by decide +kernel
theorem dX8_take_2 : decode cX8_take 2 = .ok (.iload_n 3, 1) := by decide +kernel
theorem dX8_take_3 : decode cX8_take 3 = .ok (.invokevirtual 265, 3) := by decide +kernel
theorem dX8_take_6 : decode cX8_take 6 = .ok (.ifCond .eq 26, 3) := by decide +kernel
theorem dX8_take_9 : decode cX8_take 9 = .ok (.aload_n 0, 1) := by decide +kernel
theorem dX8_take_10 : decode cX8_take 10 = .ok (.getfield 65, 3) := by decide +kernel
theorem dX8_take_13 : decode cX8_take 13 = .ok (.iload_n 1, 1) := by decide +kernel
theorem dX8_take_14 : decode cX8_take 14 = .ok (.iload_n 3, 1) := by decide +kernel
theorem dX8_take_15 : decode cX8_take 15 = .ok (.iastore, 1) := by decide +kernel
theorem dX8_take_16 : decode cX8_take 16 = .ok (.aload_n 0, 1) := by decide +kernel
theorem dX8_take_17 : decode cX8_take 17 = .ok (.iload_n 1, 1) := by decide +kernel
theorem dX8_take_18 : decode cX8_take 18 = .ok (.ifCond .ne 7, 3) := by decide +kernel
theorem dX8_take_21 : decode cX8_take 21 = .ok (.iload_n 2, 1) := by decide +kernel
theorem dX8_take_22 : decode cX8_take 22 = .ok (.goto 7, 3) := by decide +kernel
theorem dX8_take_25 : decode cX8_take 25 = .ok (.aload_n 0, 1) := by decide +kernel
theorem dX8_take_26 : decode cX8_take 26 = .ok (.getfield 268, 3) := by decide +kernel
theorem dX8_take_29 : decode cX8_take 29 = .ok (.putfield 268, 3) := by decide +kernel
theorem dX8_take_32 : decode cX8_take 32 = .ok (.return_, 1) := by decide +kernel
set_option maxRecDepth 20000 in
theorem ggX8_play_X8_beginTurn : GoodIn wsX8_play wsX8_beginTurn := goodIn_r _ [16, 2, 6, 9, 5, 4, 3, 38, 39, 40, 41, 42, 43, 44, 45, 46, 47, 48, 49, 50, 51, 52, 53, 54, 55, 56, 57, 58, 59, 60, 61, 62, 63, 64, 65, 66, 67, 68, 69, 70] (by decide +kernel) (by decide +kernel)
set_option maxRecDepth 20000 in
theorem gX8_play_X8_beginTurn : GoodIn wsX8_play (wsV RX8 271 RX8 yX8_beginTurn wsX8_beginTurn) := goodIn_app (goodIn_of _ (by decide +kernel)) ggX8_play_X8_beginTurn
set_option maxRecDepth 20000 in
theorem ggX8_play_X8_take : GoodIn wsX8_play wsX8_take := goodIn_r _ [20, 4, 21, 22, 23, 24, 15, 25, 38, 39, 40, 41, 42, 43, 44, 45, 46, 47, 48, 49, 50, 51, 52, 53, 54, 55, 56, 57, 58, 59, 60, 61, 62, 63, 64, 65, 66, 67, 68, 69, 70] (by decide +kernel) (by decide +kernel)
set_option maxRecDepth 20000 in
theorem gX8_play_X8_take : GoodIn wsX8_play (wsV RX8 275 RX8 yX8_take wsX8_take) := goodIn_app (goodIn_of _ (by decide +kernel)) ggX8_play_X8_take
set_option maxRecDepth 20000 in
theorem ggX8_play_X8_has : GoodIn wsX8_play wsX8_has := goodIn_r _ [28] (by decide +kernel) (by decide +kernel)
set_option maxRecDepth 20000 in
theorem gX8_play_X8_has : GoodIn wsX8_play (va_wsS RX8 148 yX8_has wsX8_has) := goodIn_app (goodIn_of _ (by decide +kernel)) ggX8_play_X8_has
set_option maxRecDepth 20000 in
theorem ggX8_play_X8_openOf : GoodIn wsX8_play wsX8_openOf := goodIn_r _ [31, 32, 33, 15, 34] (by decide +kernel) (by decide +kernel)
set_option maxRecDepth 20000 in
theorem gX8_play_X8_openOf : GoodIn wsX8_play (va_wsS RX8 176 yX8_openOf wsX8_openOf) := goodIn_app (goodIn_of _ (by decide +kernel)) ggX8_play_X8_openOf
set_option maxRecDepth 20000 in
theorem ggX8_play_X8_nearBy : GoodIn wsX8_play wsX8_nearBy := goodIn_r _ [37] (by decide +kernel) (by decide +kernel)
set_option maxRecDepth 20000 in
theorem gX8_play_X8_nearBy : GoodIn wsX8_play (va_wsS RX8 179 yX8_nearBy wsX8_nearBy) := goodIn_app (goodIn_of _ (by decide +kernel)) ggX8_play_X8_nearBy
theorem dX8_play_0 : decode cX8_play 0 = .ok (.iconst 0, 1) := by decide +kernel
theorem dX8_play_1 : decode cX8_play 1 = .ok (.istore_n 3, 1) := by decide +kernel
theorem dX8_play_2 : decode cX8_play 2 = .ok (.aload_n 0, 1) := by decide +kernel
theorem dX8_play_3 : decode cX8_play 3 = .ok (.iconst 0, 1) := by decide +kernel
theorem dX8_play_4 : decode cX8_play 4 = .ok (.aload_n 0, 1) := by decide +kernel
theorem dX8_play_5 : decode cX8_play 5 = .ok (.getfield 7, 3) := by decide +kernel
theorem dX8_play_8 : decode cX8_play 8 = .ok (.iconst 2, 1) := by decide +kernel
theorem dX8_play_9 : decode cX8_play 9 = .ok (.iaload, 1) := by decide +kernel
theorem dX8_play_10 : decode cX8_play 10 = .ok (.aload_n 0, 1) := by decide +kernel
theorem dX8_play_11 : decode cX8_play 11 = .ok (.getfield 7, 3) := by decide +kernel
theorem dX8_play_14 : decode cX8_play 14 = .ok (.iconst 3, 1) := by decide +kernel
theorem dX8_play_15 : decode cX8_play 15 = .ok (.iaload, 1) := by decide +kernel
theorem dX8_play_16 : decode cX8_play 16 = .ok (.iconst 0, 1) := by decide +kernel
theorem dX8_play_17 : decode cX8_play 17 = .ok (.invokevirtual 271, 3) := by decide +kernel
theorem dX8_play_20 : decode cX8_play 20 = .ok (.iload_n 3, 1) := by decide +kernel
theorem dX8_play_21 : decode cX8_play 21 = .ok (.ifCond .lt 209, 3) := by decide +kernel
theorem dX8_play_24 : decode cX8_play 24 = .ok (.aload_n 0, 1) := by decide +kernel
theorem dX8_play_25 : decode cX8_play 25 = .ok (.getfield 53, 3) := by decide +kernel
theorem dX8_play_28 : decode cX8_play 28 = .ok (.iload_n 3, 1) := by decide +kernel
theorem dX8_play_29 : decode cX8_play 29 = .ok (.iaload, 1) := by decide +kernel
theorem dX8_play_30 : decode cX8_play 30 = .ok (.istore 4, 2) := by decide +kernel
theorem dX8_play_32 : decode cX8_play 32 = .ok (.iload 4, 2) := by decide +kernel
theorem dX8_play_34 : decode cX8_play 34 = .ok (.aload_n 0, 1) := by decide +kernel
theorem dX8_play_35 : decode cX8_play 35 = .ok (.getfield 167, 3) := by decide +kernel
theorem dX8_play_38 : decode cX8_play 38 = .ok (.if_icmp .eq 11, 3) := by decide +kernel
theorem dX8_play_41 : decode cX8_play 41 = .ok (.iload_n 3, 1) := by decide +kernel
theorem dX8_play_42 : decode cX8_play 42 = .ok (.aload_n 0, 1) := by decide +kernel
theorem dX8_play_43 : decode cX8_play 43 = .ok (.getfield 167, 3) := by decide +kernel
theorem dX8_play_46 : decode cX8_play 46 = .ok (.if_icmp .ne 34, 3) := by decide +kernel
theorem dX8_play_49 : decode cX8_play 49 = .ok (.iinc 3 (-1), 3) := by decide +kernel
theorem dX8_play_52 : decode cX8_play 52 = .ok (.iload_n 3, 1) := by decide +kernel
theorem dX8_play_53 : decode cX8_play 53 = .ok (.ifCond .lt 174, 3) := by decide +kernel
theorem dX8_play_56 : decode cX8_play 56 = .ok (.aload_n 0, 1) := by decide +kernel
theorem dX8_play_57 : decode cX8_play 57 = .ok (.iload_n 3, 1) := by decide +kernel
theorem dX8_play_58 : decode cX8_play 58 = .ok (.aload_n 0, 1) := by decide +kernel
theorem dX8_play_59 : decode cX8_play 59 = .ok (.getfield 53, 3) := by decide +kernel
theorem dX8_play_62 : decode cX8_play 62 = .ok (.iload_n 3, 1) := by decide +kernel
theorem dX8_play_63 : decode cX8_play 63 = .ok (.iaload, 1) := by decide +kernel
theorem dX8_play_64 : decode cX8_play 64 = .ok (.iconst 1, 1) := by decide +kernel
theorem dX8_play_65 : decode cX8_play 65 = .ok (.isub, 1) := by decide +kernel
theorem dX8_play_66 : decode cX8_play 66 = .ok (.aload_n 0, 1) := by decide +kernel
theorem dX8_play_67 : decode cX8_play 67 = .ok (.getfield 65, 3) := by decide +kernel
theorem dX8_play_70 : decode cX8_play 70 = .ok (.iload_n 3, 1) := by decide +kernel
theorem dX8_play_71 : decode cX8_play 71 = .ok (.iconst 1, 1) := by decide +kernel
theorem dX8_play_72 : decode cX8_play 72 = .ok (.iadd, 1) := by decide +kernel
theorem dX8_play_73 : decode cX8_play 73 = .ok (.iaload, 1) := by decide +kernel
theorem dX8_play_74 : decode cX8_play 74 = .ok (.invokevirtual 275, 3) := by decide +kernel
theorem dX8_play_77 : decode cX8_play 77 = .ok (.goto 150, 3) := by decide +kernel
theorem dX8_play_80 : decode cX8_play 80 = .ok (.aload_n 0, 1) := by decide +kernel
theorem dX8_play_81 : decode cX8_play 81 = .ok (.getfield 53, 3) := by decide +kernel
theorem dX8_play_84 : decode cX8_play 84 = .ok (.iload_n 3, 1) := by decide +kernel
theorem dX8_play_85 : decode cX8_play 85 = .ok (.dup2, 1) := by decide +kernel
theorem dX8_play_86 : decode cX8_play 86 = .ok (.iaload, 1) := by decide +kernel
theorem dX8_play_87 : decode cX8_play 87 = .ok (.iconst 1, 1) := by decide +kernel
theorem dX8_play_88 : decode cX8_play 88 = .ok (.iadd, 1) := by decide +kernel
theorem dX8_play_89 : decode cX8_play 89 = .ok (.iastore, 1) := by decide +kernel
theorem dX8_play_90 : decode cX8_play 90 = .ok (.aload_n 0, 1) := by decide +kernel
theorem dX8_play_91 : decode cX8_play 91 = .ok (.getfield 62, 3) := by decide +kernel
theorem dX8_play_94 : decode cX8_play 94 = .ok (.iload_n 3, 1) := by decide +kernel
theorem dX8_play_95 : decode cX8_play 95 = .ok (.iaload, 1) := by decide +kernel
theorem dX8_play_96 : decode cX8_play 96 = .ok (.iload 4, 2) := by decide +kernel
theorem dX8_play_98 : decode cX8_play 98 = .ok (.invokestatic 148, 3) := by decide +kernel
theorem dX8_play_101 : decode cX8_play 101 = .ok (.ifCond .ne 126, 3) := by decide +kernel
theorem dX8_play_104 : decode cX8_play 104 = .ok (.aload_n 0, 1) := by decide +kernel
theorem dX8_play_105 : decode cX8_play 105 = .ok (.getfield 56, 3) := by decide +kernel
theorem dX8_play_108 : decode cX8_play 108 = .ok (.iload_n 3, 1) := by decide +kernel
theorem dX8_play_109 : decode cX8_play 109 = .ok (.iaload, 1) := by decide +kernel
theorem dX8_play_110 : decode cX8_play 110 = .ok (.aload_n 0, 1) := by decide +kernel
theorem dX8_play_111 : decode cX8_play 111 = .ok (.getfield 16, 3) := by decide +kernel
theorem dX8_play_114 : decode cX8_play 114 = .ok (.iload 4, 2) := by decide +kernel
theorem dX8_play_116 : decode cX8_play 116 = .ok (.iaload, 1) := by decide +kernel
theorem dX8_play_117 : decode cX8_play 117 = .ok (.aload_n 0, 1) := by decide +kernel
theorem dX8_play_118 : decode cX8_play 118 = .ok (.getfield 19, 3) := by decide +kernel
theorem dX8_play_121 : decode cX8_play 121 = .ok (.iload 4, 2) := by decide +kernel
theorem dX8_play_123 : decode cX8_play 123 = .ok (.iaload, 1) := by decide +kernel
theorem dX8_play_124 : decode cX8_play 124 = .ok (.aload_n 0, 1) := by decide +kernel
theorem dX8_play_125 : decode cX8_play 125 = .ok (.getfield 7, 3) := by decide +kernel
theorem dX8_play_128 : decode cX8_play 128 = .ok (.iconst 5, 1) := by decide +kernel
theorem dX8_play_129 : decode cX8_play 129 = .ok (.iload 4, 2) := by decide +kernel
theorem dX8_play_131 : decode cX8_play 131 = .ok (.iadd, 1) := by decide +kernel
theorem dX8_play_132 : decode cX8_play 132 = .ok (.iaload, 1) := by decide +kernel
theorem dX8_play_133 : decode cX8_play 133 = .ok (.aload_n 0, 1) := by decide +kernel
theorem dX8_play_134 : decode cX8_play 134 = .ok (.getfield 59, 3) := by decide +kernel
theorem dX8_play_137 : decode cX8_play 137 = .ok (.iload_n 3, 1) := by decide +kernel
theorem dX8_play_138 : decode cX8_play 138 = .ok (.iaload, 1) := by decide +kernel
theorem dX8_play_139 : decode cX8_play 139 = .ok (.invokestatic 176, 3) := by decide +kernel
theorem dX8_play_142 : decode cX8_play 142 = .ok (.invokestatic 179, 3) := by decide +kernel
theorem dX8_play_145 : decode cX8_play 145 = .ok (.iadd, 1) := by decide +kernel
theorem dX8_play_146 : decode cX8_play 146 = .ok (.istore 5, 2) := by decide +kernel
theorem dX8_play_148 : decode cX8_play 148 = .ok (.iload 5, 2) := by decide +kernel
theorem dX8_play_150 : decode cX8_play 150 = .ok (.aload_n 0, 1) := by decide +kernel
theorem dX8_play_151 : decode cX8_play 151 = .ok (.getfield 13, 3) := by decide +kernel
theorem dX8_play_154 : decode cX8_play 154 = .ok (.iload_n 3, 1) := by decide +kernel
theorem dX8_play_155 : decode cX8_play 155 = .ok (.iconst 2, 1) := by decide +kernel
theorem dX8_play_156 : decode cX8_play 156 = .ok (.irem, 1) := by decide +kernel
theorem dX8_play_157 : decode cX8_play 157 = .ok (.ifCond .ne 7, 3) := by decide +kernel
theorem dX8_play_160 : decode cX8_play 160 = .ok (.iload_n 1, 1) := by decide +kernel
theorem dX8_play_161 : decode cX8_play 161 = .ok (.goto 4, 3) := by decide +kernel
theorem dX8_play_164 : decode cX8_play 164 = .ok (.iload_n 2, 1) := by decide +kernel
theorem dX8_play_165 : decode cX8_play 165 = .ok (.iaload, 1) := by decide +kernel
theorem dX8_play_166 : decode cX8_play 166 = .ok (.if_icmp .le 24, 3) := by decide +kernel
theorem dX8_play_169 : decode cX8_play 169 = .ok (.aload_n 0, 1) := by decide +kernel
theorem dX8_play_170 : decode cX8_play 170 = .ok (.iload_n 3, 1) := by decide +kernel
theorem dX8_play_171 : decode cX8_play 171 = .ok (.iload 4, 2) := by decide +kernel
theorem dX8_play_173 : decode cX8_play 173 = .ok (.iload_n 3, 1) := by decide +kernel
theorem dX8_play_174 : decode cX8_play 174 = .ok (.iconst 2, 1) := by decide +kernel
theorem dX8_play_175 : decode cX8_play 175 = .ok (.irem, 1) := by decide +kernel
theorem dX8_play_176 : decode cX8_play 176 = .ok (.ifCond .ne 7, 3) := by decide +kernel
theorem dX8_play_179 : decode cX8_play 179 = .ok (.iconst 0, 1) := by decide +kernel
theorem dX8_play_180 : decode cX8_play 180 = .ok (.goto 4, 3) := by decide +kernel
theorem dX8_play_183 : decode cX8_play 183 = .ok (.iconst 2, 1) := by decide +kernel
theorem dX8_play_184 : decode cX8_play 184 = .ok (.invokevirtual 275, 3) := by decide +kernel
theorem dX8_play_187 : decode cX8_play 187 = .ok (.goto 40, 3) := by decide +kernel
theorem dX8_play_190 : decode cX8_play 190 = .ok (.aload_n 0, 1) := by decide +kernel
theorem dX8_play_191 : decode cX8_play 191 = .ok (.iload_n 3, 1) := by decide +kernel
theorem dX8_play_192 : decode cX8_play 192 = .ok (.iconst 1, 1) := by decide +kernel
theorem dX8_play_193 : decode cX8_play 193 = .ok (.iadd, 1) := by decide +kernel
theorem dX8_play_194 : decode cX8_play 194 = .ok (.iload 5, 2) := by decide +kernel
theorem dX8_play_196 : decode cX8_play 196 = .ok (.aload_n 0, 1) := by decide +kernel
theorem dX8_play_197 : decode cX8_play 197 = .ok (.getfield 59, 3) := by decide +kernel
theorem dX8_play_200 : decode cX8_play 200 = .ok (.iload_n 3, 1) := by decide +kernel
theorem dX8_play_201 : decode cX8_play 201 = .ok (.iaload, 1) := by decide +kernel
theorem dX8_play_202 : decode cX8_play 202 = .ok (.aload_n 0, 1) := by decide +kernel
theorem dX8_play_203 : decode cX8_play 203 = .ok (.getfield 22, 3) := by decide +kernel
theorem dX8_play_206 : decode cX8_play 206 = .ok (.iload 4, 2) := by decide +kernel
theorem dX8_play_208 : decode cX8_play 208 = .ok (.iaload, 1) := by decide +kernel
theorem dX8_play_209 : decode cX8_play 209 = .ok (.ior, 1) := by decide +kernel
theorem dX8_play_210 : decode cX8_play 210 = .ok (.aload_n 0, 1) := by decide +kernel
theorem dX8_play_211 : decode cX8_play 211 = .ok (.getfield 62, 3) := by decide +kernel
theorem dX8_play_214 : decode cX8_play 214 = .ok (.iload_n 3, 1) := by decide +kernel
theorem dX8_play_215 : decode cX8_play 215 = .ok (.iaload, 1) := by decide +kernel
theorem dX8_play_216 : decode cX8_play 216 = .ok (.iconst 1, 1) := by decide +kernel
theorem dX8_play_217 : decode cX8_play 217 = .ok (.iload 4, 2) := by decide +kernel
theorem dX8_play_219 : decode cX8_play 219 = .ok (.ishl, 1) := by decide +kernel
theorem dX8_play_220 : decode cX8_play 220 = .ok (.ior, 1) := by decide +kernel
theorem dX8_play_221 : decode cX8_play 221 = .ok (.invokevirtual 271, 3) := by decide +kernel
theorem dX8_play_224 : decode cX8_play 224 = .ok (.iinc 3 1, 3) := by decide +kernel
theorem dX8_play_227 : decode cX8_play 227 = .ok (.goto (-207), 3) := by decide +kernel
theorem dX8_play_230 : decode cX8_play 230 = .ok (.aload_n 0, 1) := by decide +kernel
theorem dX8_play_231 : decode cX8_play 231 = .ok (.getfield 65, 3) := by decide +kernel
theorem dX8_play_234 : decode cX8_play 234 = .ok (.iconst 0, 1) := by decide +kernel
theorem dX8_play_235 : decode cX8_play 235 = .ok (.iaload, 1) := by decide +kernel
theorem dX8_play_236 : decode cX8_play 236 = .ok (.ireturn, 1) := by decide +kernel
set_option maxRecDepth 20000 in
theorem ggX8_noDuel_X8_isOne : GoodIn wsX8_noDuel wsX8_isOne := goodIn_r _ [6, 7, 8, 9, 5, 10, 16, 17, 18, 19, 20, 21, 22, 23, 24, 25, 26, 27, 28, 29, 30, 31, 32, 33, 34, 35, 36, 37, 38, 39, 40, 41, 42, 43, 44, 45, 46, 47, 48] (by decide +kernel) (by decide +kernel)
set_option maxRecDepth 20000 in
theorem gX8_noDuel_X8_isOne : GoodIn wsX8_noDuel (wsV RX8 200 RX8 yX8_isOne wsX8_isOne) := goodIn_app (goodIn_of _ (by decide +kernel)) ggX8_noDuel_X8_isOne
set_option maxRecDepth 20000 in
theorem ggX8_noDuel_X8_isOver : GoodIn wsX8_noDuel wsX8_isOver := goodIn_r _ [14, 15, 16, 17, 18, 19, 20, 21, 22, 23, 24, 25, 26, 27, 28, 29, 30, 31, 32, 33, 34, 35, 36, 37, 38, 39, 40, 41, 42, 43, 44, 45, 46, 47, 48] (by decide +kernel) (by decide +kernel)
set_option maxRecDepth 20000 in
theorem gX8_noDuel_X8_isOver : GoodIn wsX8_noDuel (wsV RX8 203 RX8 yX8_isOver wsX8_isOver) := goodIn_app (goodIn_of _ (by decide +kernel)) ggX8_noDuel_X8_isOver
theorem dX8_noDuel_0 : decode cX8_noDuel 0 = .ok (.aload_n 0, 1) := by decide +kernel
theorem dX8_noDuel_1 : decode cX8_noDuel 1 = .ok (.iload_n 1, 1) := by decide +kernel
theorem dX8_noDuel_2 : decode cX8_noDuel 2 = .ok (.invokevirtual 200, 3) := by decide +kernel
theorem dX8_noDuel_5 : decode cX8_noDuel 5 = .ok (.ifCond .eq 16, 3) := by decide +kernel
theorem dX8_noDuel_8 : decode cX8_noDuel 8 = .ok (.aload_n 0, 1) := by decide +kernel
theorem dX8_noDuel_9 : decode cX8_noDuel 9 = .ok (.iload_n 2, 1) := by decide +kernel
theorem dX8_noDuel_10 : decode cX8_noDuel 10 = .ok (.invokevirtual 200, 3) := by decide +kernel
theorem dX8_noDuel_13 : decode cX8_noDuel 13 = .ok (.ifCond .eq 8, 3) := by decide +kernel
theorem dX8_noDuel_16 : decode cX8_noDuel 16 = .ok (.iload_n 1, 1) := by decide +kernel
theorem dX8_noDuel_17 : decode cX8_noDuel 17 = .ok (.iload_n 2, 1) := by decide +kernel
theorem dX8_noDuel_18 : decode cX8_noDuel 18 = .ok (.if_icmp .ne 7, 3) := by decide +kernel
theorem dX8_noDuel_21 : decode cX8_noDuel 21 = .ok (.iconst (-1), 1) := by decide +kernel
theorem dX8_noDuel_22 : decode cX8_noDuel 22 = .ok (.goto 23, 3) := by decide +kernel
theorem dX8_noDuel_25 : decode cX8_noDuel 25 = .ok (.aload_n 0, 1) := by decide +kernel
theorem dX8_noDuel_26 : decode cX8_noDuel 26 = .ok (.invokevirtual 203, 3) := by decide +kernel
theorem dX8_noDuel_29 : decode cX8_noDuel 29 = .ok (.ifCond .ne 10, 3) := by decide +kernel
theorem dX8_noDuel_32 : decode cX8_noDuel 32 = .ok (.aload_n 0, 1) := by decide +kernel
theorem dX8_noDuel_33 : decode cX8_noDuel 33 = .ok (.getfield 167, 3) := by decide +kernel
theorem dX8_noDuel_36 : decode cX8_noDuel 36 = .ok (.ifCond .ne 8, 3) := by decide +kernel
theorem dX8_noDuel_39 : decode cX8_noDuel 39 = .ok (.bipush (-4), 2) := by decide +kernel
theorem dX8_noDuel_41 : decode cX8_noDuel 41 = .ok (.goto 4, 3) := by decide +kernel
theorem dX8_noDuel_44 : decode cX8_noDuel 44 = .ok (.iconst 0, 1) := by decide +kernel
theorem dX8_noDuel_45 : decode cX8_noDuel 45 = .ok (.ireturn, 1) := by decide +kernel
set_option maxRecDepth 20000 in
theorem ggX8_duel_X8_noDuel : GoodIn wsX8_duel wsX8_noDuel := goodIn_r _ [5, 6, 7, 8, 9, 4, 10, 11, 12, 13, 14, 15, 16, 17, 18, 19, 58, 59, 60, 61, 62, 63, 64, 65, 66, 67, 68, 69, 70, 71, 72, 73, 74, 75, 76, 77, 78, 79, 80, 81, 82, 83, 84, 85, 86, 87, 88, 89, 90] (by decide +kernel) (by decide +kernel)
set_option maxRecDepth 20000 in
theorem gX8_duel_X8_noDuel : GoodIn wsX8_duel (wsV RX8 278 RX8 yX8_noDuel wsX8_noDuel) := goodIn_app (goodIn_of _ (by decide +kernel)) ggX8_duel_X8_noDuel
set_option maxRecDepth 20000 in
theorem ggX8_duel_X8_play : GoodIn wsX8_duel wsX8_play := goodIn_r _ [23, 19, 24, 6, 25, 26, 27, 28, 29, 30, 31, 32, 33, 34, 35, 4, 36, 37, 38, 39, 40, 41, 42, 43, 44, 45, 46, 47, 48, 49, 50, 51, 52, 53, 54, 55, 56, 57, 58, 59, 60, 61, 62, 63, 64, 65, 66, 67, 68, 69, 70, 71, 72, 73, 74, 75, 76, 77, 78, 79, 80, 81, 82, 83, 84, 85, 86, 87, 88, 89, 90] (by decide +kernel) (by decide +kernel)
set_option maxRecDepth 20000 in
theorem gX8_duel_X8_play : GoodIn wsX8_duel (wsV RX8 281 RX8 yX8_play wsX8_play) := goodIn_app (goodIn_of _ (by decide +kernel)) ggX8_duel_X8_play
theorem dX8_duel_0 : decode cX8_duel 0 = .ok (.aload_n 0, 1) := by decide +kernel
theorem dX8_duel_1 : decode cX8_duel 1 = .ok (.iload_n 1, 1) := by decide +kernel
theorem dX8_duel_2 : decode cX8_duel 2 = .ok (.iload_n 2, 1) := by decide +kernel
theorem dX8_duel_3 : decode cX8_duel 3 = .ok (.invokevirtual 278, 3) := by decide +kernel
theorem dX8_duel_6 : decode cX8_duel 6 = .ok (.istore_n 3, 1) := by decide +kernel
theorem dX8_duel_7 : decode cX8_duel 7 = .ok (.iload_n 3, 1) := by decide +kernel
theorem dX8_duel_8 : decode cX8_duel 8 = .ok (.ifCond .eq 5, 3) := by decide +kernel
theorem dX8_duel_11 : decode cX8_duel 11 = .ok (.iload_n 3, 1) := by decide +kernel
theorem dX8_duel_12 : decode cX8_duel 12 = .ok (.ireturn, 1) := by decide +kernel
theorem dX8_duel_13 : decode cX8_duel 13 = .ok (.aload_n 0, 1) := by decide +kernel
theorem dX8_duel_14 : decode cX8_duel 14 = .ok (.iload_n 1, 1) := by decide +kernel
theorem dX8_duel_15 : decode cX8_duel 15 = .ok (.iload_n 2, 1) := by decide +kernel
theorem dX8_duel_16 : decode cX8_duel 16 = .ok (.invokevirtual 281, 3) := by decide +kernel
theorem dX8_duel_19 : decode cX8_duel 19 = .ok (.istore 4, 2) := by decide +kernel
theorem dX8_duel_21 : decode cX8_duel 21 = .ok (.iload 4, 2) := by decide +kernel
theorem dX8_duel_23 : decode cX8_duel 23 = .ok (.iconst 1, 1) := by decide +kernel
theorem dX8_duel_24 : decode cX8_duel 24 = .ok (.if_icmp .ne 8, 3) := by decide +kernel
theorem dX8_duel_27 : decode cX8_duel 27 = .ok (.bipush (-9), 2) := by decide +kernel
theorem dX8_duel_29 : decode cX8_duel 29 = .ok (.goto 13, 3) := by decide +kernel
theorem dX8_duel_32 : decode cX8_duel 32 = .ok (.iload 4, 2) := by decide +kernel
theorem dX8_duel_34 : decode cX8_duel 34 = .ok (.ifCond .ne 7, 3) := by decide +kernel
theorem dX8_duel_37 : decode cX8_duel 37 = .ok (.iconst 0, 1) := by decide +kernel
theorem dX8_duel_38 : decode cX8_duel 38 = .ok (.goto 4, 3) := by decide +kernel
theorem dX8_duel_41 : decode cX8_duel 41 = .ok (.iconst 1, 1) := by decide +kernel
theorem dX8_duel_42 : decode cX8_duel 42 = .ok (.ireturn, 1) := by decide +kernel
set_option maxRecDepth 20000 in
theorem ggX8_opens_X8_noDuel : GoodIn wsX8_opens wsX8_noDuel := goodIn_r _ [6, 7, 8, 9, 10, 5, 11, 12, 13, 14, 15, 16, 17, 18, 19, 20, 58, 59, 60, 61, 62, 63, 64, 65, 66, 67, 68, 69, 70, 71, 72, 73, 74, 75, 76, 77, 78, 79, 80, 81, 82, 83, 84, 85, 86, 87, 88, 89, 90] (by decide +kernel) (by decide +kernel)
set_option maxRecDepth 20000 in
theorem gX8_opens_X8_noDuel : GoodIn wsX8_opens (wsV RX8 278 RX8 yX8_noDuel wsX8_noDuel) := goodIn_app (goodIn_of _ (by decide +kernel)) ggX8_opens_X8_noDuel
set_option maxRecDepth 20000 in
theorem ggX8_opens_X8_play : GoodIn wsX8_opens wsX8_play := goodIn_r _ [24, 20, 25, 7, 26, 27, 28, 29, 30, 31, 32, 33, 34, 35, 36, 5, 37, 38, 39, 40, 41, 1, 42, 43, 44, 45, 46, 47, 48, 49, 50, 51, 52, 53, 54, 55, 56, 57, 58, 59, 60, 61, 62, 63, 64, 65, 66, 67, 68, 69, 70, 71, 72, 73, 74, 75, 76, 77, 78, 79, 80, 81, 82, 83, 84, 85, 86, 87, 88, 89, 90] (by decide +kernel) (by decide +kernel)
set_option maxRecDepth 20000 in
theorem gX8_opens_X8_play : GoodIn wsX8_opens (wsV RX8 281 RX8 yX8_play wsX8_play) := goodIn_app (goodIn_of _ (by decide +kernel)) ggX8_opens_X8_play
theorem dX8_opens_0 : decode cX8_opens 0 = .ok (.aload_n 0, 1) := by decide +kernel
theorem dX8_opens_1 : decode cX8_opens 1 = .ok (.iload_n 1, 1) := by decide +kernel
theorem dX8_opens_2 : decode cX8_opens 2 = .ok (.iload_n 2, 1) := by decide +kernel
theorem dX8_opens_3 : decode cX8_opens 3 = .ok (.invokevirtual 278, 3) := by decide +kernel
theorem dX8_opens_6 : decode cX8_opens 6 = .ok (.istore_n 3, 1) := by decide +kernel
theorem dX8_opens_7 : decode cX8_opens 7 = .ok (.iload_n 3, 1) := by decide +kernel
theorem dX8_opens_8 : decode cX8_opens 8 = .ok (.ifCond .eq 5, 3) := by decide +kernel
theorem dX8_opens_11 : decode cX8_opens 11 = .ok (.iload_n 3, 1) := by decide +kernel
theorem dX8_opens_12 : decode cX8_opens 12 = .ok (.ireturn, 1) := by decide +kernel
theorem dX8_opens_13 : decode cX8_opens 13 = .ok (.aload_n 0, 1) := by decide +kernel
theorem dX8_opens_14 : decode cX8_opens 14 = .ok (.iload_n 1, 1) := by decide +kernel
theorem dX8_opens_15 : decode cX8_opens 15 = .ok (.iload_n 2, 1) := by decide +kernel
theorem dX8_opens_16 : decode cX8_opens 16 = .ok (.invokevirtual 281, 3) := by decide +kernel
theorem dX8_opens_19 : decode cX8_opens 19 = .ok (.pop, 1) := by decide +kernel
theorem dX8_opens_20 : decode cX8_opens 20 = .ok (.aload_n 0, 1) := by decide +kernel
theorem dX8_opens_21 : decode cX8_opens 21 = .ok (.getfield 268, 3) := by decide +kernel
theorem dX8_opens_24 : decode cX8_opens 24 = .ok (.ireturn, 1) := by decide +kernel
theorem dX8_tellParts_0 : decode cX8_tellParts 0 = .ok (.lload_n 1, 1) := by decide +kernel
theorem dX8_tellParts_1 : decode cX8_tellParts 1 = .ok (.lstore 5, 2) := by decide +kernel
theorem dX8_tellParts_3 : decode cX8_tellParts 3 = .ok (.lload_n 3, 1) := by decide +kernel
theorem dX8_tellParts_4 : decode cX8_tellParts 4 = .ok (.lstore 7, 2) := by decide +kernel
theorem dX8_tellParts_6 : decode cX8_tellParts 6 = .ok (.lload 7, 2) := by decide +kernel
theorem dX8_tellParts_8 : decode cX8_tellParts 8 = .ok (.lconst 0, 1) := by decide +kernel
theorem dX8_tellParts_9 : decode cX8_tellParts 9 = .ok (.lcmp, 1) := by decide +kernel
theorem dX8_tellParts_10 : decode cX8_tellParts 10 = .ok (.ifCond .eq 21, 3) := by decide +kernel
theorem dX8_tellParts_13 : decode cX8_tellParts 13 = .ok (.lload 5, 2) := by decide +kernel
theorem dX8_tellParts_15 : decode cX8_tellParts 15 = .ok (.lload 7, 2) := by decide +kernel
theorem dX8_tellParts_17 : decode cX8_tellParts 17 = .ok (.lrem, 1) := by decide +kernel
theorem dX8_tellParts_18 : decode cX8_tellParts 18 = .ok (.lstore 9, 2) := by decide +kernel
theorem dX8_tellParts_20 : decode cX8_tellParts 20 = .ok (.lload 7, 2) := by decide +kernel
theorem dX8_tellParts_22 : decode cX8_tellParts 22 = .ok (.lstore 5, 2) := by decide +kernel
theorem dX8_tellParts_24 : decode cX8_tellParts 24 = .ok (.lload 9, 2) := by decide +kernel
theorem dX8_tellParts_26 : decode cX8_tellParts 26 = .ok (.lstore 7, 2) := by decide +kernel
theorem dX8_tellParts_28 : decode cX8_tellParts 28 = .ok (.goto (-22), 3) := by decide +kernel
theorem dX8_tellParts_31 : decode cX8_tellParts 31 = .ok (.aload_n 0, 1) := by decide +kernel
theorem dX8_tellParts_32 : decode cX8_tellParts 32 = .ok (.lload_n 1, 1) := by decide +kernel
theorem dX8_tellParts_33 : decode cX8_tellParts 33 = .ok (.lload 5, 2) := by decide +kernel
theorem dX8_tellParts_35 : decode cX8_tellParts 35 = .ok (.ldiv, 1) := by decide +kernel
theorem dX8_tellParts_36 : decode cX8_tellParts 36 = .ok (.putfield 240, 3) := by decide +kernel
theorem dX8_tellParts_39 : decode cX8_tellParts 39 = .ok (.aload_n 0, 1) := by decide +kernel
theorem dX8_tellParts_40 : decode cX8_tellParts 40 = .ok (.lload_n 3, 1) := by decide +kernel
theorem dX8_tellParts_41 : decode cX8_tellParts 41 = .ok (.lload 5, 2) := by decide +kernel
theorem dX8_tellParts_43 : decode cX8_tellParts 43 = .ok (.ldiv, 1) := by decide +kernel
theorem dX8_tellParts_44 : decode cX8_tellParts 44 = .ok (.putfield 37, 3) := by decide +kernel
theorem dX8_tellParts_47 : decode cX8_tellParts 47 = .ok (.iconst 1, 1) := by decide +kernel
theorem dX8_tellParts_48 : decode cX8_tellParts 48 = .ok (.ireturn, 1) := by decide +kernel
theorem dX8_layWays_0 : decode cX8_layWays 0 = .ok (.iconst 0, 1) := by decide +kernel
theorem dX8_layWays_1 : decode cX8_layWays 1 = .ok (.istore_n 3, 1) := by decide +kernel
theorem dX8_layWays_2 : decode cX8_layWays 2 = .ok (.iload_n 3, 1) := by decide +kernel
theorem dX8_layWays_3 : decode cX8_layWays 3 = .ok (.bipush 13, 2) := by decide +kernel
theorem dX8_layWays_5 : decode cX8_layWays 5 = .ok (.if_icmp .ge 24, 3) := by decide +kernel
theorem dX8_layWays_8 : decode cX8_layWays 8 = .ok (.aload_n 0, 1) := by decide +kernel
theorem dX8_layWays_9 : decode cX8_layWays 9 = .ok (.getfield 68, 3) := by decide +kernel
theorem dX8_layWays_12 : decode cX8_layWays 12 = .ok (.iload_n 3, 1) := by decide +kernel
theorem dX8_layWays_13 : decode cX8_layWays 13 = .ok (.iload_n 3, 1) := by decide +kernel
theorem dX8_layWays_14 : decode cX8_layWays 14 = .ok (.ifCond .ne 7, 3) := by decide +kernel
theorem dX8_layWays_17 : decode cX8_layWays 17 = .ok (.lconst 1, 1) := by decide +kernel
theorem dX8_layWays_18 : decode cX8_layWays 18 = .ok (.goto 4, 3) := by decide +kernel
theorem dX8_layWays_21 : decode cX8_layWays 21 = .ok (.lconst 0, 1) := by decide +kernel
theorem dX8_layWays_22 : decode cX8_layWays 22 = .ok (.lastore, 1) := by decide +kernel
theorem dX8_layWays_23 : decode cX8_layWays 23 = .ok (.iinc 3 1, 3) := by decide +kernel
theorem dX8_layWays_26 : decode cX8_layWays 26 = .ok (.goto (-24), 3) := by decide +kernel
theorem dX8_layWays_29 : decode cX8_layWays 29 = .ok (.iconst 0, 1) := by decide +kernel
theorem dX8_layWays_30 : decode cX8_layWays 30 = .ok (.istore_n 3, 1) := by decide +kernel
theorem dX8_layWays_31 : decode cX8_layWays 31 = .ok (.iload_n 3, 1) := by decide +kernel
theorem dX8_layWays_32 : decode cX8_layWays 32 = .ok (.iload_n 1, 1) := by decide +kernel
theorem dX8_layWays_33 : decode cX8_layWays 33 = .ok (.if_icmp .ge 66, 3) := by decide +kernel
theorem dX8_layWays_36 : decode cX8_layWays 36 = .ok (.bipush 12, 2) := by decide +kernel
theorem dX8_layWays_38 : decode cX8_layWays 38 = .ok (.istore 4, 2) := by decide +kernel
theorem dX8_layWays_40 : decode cX8_layWays 40 = .ok (.iload 4, 2) := by decide +kernel
theorem dX8_layWays_42 : decode cX8_layWays 42 = .ok (.ifCond .lt 51, 3) := by decide +kernel
theorem dX8_layWays_45 : decode cX8_layWays 45 = .ok (.aload_n 0, 1) := by decide +kernel
theorem dX8_layWays_46 : decode cX8_layWays 46 = .ok (.getfield 68, 3) := by decide +kernel
theorem dX8_layWays_49 : decode cX8_layWays 49 = .ok (.iload 4, 2) := by decide +kernel
theorem dX8_layWays_51 : decode cX8_layWays 51 = .ok (.aload_n 0, 1) := by decide +kernel
theorem dX8_layWays_52 : decode cX8_layWays 52 = .ok (.getfield 68, 3) := by decide +kernel
theorem dX8_layWays_55 : decode cX8_layWays 55 = .ok (.iload 4, 2) := by decide +kernel
theorem dX8_layWays_57 : decode cX8_layWays 57 = .ok (.laload, 1) := by decide +kernel
theorem dX8_layWays_58 : decode cX8_layWays 58 = .ok (.iload_n 2, 1) := by decide +kernel
theorem dX8_layWays_59 : decode cX8_layWays 59 = .ok (.i2l, 1) := by decide +kernel
theorem dX8_layWays_60 : decode cX8_layWays 60 = .ok (.lmul, 1) := by decide +kernel
theorem dX8_layWays_61 : decode cX8_layWays 61 = .ok (.iload 4, 2) := by decide +kernel
theorem dX8_layWays_63 : decode cX8_layWays 63 = .ok (.ifCond .le 21, 3) := by decide +kernel
theorem dX8_layWays_66 : decode cX8_layWays 66 = .ok (.aload_n 0, 1) := by decide +kernel
theorem dX8_layWays_67 : decode cX8_layWays 67 = .ok (.getfield 68, 3) := by decide +kernel
theorem dX8_layWays_70 : decode cX8_layWays 70 = .ok (.iload 4, 2) := by decide +kernel
theorem dX8_layWays_72 : decode cX8_layWays 72 = .ok (.iconst 1, 1) := by decide +kernel
theorem dX8_layWays_73 : decode cX8_layWays 73 = .ok (.isub, 1) := by decide +kernel
theorem dX8_layWays_74 : decode cX8_layWays 74 = .ok (.laload, 1) := by decide +kernel
theorem dX8_layWays_75 : decode cX8_layWays 75 = .ok (.bipush 12, 2) := by decide +kernel
theorem dX8_layWays_77 : decode cX8_layWays 77 = .ok (.iload_n 2, 1) := by decide +kernel
theorem dX8_layWays_78 : decode cX8_layWays 78 = .ok (.isub, 1) := by decide +kernel
theorem dX8_layWays_79 : decode cX8_layWays 79 = .ok (.i2l, 1) := by decide +kernel
theorem dX8_layWays_80 : decode cX8_layWays 80 = .ok (.lmul, 1) := by decide +kernel
theorem dX8_layWays_81 : decode cX8_layWays 81 = .ok (.goto 4, 3) := by decide +kernel
theorem dX8_layWays_84 : decode cX8_layWays 84 = .ok (.lconst 0, 1) := by decide +kernel
theorem dX8_layWays_85 : decode cX8_layWays 85 = .ok (.ladd, 1) := by decide +kernel
theorem dX8_layWays_86 : decode cX8_layWays 86 = .ok (.lastore, 1) := by decide +kernel
theorem dX8_layWays_87 : decode cX8_layWays 87 = .ok (.iinc 4 (-1), 3) := by decide +kernel
theorem dX8_layWays_90 : decode cX8_layWays 90 = .ok (.goto (-50), 3) := by decide +kernel
theorem dX8_layWays_93 : decode cX8_layWays 93 = .ok (.iinc 3 1, 3) := by decide +kernel
theorem dX8_layWays_96 : decode cX8_layWays 96 = .ok (.goto (-65), 3) := by decide +kernel
theorem dX8_layWays_99 : decode cX8_layWays 99 = .ok (.return_, 1) := by decide +kernel
theorem dX8_strainBehind_0 : decode cX8_strainBehind 0 = .ok (.aload_n 0, 1) := by decide +kernel
theorem dX8_strainBehind_1 : decode cX8_strainBehind 1 = .ok (.getfield 7, 3) := by decide +kernel
theorem dX8_strainBehind_4 : decode cX8_strainBehind 4 = .ok (.iconst 2, 1) := by decide +kernel
theorem dX8_strainBehind_5 : decode cX8_strainBehind 5 = .ok (.iaload, 1) := by decide +kernel
theorem dX8_strainBehind_6 : decode cX8_strainBehind 6 = .ok (.iload_n 1, 1) := by decide +kernel
theorem dX8_strainBehind_7 : decode cX8_strainBehind 7 = .ok (.if_icmp .le 14, 3) := by decide +kernel
theorem dX8_strainBehind_10 : decode cX8_strainBehind 10 = .ok (.aload_n 0, 1) := by decide +kernel
theorem dX8_strainBehind_11 : decode cX8_strainBehind 11 = .ok (.getfield 7, 3) := by decide +kernel
theorem dX8_strainBehind_14 : decode cX8_strainBehind 14 = .ok (.iconst 2, 1) := by decide +kernel
theorem dX8_strainBehind_15 : decode cX8_strainBehind 15 = .ok (.iaload, 1) := by decide +kernel
theorem dX8_strainBehind_16 : decode cX8_strainBehind 16 = .ok (.iload_n 1, 1) := by decide +kernel
theorem dX8_strainBehind_17 : decode cX8_strainBehind 17 = .ok (.isub, 1) := by decide +kernel
theorem dX8_strainBehind_18 : decode cX8_strainBehind 18 = .ok (.goto 4, 3) := by decide +kernel
theorem dX8_strainBehind_21 : decode cX8_strainBehind 21 = .ok (.iconst 0, 1) := by decide +kernel
theorem dX8_strainBehind_22 : decode cX8_strainBehind 22 = .ok (.ireturn, 1) := by decide +kernel
set_option maxRecDepth 20000 in
theorem ggX8_mid_X8_in : GoodIn wsX8_mid wsX8_in := goodIn_r _ [7] (by decide +kernel) (by decide +kernel)
set_option maxRecDepth 20000 in
theorem gX8_mid_X8_in : GoodIn wsX8_mid (va_wsS RX8 81 yX8_in wsX8_in) := goodIn_app (goodIn_of _ (by decide +kernel)) ggX8_mid_X8_in
set_option maxRecDepth 20000 in
theorem ggX8_mid_X8_layWays : GoodIn wsX8_mid wsX8_layWays := goodIn_r _ [11, 3, 23, 24, 25, 26, 27, 28, 29, 30, 31, 32, 33, 34, 35, 36, 37, 38, 39, 40, 41, 42, 43, 44, 45, 46, 47, 48, 49, 50, 51, 52, 53, 54, 55] (by decide +kernel) (by decide +kernel)
set_option maxRecDepth 20000 in
theorem gX8_mid_X8_layWays : GoodIn wsX8_mid (wsV RX8 286 RX8 yX8_layWays wsX8_layWays) := goodIn_app (goodIn_of _ (by decide +kernel)) ggX8_mid_X8_layWays
set_option maxRecDepth 20000 in
theorem ggX8_mid_X8_strainBehind : GoodIn wsX8_mid wsX8_strainBehind := goodIn_r _ [15, 16, 23, 24, 25, 26, 27, 28, 29, 30, 31, 32, 33, 34, 35, 36, 37, 38, 39, 40, 41, 42, 43, 44, 45, 46, 47, 48, 49, 50, 51, 52, 53, 54, 55] (by decide +kernel) (by decide +kernel)
set_option maxRecDepth 20000 in
theorem gX8_mid_X8_strainBehind : GoodIn wsX8_mid (wsV RX8 289 RX8 yX8_strainBehind wsX8_strainBehind) := goodIn_app (goodIn_of _ (by decide +kernel)) ggX8_mid_X8_strainBehind
set_option maxRecDepth 20000 in
theorem ggX8_mid_X8_tellParts : GoodIn wsX8_mid wsX8_tellParts := goodIn_r _ [20, 21, 22, 23, 24, 25, 26, 27, 28, 29, 30, 31, 32, 33, 34, 35, 36, 37, 38, 39, 40, 41, 42, 43, 44, 45, 46, 47, 48, 49, 50, 51, 52, 53, 54, 55] (by decide +kernel) (by decide +kernel)
set_option maxRecDepth 20000 in
theorem gX8_mid_X8_tellParts : GoodIn wsX8_mid (wsV RX8 292 RX8 yX8_tellParts wsX8_tellParts) := goodIn_app (goodIn_of _ (by decide +kernel)) ggX8_mid_X8_tellParts
theorem dX8_mid_0 : decode cX8_mid 0 = .ok (.iload_n 1, 1) := by decide +kernel
theorem dX8_mid_1 : decode cX8_mid 1 = .ok (.i2l, 1) := by decide +kernel
theorem dX8_mid_2 : decode cX8_mid 2 = .ok (.lconst 0, 1) := by decide +kernel
theorem dX8_mid_3 : decode cX8_mid 3 = .ok (.ldc2_w 284, 3) := by decide +kernel
theorem dX8_mid_6 : decode cX8_mid 6 = .ok (.invokestatic 81, 3) := by decide +kernel
theorem dX8_mid_9 : decode cX8_mid 9 = .ok (.ifCond .eq 15, 3) := by decide +kernel
theorem dX8_mid_12 : decode cX8_mid 12 = .ok (.iload_n 2, 1) := by decide +kernel
theorem dX8_mid_13 : decode cX8_mid 13 = .ok (.i2l, 1) := by decide +kernel
theorem dX8_mid_14 : decode cX8_mid 14 = .ok (.lconst 0, 1) := by decide +kernel
theorem dX8_mid_15 : decode cX8_mid 15 = .ok (.ldc2_w 284, 3) := by decide +kernel
theorem dX8_mid_18 : decode cX8_mid 18 = .ok (.invokestatic 81, 3) := by decide +kernel
theorem dX8_mid_21 : decode cX8_mid 21 = .ok (.ifCond .ne 5, 3) := by decide +kernel
theorem dX8_mid_24 : decode cX8_mid 24 = .ok (.iconst (-1), 1) := by decide +kernel
theorem dX8_mid_25 : decode cX8_mid 25 = .ok (.ireturn, 1) := by decide +kernel
theorem dX8_mid_26 : decode cX8_mid 26 = .ok (.aload_n 0, 1) := by decide +kernel
theorem dX8_mid_27 : decode cX8_mid 27 = .ok (.getfield 167, 3) := by decide +kernel
theorem dX8_mid_30 : decode cX8_mid 30 = .ok (.ifCond .ne 6, 3) := by decide +kernel
theorem dX8_mid_33 : decode cX8_mid 33 = .ok (.bipush (-4), 2) := by decide +kernel
theorem dX8_mid_35 : decode cX8_mid 35 = .ok (.ireturn, 1) := by decide +kernel
theorem dX8_mid_36 : decode cX8_mid 36 = .ok (.aload_n 0, 1) := by decide +kernel
theorem dX8_mid_37 : decode cX8_mid 37 = .ok (.iload_n 1, 1) := by decide +kernel
theorem dX8_mid_38 : decode cX8_mid 38 = .ok (.iload_n 2, 1) := by decide +kernel
theorem dX8_mid_39 : decode cX8_mid 39 = .ok (.invokevirtual 286, 3) := by decide +kernel
theorem dX8_mid_42 : decode cX8_mid 42 = .ok (.lconst 0, 1) := by decide +kernel
theorem dX8_mid_43 : decode cX8_mid 43 = .ok (.lstore_n 3, 1) := by decide +kernel
theorem dX8_mid_44 : decode cX8_mid 44 = .ok (.lconst 0, 1) := by decide +kernel
theorem dX8_mid_45 : decode cX8_mid 45 = .ok (.lstore 5, 2) := by decide +kernel
theorem dX8_mid_47 : decode cX8_mid 47 = .ok (.iconst 0, 1) := by decide +kernel
theorem dX8_mid_48 : decode cX8_mid 48 = .ok (.istore 7, 2) := by decide +kernel
theorem dX8_mid_50 : decode cX8_mid 50 = .ok (.iload 7, 2) := by decide +kernel
theorem dX8_mid_52 : decode cX8_mid 52 = .ok (.bipush 13, 2) := by decide +kernel
theorem dX8_mid_54 : decode cX8_mid 54 = .ok (.if_icmp .ge 39, 3) := by decide +kernel
theorem dX8_mid_57 : decode cX8_mid 57 = .ok (.lload_n 3, 1) := by decide +kernel
theorem dX8_mid_58 : decode cX8_mid 58 = .ok (.aload_n 0, 1) := by decide +kernel
theorem dX8_mid_59 : decode cX8_mid 59 = .ok (.getfield 68, 3) := by decide +kernel
theorem dX8_mid_62 : decode cX8_mid 62 = .ok (.iload 7, 2) := by decide +kernel
theorem dX8_mid_64 : decode cX8_mid 64 = .ok (.laload, 1) := by decide +kernel
theorem dX8_mid_65 : decode cX8_mid 65 = .ok (.aload_n 0, 1) := by decide +kernel
theorem dX8_mid_66 : decode cX8_mid 66 = .ok (.iload 7, 2) := by decide +kernel
theorem dX8_mid_68 : decode cX8_mid 68 = .ok (.invokevirtual 289, 3) := by decide +kernel
theorem dX8_mid_71 : decode cX8_mid 71 = .ok (.i2l, 1) := by decide +kernel
theorem dX8_mid_72 : decode cX8_mid 72 = .ok (.lmul, 1) := by decide +kernel
theorem dX8_mid_73 : decode cX8_mid 73 = .ok (.ladd, 1) := by decide +kernel
theorem dX8_mid_74 : decode cX8_mid 74 = .ok (.lstore_n 3, 1) := by decide +kernel
theorem dX8_mid_75 : decode cX8_mid 75 = .ok (.lload 5, 2) := by decide +kernel
theorem dX8_mid_77 : decode cX8_mid 77 = .ok (.aload_n 0, 1) := by decide +kernel
theorem dX8_mid_78 : decode cX8_mid 78 = .ok (.getfield 68, 3) := by decide +kernel
theorem dX8_mid_81 : decode cX8_mid 81 = .ok (.iload 7, 2) := by decide +kernel
theorem dX8_mid_83 : decode cX8_mid 83 = .ok (.laload, 1) := by decide +kernel
theorem dX8_mid_84 : decode cX8_mid 84 = .ok (.ladd, 1) := by decide +kernel
theorem dX8_mid_85 : decode cX8_mid 85 = .ok (.lstore 5, 2) := by decide +kernel
theorem dX8_mid_87 : decode cX8_mid 87 = .ok (.iinc 7 1, 3) := by decide +kernel
theorem dX8_mid_90 : decode cX8_mid 90 = .ok (.goto (-40), 3) := by decide +kernel
theorem dX8_mid_93 : decode cX8_mid 93 = .ok (.aload_n 0, 1) := by decide +kernel
theorem dX8_mid_94 : decode cX8_mid 94 = .ok (.lload_n 3, 1) := by decide +kernel
theorem dX8_mid_95 : decode cX8_mid 95 = .ok (.lload 5, 2) := by decide +kernel
theorem dX8_mid_97 : decode cX8_mid 97 = .ok (.invokevirtual 292, 3) := by decide +kernel
theorem dX8_mid_100 : decode cX8_mid 100 = .ok (.ireturn, 1) := by decide +kernel
set_option maxRecDepth 20000 in
theorem ggX8_odds_X8_isOne : GoodIn wsX8_odds wsX8_isOne := goodIn_r _ [8, 9, 10, 11, 7, 12, 52, 53, 54, 55, 56, 57, 58, 59, 60, 61, 62, 63, 64, 65, 66, 67, 68, 69, 70, 71, 72, 73, 74, 75, 76, 77, 78, 79, 80, 81, 82, 83, 84] (by decide +kernel) (by decide +kernel)
set_option maxRecDepth 20000 in
theorem gX8_odds_X8_isOne : GoodIn wsX8_odds (wsV RX8 200 RX8 yX8_isOne wsX8_isOne) := goodIn_app (goodIn_of _ (by decide +kernel)) ggX8_odds_X8_isOne
set_option maxRecDepth 20000 in
theorem ggX8_odds_X8_isSaying : GoodIn wsX8_odds wsX8_isSaying := goodIn_r _ [16, 17, 10, 11, 7, 12, 52, 53, 54, 55, 56, 57, 58, 59, 60, 61, 62, 63, 64, 65, 66, 67, 68, 69, 70, 71, 72, 73, 74, 75, 76, 77, 78, 79, 80, 81, 82, 83, 84] (by decide +kernel) (by decide +kernel)
set_option maxRecDepth 20000 in
theorem gX8_odds_X8_isSaying : GoodIn wsX8_odds (wsV RX8 186 RX8 yX8_isSaying wsX8_isSaying) := goodIn_app (goodIn_of _ (by decide +kernel)) ggX8_odds_X8_isSaying
set_option maxRecDepth 20000 in
theorem ggX8_odds_X8_in : GoodIn wsX8_odds wsX8_in := goodIn_r _ [12] (by decide +kernel) (by decide +kernel)
set_option maxRecDepth 20000 in
theorem gX8_odds_X8_in : GoodIn wsX8_odds (va_wsS RX8 81 yX8_in wsX8_in) := goodIn_app (goodIn_of _ (by decide +kernel)) ggX8_odds_X8_in
set_option maxRecDepth 20000 in
theorem ggX8_odds_X8_isOver : GoodIn wsX8_odds wsX8_isOver := goodIn_r _ [21, 22, 52, 53, 54, 55, 56, 57, 58, 59, 60, 61, 62, 63, 64, 65, 66, 67, 68, 69, 70, 71, 72, 73, 74, 75, 76, 77, 78, 79, 80, 81, 82, 83, 84] (by decide +kernel) (by decide +kernel)
set_option maxRecDepth 20000 in
theorem gX8_odds_X8_isOver : GoodIn wsX8_odds (wsV RX8 203 RX8 yX8_isOver wsX8_isOver) := goodIn_app (goodIn_of _ (by decide +kernel)) ggX8_odds_X8_isOver
set_option maxRecDepth 20000 in
theorem ggX8_odds_X8_layWays : GoodIn wsX8_odds wsX8_layWays := goodIn_r _ [26, 3, 52, 53, 54, 55, 56, 57, 58, 59, 60, 61, 62, 63, 64, 65, 66, 67, 68, 69, 70, 71, 72, 73, 74, 75, 76, 77, 78, 79, 80, 81, 82, 83, 84] (by decide +kernel) (by decide +kernel)
set_option maxRecDepth 20000 in
theorem gX8_odds_X8_layWays : GoodIn wsX8_odds (wsV RX8 286 RX8 yX8_layWays wsX8_layWays) := goodIn_app (goodIn_of _ (by decide +kernel)) ggX8_odds_X8_layWays
set_option maxRecDepth 20000 in
theorem ggX8_odds_X8_strainBehind : GoodIn wsX8_odds wsX8_strainBehind := goodIn_r _ [30, 22, 52, 53, 54, 55, 56, 57, 58, 59, 60, 61, 62, 63, 64, 65, 66, 67, 68, 69, 70, 71, 72, 73, 74, 75, 76, 77, 78, 79, 80, 81, 82, 83, 84] (by decide +kernel) (by decide +kernel)
set_option maxRecDepth 20000 in
theorem gX8_odds_X8_strainBehind : GoodIn wsX8_odds (wsV RX8 289 RX8 yX8_strainBehind wsX8_strainBehind) := goodIn_app (goodIn_of _ (by decide +kernel)) ggX8_odds_X8_strainBehind
set_option maxRecDepth 20000 in
theorem ggX8_odds_X8_nearOf : GoodIn wsX8_odds wsX8_nearOf := goodIn_r _ [34, 35, 36, 22, 37, 38, 7, 39, 40, 41, 42, 43, 44, 45, 52, 53, 54, 55, 56, 57, 58, 59, 60, 61, 62, 63, 64, 65, 66, 67, 68, 69, 70, 71, 72, 73, 74, 75, 76, 77, 78, 79, 80, 81, 82, 83, 84] (by decide +kernel) (by decide +kernel)
set_option maxRecDepth 20000 in
theorem gX8_odds_X8_nearOf : GoodIn wsX8_odds (wsV RX8 183 RX8 yX8_nearOf wsX8_nearOf) := goodIn_app (goodIn_of _ (by decide +kernel)) ggX8_odds_X8_nearOf
set_option maxRecDepth 20000 in
theorem ggX8_odds_X8_tellParts : GoodIn wsX8_odds wsX8_tellParts := goodIn_r _ [49, 50, 51, 52, 53, 54, 55, 56, 57, 58, 59, 60, 61, 62, 63, 64, 65, 66, 67, 68, 69, 70, 71, 72, 73, 74, 75, 76, 77, 78, 79, 80, 81, 82, 83, 84] (by decide +kernel) (by decide +kernel)
set_option maxRecDepth 20000 in
theorem gX8_odds_X8_tellParts : GoodIn wsX8_odds (wsV RX8 292 RX8 yX8_tellParts wsX8_tellParts) := goodIn_app (goodIn_of _ (by decide +kernel)) ggX8_odds_X8_tellParts
theorem dX8_odds_0 : decode cX8_odds 0 = .ok (.aload_n 0, 1) := by decide +kernel
theorem dX8_odds_1 : decode cX8_odds 1 = .ok (.iload_n 1, 1) := by decide +kernel
theorem dX8_odds_2 : decode cX8_odds 2 = .ok (.invokevirtual 200, 3) := by decide +kernel
theorem dX8_odds_5 : decode cX8_odds 5 = .ok (.ifCond .eq 36, 3) := by decide +kernel
theorem dX8_odds_8 : decode cX8_odds 8 = .ok (.aload_n 0, 1) := by decide +kernel
theorem dX8_odds_9 : decode cX8_odds 9 = .ok (.iload_n 2, 1) := by decide +kernel
theorem dX8_odds_10 : decode cX8_odds 10 = .ok (.invokevirtual 186, 3) := by decide +kernel
theorem dX8_odds_13 : decode cX8_odds 13 = .ok (.ifCond .eq 28, 3) := by decide +kernel
theorem dX8_odds_16 : decode cX8_odds 16 = .ok (.iload_n 3, 1) := by decide +kernel
theorem dX8_odds_17 : decode cX8_odds 17 = .ok (.i2l, 1) := by decide +kernel
theorem dX8_odds_18 : decode cX8_odds 18 = .ok (.lconst 0, 1) := by decide +kernel
theorem dX8_odds_19 : decode cX8_odds 19 = .ok (.ldc2_w 284, 3) := by decide +kernel
theorem dX8_odds_22 : decode cX8_odds 22 = .ok (.invokestatic 81, 3) := by decide +kernel
theorem dX8_odds_25 : decode cX8_odds 25 = .ok (.ifCond .eq 16, 3) := by decide +kernel
theorem dX8_odds_28 : decode cX8_odds 28 = .ok (.iload 4, 2) := by decide +kernel
theorem dX8_odds_30 : decode cX8_odds 30 = .ok (.i2l, 1) := by decide +kernel
theorem dX8_odds_31 : decode cX8_odds 31 = .ok (.lconst 0, 1) := by decide +kernel
theorem dX8_odds_32 : decode cX8_odds 32 = .ok (.ldc2_w 284, 3) := by decide +kernel
theorem dX8_odds_35 : decode cX8_odds 35 = .ok (.invokestatic 81, 3) := by decide +kernel
theorem dX8_odds_38 : decode cX8_odds 38 = .ok (.ifCond .ne 5, 3) := by decide +kernel
theorem dX8_odds_41 : decode cX8_odds 41 = .ok (.iconst (-1), 1) := by decide +kernel
theorem dX8_odds_42 : decode cX8_odds 42 = .ok (.ireturn, 1) := by decide +kernel
theorem dX8_odds_43 : decode cX8_odds 43 = .ok (.aload_n 0, 1) := by decide +kernel
theorem dX8_odds_44 : decode cX8_odds 44 = .ok (.invokevirtual 203, 3) := by decide +kernel
theorem dX8_odds_47 : decode cX8_odds 47 = .ok (.ifCond .eq 6, 3) := by decide +kernel
theorem dX8_odds_50 : decode cX8_odds 50 = .ok (.bipush (-4), 2) := by decide +kernel
theorem dX8_odds_52 : decode cX8_odds 52 = .ok (.ireturn, 1) := by decide +kernel
theorem dX8_odds_53 : decode cX8_odds 53 = .ok (.aload_n 0, 1) := by decide +kernel
theorem dX8_odds_54 : decode cX8_odds 54 = .ok (.iload_n 3, 1) := by decide +kernel
theorem dX8_odds_55 : decode cX8_odds 55 = .ok (.iload 4, 2) := by decide +kernel
theorem dX8_odds_57 : decode cX8_odds 57 = .ok (.invokevirtual 286, 3) := by decide +kernel
theorem dX8_odds_60 : decode cX8_odds 60 = .ok (.lconst 0, 1) := by decide +kernel
theorem dX8_odds_61 : decode cX8_odds 61 = .ok (.lstore 5, 2) := by decide +kernel
theorem dX8_odds_63 : decode cX8_odds 63 = .ok (.lconst 0, 1) := by decide +kernel
theorem dX8_odds_64 : decode cX8_odds 64 = .ok (.lstore 7, 2) := by decide +kernel
theorem dX8_odds_66 : decode cX8_odds 66 = .ok (.iconst 0, 1) := by decide +kernel
theorem dX8_odds_67 : decode cX8_odds 67 = .ok (.istore 9, 2) := by decide +kernel
theorem dX8_odds_69 : decode cX8_odds 69 = .ok (.iload 9, 2) := by decide +kernel
theorem dX8_odds_71 : decode cX8_odds 71 = .ok (.bipush 13, 2) := by decide +kernel
theorem dX8_odds_73 : decode cX8_odds 73 = .ok (.if_icmp .ge 59, 3) := by decide +kernel
theorem dX8_odds_76 : decode cX8_odds 76 = .ok (.lload 5, 2) := by decide +kernel
theorem dX8_odds_78 : decode cX8_odds 78 = .ok (.aload_n 0, 1) := by decide +kernel
theorem dX8_odds_79 : decode cX8_odds 79 = .ok (.iload 9, 2) := by decide +kernel
theorem dX8_odds_81 : decode cX8_odds 81 = .ok (.invokevirtual 289, 3) := by decide +kernel
theorem dX8_odds_84 : decode cX8_odds 84 = .ok (.aload_n 0, 1) := by decide +kernel
theorem dX8_odds_85 : decode cX8_odds 85 = .ok (.iconst 0, 1) := by decide +kernel
theorem dX8_odds_86 : decode cX8_odds 86 = .ok (.iload_n 2, 1) := by decide +kernel
theorem dX8_odds_87 : decode cX8_odds 87 = .ok (.invokevirtual 183, 3) := by decide +kernel
theorem dX8_odds_90 : decode cX8_odds 90 = .ok (.iadd, 1) := by decide +kernel
theorem dX8_odds_91 : decode cX8_odds 91 = .ok (.aload_n 0, 1) := by decide +kernel
theorem dX8_odds_92 : decode cX8_odds 92 = .ok (.getfield 13, 3) := by decide +kernel
theorem dX8_odds_95 : decode cX8_odds 95 = .ok (.iload_n 1, 1) := by decide +kernel
theorem dX8_odds_96 : decode cX8_odds 96 = .ok (.iaload, 1) := by decide +kernel
theorem dX8_odds_97 : decode cX8_odds 97 = .ok (.if_icmp .gt 13, 3) := by decide +kernel
theorem dX8_odds_100 : decode cX8_odds 100 = .ok (.aload_n 0, 1) := by decide +kernel
theorem dX8_odds_101 : decode cX8_odds 101 = .ok (.getfield 68, 3) := by decide +kernel
theorem dX8_odds_104 : decode cX8_odds 104 = .ok (.iload 9, 2) := by decide +kernel
theorem dX8_odds_106 : decode cX8_odds 106 = .ok (.laload, 1) := by decide +kernel
theorem dX8_odds_107 : decode cX8_odds 107 = .ok (.goto 4, 3) := by decide +kernel
theorem dX8_odds_110 : decode cX8_odds 110 = .ok (.lconst 0, 1) := by decide +kernel
theorem dX8_odds_111 : decode cX8_odds 111 = .ok (.ladd, 1) := by decide +kernel
theorem dX8_odds_112 : decode cX8_odds 112 = .ok (.lstore 5, 2) := by decide +kernel
theorem dX8_odds_114 : decode cX8_odds 114 = .ok (.lload 7, 2) := by decide +kernel
theorem dX8_odds_116 : decode cX8_odds 116 = .ok (.aload_n 0, 1) := by decide +kernel
theorem dX8_odds_117 : decode cX8_odds 117 = .ok (.getfield 68, 3) := by decide +kernel
theorem dX8_odds_120 : decode cX8_odds 120 = .ok (.iload 9, 2) := by decide +kernel
theorem dX8_odds_122 : decode cX8_odds 122 = .ok (.laload, 1) := by decide +kernel
theorem dX8_odds_123 : decode cX8_odds 123 = .ok (.ladd, 1) := by decide +kernel
theorem dX8_odds_124 : decode cX8_odds 124 = .ok (.lstore 7, 2) := by decide +kernel
theorem dX8_odds_126 : decode cX8_odds 126 = .ok (.iinc 9 1, 3) := by decide +kernel
theorem dX8_odds_129 : decode cX8_odds 129 = .ok (.goto (-60), 3) := by decide +kernel
theorem dX8_odds_132 : decode cX8_odds 132 = .ok (.aload_n 0, 1) := by decide +kernel
theorem dX8_odds_133 : decode cX8_odds 133 = .ok (.lload 5, 2) := by decide +kernel
theorem dX8_odds_135 : decode cX8_odds 135 = .ok (.lload 7, 2) := by decide +kernel
theorem dX8_odds_137 : decode cX8_odds 137 = .ok (.invokevirtual 292, 3) := by decide +kernel
theorem dX8_odds_140 : decode cX8_odds 140 = .ok (.ireturn, 1) := by decide +kernel
set_option maxRecDepth 20000 in
theorem ggX8_lots_X8_in : GoodIn wsX8_lots wsX8_in := goodIn_r _ [14] (by decide +kernel) (by decide +kernel)
set_option maxRecDepth 20000 in
theorem gX8_lots_X8_in : GoodIn wsX8_lots (va_wsS RX8 81 yX8_in wsX8_in) := goodIn_app (goodIn_of _ (by decide +kernel)) ggX8_lots_X8_in
set_option maxRecDepth 20000 in
theorem ggX8_lots_X8_isOver : GoodIn wsX8_lots wsX8_isOver := goodIn_r _ [18, 4, 56, 57, 58, 59, 60, 61, 62, 63, 64, 65, 66, 67, 68, 69, 70, 71, 72, 73, 74, 75, 76, 77, 78, 79, 80, 81, 82, 83, 84, 85, 86, 87, 88] (by decide +kernel) (by decide +kernel)
set_option maxRecDepth 20000 in
theorem gX8_lots_X8_isOver : GoodIn wsX8_lots (wsV RX8 203 RX8 yX8_isOver wsX8_isOver) := goodIn_app (goodIn_of _ (by decide +kernel)) ggX8_lots_X8_isOver
set_option maxRecDepth 20000 in
theorem ggX8_lots_X8_bearsIt : GoodIn wsX8_lots wsX8_bearsIt := goodIn_r _ [22, 4, 23, 24, 25, 26, 13, 27, 28, 29, 30, 31, 32, 33, 34, 35, 36, 37, 38, 56, 57, 58, 59, 60, 61, 62, 63, 64, 65, 66, 67, 68, 69, 70, 71, 72, 73, 74, 75, 76, 77, 78, 79, 80, 81, 82, 83, 84, 85, 86, 87, 88] (by decide +kernel) (by decide +kernel)
set_option maxRecDepth 20000 in
theorem gX8_lots_X8_bearsIt : GoodIn wsX8_lots (wsV RX8 225 RX8 yX8_bearsIt wsX8_bearsIt) := goodIn_app (goodIn_of _ (by decide +kernel)) ggX8_lots_X8_bearsIt
set_option maxRecDepth 20000 in
theorem ggX8_lots_X8_doDay : GoodIn wsX8_lots wsX8_doDay := goodIn_r _ [42, 4, 43, 44, 45, 13, 46, 47, 48, 49, 50, 56, 57, 58, 59, 60, 61, 62, 63, 64, 65, 66, 67, 68, 69, 70, 71, 72, 73, 74, 75, 76, 77, 78, 79, 80, 81, 82, 83, 84, 85, 86, 87, 88] (by decide +kernel) (by decide +kernel)
set_option maxRecDepth 20000 in
theorem gX8_lots_X8_doDay : GoodIn wsX8_lots (wsV RX8 217 RX8 yX8_doDay wsX8_doDay) := goodIn_app (goodIn_of _ (by decide +kernel)) ggX8_lots_X8_doDay
set_option maxRecDepth 20000 in
theorem ggX8_lots_X8_keepPast : GoodIn wsX8_lots wsX8_keepPast := goodIn_r _ [46, 4, 56, 57, 58, 59, 60, 61, 62, 63, 64, 65, 66, 67, 68, 69, 70, 71, 72, 73, 74, 75, 76, 77, 78, 79, 80, 81, 82, 83, 84, 85, 86, 87, 88] (by decide +kernel) (by decide +kernel)
set_option maxRecDepth 20000 in
theorem gX8_lots_X8_keepPast : GoodIn wsX8_lots (wsV RX8 206 RX8 yX8_keepPast wsX8_keepPast) := goodIn_app (goodIn_of _ (by decide +kernel)) ggX8_lots_X8_keepPast
set_option maxRecDepth 20000 in
theorem ggX8_lots_X8_says : GoodIn wsX8_lots wsX8_says := goodIn_r _ [54, 4, 55, 23, 24, 25, 26, 13, 27, 28, 29, 30, 31, 32, 33, 34, 35, 36, 37, 38, 56, 57, 58, 59, 60, 61, 62, 63, 64, 65, 66, 67, 68, 69, 70, 71, 72, 73, 74, 75, 76, 77, 78, 79, 80, 81, 82, 83, 84, 85, 86, 87, 88] (by decide +kernel) (by decide +kernel)
set_option maxRecDepth 20000 in
theorem gX8_lots_X8_says : GoodIn wsX8_lots (wsV RX8 209 RX8 yX8_says wsX8_says) := goodIn_app (goodIn_of _ (by decide +kernel)) ggX8_lots_X8_says
theorem dX8_lots_0 : decode cX8_lots 0 = .ok (.iload_n 1, 1) := by decide +kernel
theorem dX8_lots_1 : decode cX8_lots 1 = .ok (.i2l, 1) := by decide +kernel
theorem dX8_lots_2 : decode cX8_lots 2 = .ok (.lconst 1, 1) := by decide +kernel
theorem dX8_lots_3 : decode cX8_lots 3 = .ok (.ldc2_w 296, 3) := by decide +kernel
theorem dX8_lots_6 : decode cX8_lots 6 = .ok (.invokestatic 81, 3) := by decide +kernel
theorem dX8_lots_9 : decode cX8_lots 9 = .ok (.ifCond .eq 15, 3) := by decide +kernel
theorem dX8_lots_12 : decode cX8_lots 12 = .ok (.iload_n 2, 1) := by decide +kernel
theorem dX8_lots_13 : decode cX8_lots 13 = .ok (.i2l, 1) := by decide +kernel
theorem dX8_lots_14 : decode cX8_lots 14 = .ok (.lconst 1, 1) := by decide +kernel
theorem dX8_lots_15 : decode cX8_lots 15 = .ok (.ldc2_w 298, 3) := by decide +kernel
theorem dX8_lots_18 : decode cX8_lots 18 = .ok (.invokestatic 81, 3) := by decide +kernel
theorem dX8_lots_21 : decode cX8_lots 21 = .ok (.ifCond .ne 5, 3) := by decide +kernel
theorem dX8_lots_24 : decode cX8_lots 24 = .ok (.iconst (-1), 1) := by decide +kernel
theorem dX8_lots_25 : decode cX8_lots 25 = .ok (.ireturn, 1) := by decide +kernel
theorem dX8_lots_26 : decode cX8_lots 26 = .ok (.aload_n 0, 1) := by decide +kernel
theorem dX8_lots_27 : decode cX8_lots 27 = .ok (.getfield 167, 3) := by decide +kernel
theorem dX8_lots_30 : decode cX8_lots 30 = .ok (.ifCond .ne 6, 3) := by decide +kernel
theorem dX8_lots_33 : decode cX8_lots 33 = .ok (.bipush (-4), 2) := by decide +kernel
theorem dX8_lots_35 : decode cX8_lots 35 = .ok (.ireturn, 1) := by decide +kernel
theorem dX8_lots_36 : decode cX8_lots 36 = .ok (.aload_n 0, 1) := by decide +kernel
theorem dX8_lots_37 : decode cX8_lots 37 = .ok (.getfield 7, 3) := by decide +kernel
theorem dX8_lots_40 : decode cX8_lots 40 = .ok (.iconst 0, 1) := by decide +kernel
theorem dX8_lots_41 : decode cX8_lots 41 = .ok (.iaload, 1) := by decide +kernel
theorem dX8_lots_42 : decode cX8_lots 42 = .ok (.iload_n 1, 1) := by decide +kernel
theorem dX8_lots_43 : decode cX8_lots 43 = .ok (.iadd, 1) := by decide +kernel
theorem dX8_lots_44 : decode cX8_lots 44 = .ok (.bipush 40, 2) := by decide +kernel
theorem dX8_lots_46 : decode cX8_lots 46 = .ok (.if_icmp .le 6, 3) := by decide +kernel
theorem dX8_lots_49 : decode cX8_lots 49 = .ok (.bipush (-2), 2) := by decide +kernel
