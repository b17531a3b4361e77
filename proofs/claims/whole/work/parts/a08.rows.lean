theorem dX8_lay_44 : decode cX8_lay 44 = .ok (.invokevirtual 103, 3) := by decide +kernel
theorem dX8_lay_47 : decode cX8_lay 47 = .ok (.ireturn, 1) := by decide +kernel
set_option maxRecDepth 20000 in
theorem ggX8_at_X8_refused : GoodIn wsX8_at wsX8_refused := goodIn_r _ [6, 7, 8, 9, 5, 10, 11, 12, 13, 14, 15, 16, 17, 18, 19, 20, 26, 27, 28, 29, 30, 31, 32, 33, 34, 35, 36, 37, 38, 39, 40, 41, 42, 43, 44, 45, 46, 47, 48, 49, 50, 51, 52, 53, 54, 55, 56, 57, 58] (by decide +kernel) (by decide +kernel)
set_option maxRecDepth 20000 in
theorem gX8_at_X8_refused : GoodIn wsX8_at (wsV RX8 99 RX8 yX8_refused wsX8_refused) := goodIn_app (goodIn_of _ (by decide +kernel)) ggX8_at_X8_refused
set_option maxRecDepth 20000 in
theorem ggX8_at_X8_tell : GoodIn wsX8_at wsX8_tell := goodIn_r _ [24, 25, 26, 27, 28, 29, 30, 31, 32, 33, 34, 35, 36, 37, 38, 39, 40, 41, 42, 43, 44, 45, 46, 47, 48, 49, 50, 51, 52, 53, 54, 55, 56, 57, 58] (by decide +kernel) (by decide +kernel)
set_option maxRecDepth 20000 in
theorem gX8_at_X8_tell : GoodIn wsX8_at (wsV RX8 103 RX8 yX8_tell wsX8_tell) := goodIn_app (goodIn_of _ (by decide +kernel)) ggX8_at_X8_tell
theorem dX8_at_0 : decode cX8_at 0 = .ok (.aload_n 0, 1) := by decide +kernel
theorem dX8_at_1 : decode cX8_at 1 = .ok (.iload_n 1, 1) := by decide +kernel
theorem dX8_at_2 : decode cX8_at 2 = .ok (.iload_n 2, 1) := by decide +kernel
theorem dX8_at_3 : decode cX8_at 3 = .ok (.invokevirtual 99, 3) := by decide +kernel
theorem dX8_at_6 : decode cX8_at 6 = .ok (.istore_n 3, 1) := by decide +kernel
theorem dX8_at_7 : decode cX8_at 7 = .ok (.iload_n 3, 1) := by decide +kernel
theorem dX8_at_8 : decode cX8_at 8 = .ok (.ifCond .eq 7, 3) := by decide +kernel
theorem dX8_at_11 : decode cX8_at 11 = .ok (.iload_n 3, 1) := by decide +kernel
theorem dX8_at_12 : decode cX8_at 12 = .ok (.goto 18, 3) := by decide +kernel
theorem dX8_at_15 : decode cX8_at 15 = .ok (.aload_n 0, 1) := by decide +kernel
theorem dX8_at_16 : decode cX8_at 16 = .ok (.aload_n 0, 1) := by decide +kernel
theorem dX8_at_17 : decode cX8_at 17 = .ok (.getfield 28, 3) := by decide +kernel
theorem dX8_at_20 : decode cX8_at 20 = .ok (.bipush 40, 2) := by decide +kernel
theorem dX8_at_22 : decode cX8_at 22 = .ok (.iload_n 1, 1) := by decide +kernel
theorem dX8_at_23 : decode cX8_at 23 = .ok (.imul, 1) := by decide +kernel
theorem dX8_at_24 : decode cX8_at 24 = .ok (.iload_n 2, 1) := by decide +kernel
theorem dX8_at_25 : decode cX8_at 25 = .ok (.iadd, 1) := by decide +kernel
theorem dX8_at_26 : decode cX8_at 26 = .ok (.iaload, 1) := by decide +kernel
theorem dX8_at_27 : decode cX8_at 27 = .ok (.invokevirtual 103, 3) := by decide +kernel
theorem dX8_at_30 : decode cX8_at 30 = .ok (.ireturn, 1) := by decide +kernel
set_option maxRecDepth 20000 in
theorem ggX8_tear_X8_isRow : GoodIn wsX8_tear wsX8_isRow := goodIn_r _ [5, 6, 7, 8, 4, 9] (by decide +kernel) (by decide +kernel)
set_option maxRecDepth 20000 in
theorem gX8_tear_X8_isRow : GoodIn wsX8_tear (va_wsS RX8 87 yX8_isRow wsX8_isRow) := goodIn_app (goodIn_of _ (by decide +kernel)) ggX8_tear_X8_isRow
set_option maxRecDepth 20000 in
theorem ggX8_tear_X8_find : GoodIn wsX8_tear wsX8_find := goodIn_r _ [13, 14, 15, 16, 17, 18, 19, 20, 21, 22, 23, 24, 25, 26, 27, 28, 29, 30, 31, 32, 33, 34, 35, 36, 37, 38, 39, 40, 41, 42, 43, 44, 45, 46, 47, 48] (by decide +kernel) (by decide +kernel)
set_option maxRecDepth 20000 in
theorem gX8_tear_X8_find : GoodIn wsX8_tear (wsV RX8 91 RX8 yX8_find wsX8_find) := goodIn_app (goodIn_of _ (by decide +kernel)) ggX8_tear_X8_find
theorem dX8_tear_0 : decode cX8_tear 0 = .ok (.iload_n 1, 1) := by decide +kernel
theorem dX8_tear_1 : decode cX8_tear 1 = .ok (.invokestatic 87, 3) := by decide +kernel
theorem dX8_tear_4 : decode cX8_tear 4 = .ok (.ifCond .ne 5, 3) := by decide +kernel
theorem dX8_tear_7 : decode cX8_tear 7 = .ok (.iconst (-1), 1) := by decide +kernel
theorem dX8_tear_8 : decode cX8_tear 8 = .ok (.ireturn, 1) := by decide +kernel
theorem dX8_tear_9 : decode cX8_tear 9 = .ok (.aload_n 0, 1) := by decide +kernel
theorem dX8_tear_10 : decode cX8_tear 10 = .ok (.getfield 25, 3) := by decide +kernel
theorem dX8_tear_13 : decode cX8_tear 13 = .ok (.iload_n 1, 1) := by decide +kernel
theorem dX8_tear_14 : decode cX8_tear 14 = .ok (.iaload, 1) := by decide +kernel
theorem dX8_tear_15 : decode cX8_tear 15 = .ok (.ifCond .ge 9, 3) := by decide +kernel
theorem dX8_tear_18 : decode cX8_tear 18 = .ok (.aload_n 0, 1) := by decide +kernel
theorem dX8_tear_19 : decode cX8_tear 19 = .ok (.iconst 1, 1) := by decide +kernel
theorem dX8_tear_20 : decode cX8_tear 20 = .ok (.invokevirtual 91, 3) := by decide +kernel
theorem dX8_tear_23 : decode cX8_tear 23 = .ok (.ireturn, 1) := by decide +kernel
theorem dX8_tear_24 : decode cX8_tear 24 = .ok (.aload_n 0, 1) := by decide +kernel
theorem dX8_tear_25 : decode cX8_tear 25 = .ok (.getfield 25, 3) := by decide +kernel
theorem dX8_tear_28 : decode cX8_tear 28 = .ok (.iload_n 1, 1) := by decide +kernel
theorem dX8_tear_29 : decode cX8_tear 29 = .ok (.iconst (-1), 1) := by decide +kernel
theorem dX8_tear_30 : decode cX8_tear 30 = .ok (.iastore, 1) := by decide +kernel
theorem dX8_tear_31 : decode cX8_tear 31 = .ok (.iconst 1, 1) := by decide +kernel
theorem dX8_tear_32 : decode cX8_tear 32 = .ok (.ireturn, 1) := by decide +kernel
theorem dX8_isSpan_0 : decode cX8_isSpan 0 = .ok (.iload_n 2, 1) := by decide +kernel
theorem dX8_isSpan_1 : decode cX8_isSpan 1 = .ok (.ifCond .lt 23, 3) := by decide +kernel
theorem dX8_isSpan_4 : decode cX8_isSpan 4 = .ok (.iload_n 2, 1) := by decide +kernel
theorem dX8_isSpan_5 : decode cX8_isSpan 5 = .ok (.i2l, 1) := by decide +kernel
theorem dX8_isSpan_6 : decode cX8_isSpan 6 = .ok (.iload_n 3, 1) := by decide +kernel
theorem dX8_isSpan_7 : decode cX8_isSpan 7 = .ok (.i2l, 1) := by decide +kernel
theorem dX8_isSpan_8 : decode cX8_isSpan 8 = .ok (.ladd, 1) := by decide +kernel
theorem dX8_isSpan_9 : decode cX8_isSpan 9 = .ok (.aload_n 0, 1) := by decide +kernel
theorem dX8_isSpan_10 : decode cX8_isSpan 10 = .ok (.getfield 25, 3) := by decide +kernel
theorem dX8_isSpan_13 : decode cX8_isSpan 13 = .ok (.iload_n 1, 1) := by decide +kernel
theorem dX8_isSpan_14 : decode cX8_isSpan 14 = .ok (.iaload, 1) := by decide +kernel
theorem dX8_isSpan_15 : decode cX8_isSpan 15 = .ok (.i2l, 1) := by decide +kernel
theorem dX8_isSpan_16 : decode cX8_isSpan 16 = .ok (.lcmp, 1) := by decide +kernel
theorem dX8_isSpan_17 : decode cX8_isSpan 17 = .ok (.ifCond .gt 7, 3) := by decide +kernel
theorem dX8_isSpan_20 : decode cX8_isSpan 20 = .ok (.iconst 1, 1) := by decide +kernel
theorem dX8_isSpan_21 : decode cX8_isSpan 21 = .ok (.goto 4, 3) := by decide +kernel
theorem dX8_isSpan_24 : decode cX8_isSpan 24 = .ok (.iconst 0, 1) := by decide +kernel
theorem dX8_isSpan_25 : decode cX8_isSpan 25 = .ok (.ireturn, 1) := by decide +kernel
set_option maxRecDepth 20000 in
theorem ggX8_copy_X8_isRow : GoodIn wsX8_copy wsX8_isRow := goodIn_r _ [6, 7, 8, 9, 5, 10] (by decide +kernel) (by decide +kernel)
set_option maxRecDepth 20000 in
theorem gX8_copy_X8_isRow : GoodIn wsX8_copy (va_wsS RX8 87 yX8_isRow wsX8_isRow) := goodIn_app (goodIn_of _ (by decide +kernel)) ggX8_copy_X8_isRow
set_option maxRecDepth 20000 in
theorem ggX8_copy_X8_find : GoodIn wsX8_copy wsX8_find := goodIn_r _ [14, 15, 16, 21, 22, 23, 24, 25, 26, 27, 28, 29, 30, 31, 32, 33, 34, 35, 36, 37, 38, 39, 40, 41, 42, 43, 44, 45, 46, 47, 48, 49, 50, 51, 52, 53] (by decide +kernel) (by decide +kernel)
set_option maxRecDepth 20000 in
theorem gX8_copy_X8_find : GoodIn wsX8_copy (wsV RX8 91 RX8 yX8_find wsX8_find) := goodIn_app (goodIn_of _ (by decide +kernel)) ggX8_copy_X8_find
set_option maxRecDepth 20000 in
theorem ggX8_copy_X8_isSpan : GoodIn wsX8_copy wsX8_isSpan := goodIn_r _ [20, 1, 21, 22, 23, 24, 25, 26, 27, 28, 29, 30, 31, 32, 33, 34, 35, 36, 37, 38, 39, 40, 41, 42, 43, 44, 45, 46, 47, 48, 49, 50, 51, 52, 53] (by decide +kernel) (by decide +kernel)
set_option maxRecDepth 20000 in
theorem gX8_copy_X8_isSpan : GoodIn wsX8_copy (wsV RX8 106 RX8 yX8_isSpan wsX8_isSpan) := goodIn_app (goodIn_of _ (by decide +kernel)) ggX8_copy_X8_isSpan
theorem dX8_copy_0 : decode cX8_copy 0 = .ok (.iload_n 1, 1) := by decide +kernel
theorem dX8_copy_1 : decode cX8_copy 1 = .ok (.invokestatic 87, 3) := by decide +kernel
theorem dX8_copy_4 : decode cX8_copy 4 = .ok (.ifCond .eq 10, 3) := by decide +kernel
theorem dX8_copy_7 : decode cX8_copy 7 = .ok (.iload_n 3, 1) := by decide +kernel
theorem dX8_copy_8 : decode cX8_copy 8 = .ok (.invokestatic 87, 3) := by decide +kernel
theorem dX8_copy_11 : decode cX8_copy 11 = .ok (.ifCond .ne 5, 3) := by decide +kernel
theorem dX8_copy_14 : decode cX8_copy 14 = .ok (.iconst (-1), 1) := by decide +kernel
theorem dX8_copy_15 : decode cX8_copy 15 = .ok (.ireturn, 1) := by decide +kernel
theorem dX8_copy_16 : decode cX8_copy 16 = .ok (.iload 5, 2) := by decide +kernel
theorem dX8_copy_18 : decode cX8_copy 18 = .ok (.ifCond .ge 9, 3) := by decide +kernel
theorem dX8_copy_21 : decode cX8_copy 21 = .ok (.aload_n 0, 1) := by decide +kernel
theorem dX8_copy_22 : decode cX8_copy 22 = .ok (.iconst 5, 1) := by decide +kernel
theorem dX8_copy_23 : decode cX8_copy 23 = .ok (.invokevirtual 91, 3) := by decide +kernel
theorem dX8_copy_26 : decode cX8_copy 26 = .ok (.ireturn, 1) := by decide +kernel
theorem dX8_copy_27 : decode cX8_copy 27 = .ok (.aload_n 0, 1) := by decide +kernel
theorem dX8_copy_28 : decode cX8_copy 28 = .ok (.getfield 25, 3) := by decide +kernel
theorem dX8_copy_31 : decode cX8_copy 31 = .ok (.iload_n 1, 1) := by decide +kernel
theorem dX8_copy_32 : decode cX8_copy 32 = .ok (.iaload, 1) := by decide +kernel
theorem dX8_copy_33 : decode cX8_copy 33 = .ok (.ifCond .lt 12, 3) := by decide +kernel
theorem dX8_copy_36 : decode cX8_copy 36 = .ok (.aload_n 0, 1) := by decide +kernel
theorem dX8_copy_37 : decode cX8_copy 37 = .ok (.getfield 25, 3) := by decide +kernel
theorem dX8_copy_40 : decode cX8_copy 40 = .ok (.iload_n 3, 1) := by decide +kernel
theorem dX8_copy_41 : decode cX8_copy 41 = .ok (.iaload, 1) := by decide +kernel
theorem dX8_copy_42 : decode cX8_copy 42 = .ok (.ifCond .ge 9, 3) := by decide +kernel
theorem dX8_copy_45 : decode cX8_copy 45 = .ok (.aload_n 0, 1) := by decide +kernel
theorem dX8_copy_46 : decode cX8_copy 46 = .ok (.iconst 1, 1) := by decide +kernel
theorem dX8_copy_47 : decode cX8_copy 47 = .ok (.invokevirtual 91, 3) := by decide +kernel
theorem dX8_copy_50 : decode cX8_copy 50 = .ok (.ireturn, 1) := by decide +kernel
theorem dX8_copy_51 : decode cX8_copy 51 = .ok (.aload_n 0, 1) := by decide +kernel
theorem dX8_copy_52 : decode cX8_copy 52 = .ok (.iload_n 1, 1) := by decide +kernel
theorem dX8_copy_53 : decode cX8_copy 53 = .ok (.iload_n 2, 1) := by decide +kernel
theorem dX8_copy_54 : decode cX8_copy 54 = .ok (.iload 5, 2) := by decide +kernel
theorem dX8_copy_56 : decode cX8_copy 56 = .ok (.invokevirtual 106, 3) := by decide +kernel
theorem dX8_copy_59 : decode cX8_copy 59 = .ok (.ifCond .eq 15, 3) := by decide +kernel
theorem dX8_copy_62 : decode cX8_copy 62 = .ok (.aload_n 0, 1) := by decide +kernel
theorem dX8_copy_63 : decode cX8_copy 63 = .ok (.iload_n 3, 1) := by decide +kernel
theorem dX8_copy_64 : decode cX8_copy 64 = .ok (.iload 4, 2) := by decide +kernel
theorem dX8_copy_66 : decode cX8_copy 66 = .ok (.iload 5, 2) := by decide +kernel
theorem dX8_copy_68 : decode cX8_copy 68 = .ok (.invokevirtual 106, 3) := by decide +kernel
theorem dX8_copy_71 : decode cX8_copy 71 = .ok (.ifCond .ne 9, 3) := by decide +kernel
theorem dX8_copy_74 : decode cX8_copy 74 = .ok (.aload_n 0, 1) := by decide +kernel
theorem dX8_copy_75 : decode cX8_copy 75 = .ok (.iconst 2, 1) := by decide +kernel
theorem dX8_copy_76 : decode cX8_copy 76 = .ok (.invokevirtual 91, 3) := by decide +kernel
theorem dX8_copy_79 : decode cX8_copy 79 = .ok (.ireturn, 1) := by decide +kernel
theorem dX8_copy_80 : decode cX8_copy 80 = .ok (.iload_n 2, 1) := by decide +kernel
theorem dX8_copy_81 : decode cX8_copy 81 = .ok (.iload 4, 2) := by decide +kernel
theorem dX8_copy_83 : decode cX8_copy 83 = .ok (.if_icmp .ge 7, 3) := by decide +kernel
theorem dX8_copy_86 : decode cX8_copy 86 = .ok (.iconst 1, 1) := by decide +kernel
theorem dX8_copy_87 : decode cX8_copy 87 = .ok (.goto 4, 3) := by decide +kernel
theorem dX8_copy_90 : decode cX8_copy 90 = .ok (.iconst 0, 1) := by decide +kernel
theorem dX8_copy_91 : decode cX8_copy 91 = .ok (.istore 6, 2) := by decide +kernel
theorem dX8_copy_93 : decode cX8_copy 93 = .ok (.iconst 0, 1) := by decide +kernel
theorem dX8_copy_94 : decode cX8_copy 94 = .ok (.istore 7, 2) := by decide +kernel
theorem dX8_copy_96 : decode cX8_copy 96 = .ok (.iload 7, 2) := by decide +kernel
theorem dX8_copy_98 : decode cX8_copy 98 = .ok (.iload 5, 2) := by decide +kernel
theorem dX8_copy_100 : decode cX8_copy 100 = .ok (.if_icmp .ge 57, 3) := by decide +kernel
theorem dX8_copy_103 : decode cX8_copy 103 = .ok (.iload 6, 2) := by decide +kernel
theorem dX8_copy_105 : decode cX8_copy 105 = .ok (.ifCond .eq 13, 3) := by decide +kernel
theorem dX8_copy_108 : decode cX8_copy 108 = .ok (.iload 5, 2) := by decide +kernel
theorem dX8_copy_110 : decode cX8_copy 110 = .ok (.iconst 1, 1) := by decide +kernel
theorem dX8_copy_111 : decode cX8_copy 111 = .ok (.isub, 1) := by decide +kernel
theorem dX8_copy_112 : decode cX8_copy 112 = .ok (.iload 7, 2) := by decide +kernel
theorem dX8_copy_114 : decode cX8_copy 114 = .ok (.isub, 1) := by decide +kernel
theorem dX8_copy_115 : decode cX8_copy 115 = .ok (.goto 5, 3) := by decide +kernel
theorem dX8_copy_118 : decode cX8_copy 118 = .ok (.iload 7, 2) := by decide +kernel
theorem dX8_copy_120 : decode cX8_copy 120 = .ok (.istore 8, 2) := by decide +kernel
theorem dX8_copy_122 : decode cX8_copy 122 = .ok (.aload_n 0, 1) := by decide +kernel
theorem dX8_copy_123 : decode cX8_copy 123 = .ok (.getfield 28, 3) := by decide +kernel
theorem dX8_copy_126 : decode cX8_copy 126 = .ok (.bipush 40, 2) := by decide +kernel
theorem dX8_copy_128 : decode cX8_copy 128 = .ok (.iload_n 3, 1) := by decide +kernel
theorem dX8_copy_129 : decode cX8_copy 129 = .ok (.imul, 1) := by decide +kernel
theorem dX8_copy_130 : decode cX8_copy 130 = .ok (.iload 4, 2) := by decide +kernel
theorem dX8_copy_132 : decode cX8_copy 132 = .ok (.iadd, 1) := by decide +kernel
theorem dX8_copy_133 : decode cX8_copy 133 = .ok (.iload 8, 2) := by decide +kernel
theorem dX8_copy_135 : decode cX8_copy 135 = .ok (.iadd, 1) := by decide +kernel
theorem dX8_copy_136 : decode cX8_copy 136 = .ok (.aload_n 0, 1) := by decide +kernel
theorem dX8_copy_137 : decode cX8_copy 137 = .ok (.getfield 28, 3) := by decide +kernel
theorem dX8_copy_140 : decode cX8_copy 140 = .ok (.bipush 40, 2) := by decide +kernel
theorem dX8_copy_142 : decode cX8_copy 142 = .ok (.iload_n 1, 1) := by decide +kernel
theorem dX8_copy_143 : decode cX8_copy 143 = .ok (.imul, 1) := by decide +kernel
theorem dX8_copy_144 : decode cX8_copy 144 = .ok (.iload_n 2, 1) := by decide +kernel
theorem dX8_copy_145 : decode cX8_copy 145 = .ok (.iadd, 1) := by decide +kernel
theorem dX8_copy_146 : decode cX8_copy 146 = .ok (.iload 8, 2) := by decide +kernel
theorem dX8_copy_148 : decode cX8_copy 148 = .ok (.iadd, 1) := by decide +kernel
theorem dX8_copy_149 : decode cX8_copy 149 = .ok (.iaload, 1) := by decide +kernel
theorem dX8_copy_150 : decode cX8_copy 150 = .ok (.iastore, 1) := by decide +kernel
theorem dX8_copy_151 : decode cX8_copy 151 = .ok (.iinc 7 1, 3) := by decide +kernel
theorem dX8_copy_154 : decode cX8_copy 154 = .ok (.goto (-58), 3) := by decide +kernel
theorem dX8_copy_157 : decode cX8_copy 157 = .ok (.iconst 1, 1) := by decide +kernel
theorem dX8_copy_158 : decode cX8_copy 158 = .ok (.ireturn, 1) := by decide +kernel
set_option maxRecDepth 20000 in
theorem ggX8_mean_X8_isRow : GoodIn wsX8_mean wsX8_isRow := goodIn_r _ [6, 7, 8, 9, 5, 10] (by decide +kernel) (by decide +kernel)
set_option maxRecDepth 20000 in
theorem gX8_mean_X8_isRow : GoodIn wsX8_mean (va_wsS RX8 87 yX8_isRow wsX8_isRow) := goodIn_app (goodIn_of _ (by decide +kernel)) ggX8_mean_X8_isRow
set_option maxRecDepth 20000 in
theorem ggX8_mean_X8_find : GoodIn wsX8_mean wsX8_find := goodIn_r _ [14, 15, 16, 22, 23, 24, 25, 26, 27, 28, 29, 30, 31, 32, 33, 34, 35, 36, 37, 38, 39, 40, 41, 42, 43, 44, 45, 46, 47, 48, 49, 50, 51, 52, 53, 54] (by decide +kernel) (by decide +kernel)
set_option maxRecDepth 20000 in
theorem gX8_mean_X8_find : GoodIn wsX8_mean (wsV RX8 91 RX8 yX8_find wsX8_find) := goodIn_app (goodIn_of _ (by decide +kernel)) ggX8_mean_X8_find
set_option maxRecDepth 20000 in
theorem ggX8_mean_X8_tell : GoodIn wsX8_mean wsX8_tell := goodIn_r _ [20, 21, 22, 23, 24, 25, 26, 27, 28, 29, 30, 31, 32, 33, 34, 35, 36, 37, 38, 39, 40, 41, 42, 43, 44, 45, 46, 47, 48, 49, 50, 51, 52, 53, 54] (by decide +kernel) (by decide +kernel)
set_option maxRecDepth 20000 in
theorem gX8_mean_X8_tell : GoodIn wsX8_mean (wsV RX8 103 RX8 yX8_tell wsX8_tell) := goodIn_app (goodIn_of _ (by decide +kernel)) ggX8_mean_X8_tell
theorem dX8_mean_0 : decode cX8_mean 0 = .ok (.iload_n 1, 1) := by decide +kernel
theorem dX8_mean_1 : decode cX8_mean 1 = .ok (.invokestatic 87, 3) := by decide +kernel
theorem dX8_mean_4 : decode cX8_mean 4 = .ok (.ifCond .ne 5, 3) := by decide +kernel
theorem dX8_mean_7 : decode cX8_mean 7 = .ok (.iconst (-1), 1) := by decide +kernel
theorem dX8_mean_8 : decode cX8_mean 8 = .ok (.ireturn, 1) := by decide +kernel
theorem dX8_mean_9 : decode cX8_mean 9 = .ok (.aload_n 0, 1) := by decide +kernel
theorem dX8_mean_10 : decode cX8_mean 10 = .ok (.getfield 25, 3) := by decide +kernel
theorem dX8_mean_13 : decode cX8_mean 13 = .ok (.iload_n 1, 1) := by decide +kernel
theorem dX8_mean_14 : decode cX8_mean 14 = .ok (.iaload, 1) := by decide +kernel
theorem dX8_mean_15 : decode cX8_mean 15 = .ok (.ifCond .ge 9, 3) := by decide +kernel
theorem dX8_mean_18 : decode cX8_mean 18 = .ok (.aload_n 0, 1) := by decide +kernel
theorem dX8_mean_19 : decode cX8_mean 19 = .ok (.iconst 1, 1) := by decide +kernel
theorem dX8_mean_20 : decode cX8_mean 20 = .ok (.invokevirtual 91, 3) := by decide +kernel
theorem dX8_mean_23 : decode cX8_mean 23 = .ok (.ireturn, 1) := by decide +kernel
theorem dX8_mean_24 : decode cX8_mean 24 = .ok (.aload_n 0, 1) := by decide +kernel
theorem dX8_mean_25 : decode cX8_mean 25 = .ok (.getfield 25, 3) := by decide +kernel
theorem dX8_mean_28 : decode cX8_mean 28 = .ok (.iload_n 1, 1) := by decide +kernel
theorem dX8_mean_29 : decode cX8_mean 29 = .ok (.iaload, 1) := by decide +kernel
theorem dX8_mean_30 : decode cX8_mean 30 = .ok (.ifCond .ne 9, 3) := by decide +kernel
theorem dX8_mean_33 : decode cX8_mean 33 = .ok (.aload_n 0, 1) := by decide +kernel
theorem dX8_mean_34 : decode cX8_mean 34 = .ok (.iconst 4, 1) := by decide +kernel
theorem dX8_mean_35 : decode cX8_mean 35 = .ok (.invokevirtual 91, 3) := by decide +kernel
theorem dX8_mean_38 : decode cX8_mean 38 = .ok (.ireturn, 1) := by decide +kernel
theorem dX8_mean_39 : decode cX8_mean 39 = .ok (.lconst 0, 1) := by decide +kernel
theorem dX8_mean_40 : decode cX8_mean 40 = .ok (.lstore_n 2, 1) := by decide +kernel
theorem dX8_mean_41 : decode cX8_mean 41 = .ok (.iconst 0, 1) := by decide +kernel
theorem dX8_mean_42 : decode cX8_mean 42 = .ok (.istore 4, 2) := by decide +kernel
theorem dX8_mean_44 : decode cX8_mean 44 = .ok (.iload 4, 2) := by decide +kernel
theorem dX8_mean_46 : decode cX8_mean 46 = .ok (.aload_n 0, 1) := by decide +kernel
theorem dX8_mean_47 : decode cX8_mean 47 = .ok (.getfield 25, 3) := by decide +kernel
theorem dX8_mean_50 : decode cX8_mean 50 = .ok (.iload_n 1, 1) := by decide +kernel
theorem dX8_mean_51 : decode cX8_mean 51 = .ok (.iaload, 1) := by decide +kernel
theorem dX8_mean_52 : decode cX8_mean 52 = .ok (.if_icmp .ge 25, 3) := by decide +kernel
theorem dX8_mean_55 : decode cX8_mean 55 = .ok (.lload_n 2, 1) := by decide +kernel
theorem dX8_mean_56 : decode cX8_mean 56 = .ok (.aload_n 0, 1) := by decide +kernel
theorem dX8_mean_57 : decode cX8_mean 57 = .ok (.getfield 28, 3) := by decide +kernel
theorem dX8_mean_60 : decode cX8_mean 60 = .ok (.bipush 40, 2) := by decide +kernel
theorem dX8_mean_62 : decode cX8_mean 62 = .ok (.iload_n 1, 1) := by decide +kernel
theorem dX8_mean_63 : decode cX8_mean 63 = .ok (.imul, 1) := by decide +kernel
theorem dX8_mean_64 : decode cX8_mean 64 = .ok (.iload 4, 2) := by decide +kernel
theorem dX8_mean_66 : decode cX8_mean 66 = .ok (.iadd, 1) := by decide +kernel
theorem dX8_mean_67 : decode cX8_mean 67 = .ok (.iaload, 1) := by decide +kernel
theorem dX8_mean_68 : decode cX8_mean 68 = .ok (.i2l, 1) := by decide +kernel
theorem dX8_mean_69 : decode cX8_mean 69 = .ok (.ladd, 1) := by decide +kernel
theorem dX8_mean_70 : decode cX8_mean 70 = .ok (.lstore_n 2, 1) := by decide +kernel
theorem dX8_mean_71 : decode cX8_mean 71 = .ok (.iinc 4 1, 3) := by decide +kernel
theorem dX8_mean_74 : decode cX8_mean 74 = .ok (.goto (-30), 3) := by decide +kernel
theorem dX8_mean_77 : decode cX8_mean 77 = .ok (.aload_n 0, 1) := by decide +kernel
theorem dX8_mean_78 : decode cX8_mean 78 = .ok (.lload_n 2, 1) := by decide +kernel
theorem dX8_mean_79 : decode cX8_mean 79 = .ok (.aload_n 0, 1) := by decide +kernel
theorem dX8_mean_80 : decode cX8_mean 80 = .ok (.getfield 25, 3) := by decide +kernel
theorem dX8_mean_83 : decode cX8_mean 83 = .ok (.iload_n 1, 1) := by decide +kernel
theorem dX8_mean_84 : decode cX8_mean 84 = .ok (.iaload, 1) := by decide +kernel
theorem dX8_mean_85 : decode cX8_mean 85 = .ok (.i2l, 1) := by decide +kernel
theorem dX8_mean_86 : decode cX8_mean 86 = .ok (.ldiv, 1) := by decide +kernel
theorem dX8_mean_87 : decode cX8_mean 87 = .ok (.l2i, 1) := by decide +kernel
theorem dX8_mean_88 : decode cX8_mean 88 = .ok (.invokevirtual 103, 3) := by decide +kernel
theorem dX8_mean_91 : decode cX8_mean 91 = .ok (.ireturn, 1) := by decide +kernel
set_option maxRecDepth 20000 in
theorem ggX8_text_X8_isText : GoodIn wsX8_text wsX8_isText := goodIn_r _ [6, 7, 8, 9, 5, 10] (by decide +kernel) (by decide +kernel)
set_option maxRecDepth 20000 in
theorem gX8_text_X8_isText : GoodIn wsX8_text (va_wsS RX8 110 yX8_isText wsX8_isText) := goodIn_app (goodIn_of _ (by decide +kernel)) ggX8_text_X8_isText
set_option maxRecDepth 20000 in
theorem ggX8_text_X8_find : GoodIn wsX8_text wsX8_find := goodIn_r _ [14, 15, 16, 17, 18, 19, 20, 21, 22, 23, 24, 25, 26, 27, 28, 29, 30, 31, 32, 33, 34, 35, 36, 37, 38, 39, 40, 41, 42, 43, 44, 45, 46, 47, 48, 49] (by decide +kernel) (by decide +kernel)
set_option maxRecDepth 20000 in
theorem gX8_text_X8_find : GoodIn wsX8_text (wsV RX8 91 RX8 yX8_find wsX8_find) := goodIn_app (goodIn_of _ (by decide +kernel)) ggX8_text_X8_find
theorem dX8_text_0 : decode cX8_text 0 = .ok (.iload_n 1, 1) := by decide +kernel
theorem dX8_text_1 : decode cX8_text 1 = .ok (.invokestatic 110, 3) := by decide +kernel
theorem dX8_text_4 : decode cX8_text 4 = .ok (.ifCond .eq 9, 3) := by decide +kernel
theorem dX8_text_7 : decode cX8_text 7 = .ok (.iload_n 2, 1) := by decide +kernel
theorem dX8_text_8 : decode cX8_text 8 = .ok (.bipush 60, 2) := by decide +kernel
theorem dX8_text_10 : decode cX8_text 10 = .ok (.if_icmp .le 5, 3) := by decide +kernel
theorem dX8_text_13 : decode cX8_text 13 = .ok (.iconst (-1), 1) := by decide +kernel
theorem dX8_text_14 : decode cX8_text 14 = .ok (.ireturn, 1) := by decide +kernel
theorem dX8_text_15 : decode cX8_text 15 = .ok (.iload_n 2, 1) := by decide +kernel
theorem dX8_text_16 : decode cX8_text 16 = .ok (.ifCond .ge 9, 3) := by decide +kernel
theorem dX8_text_19 : decode cX8_text 19 = .ok (.aload_n 0, 1) := by decide +kernel
theorem dX8_text_20 : decode cX8_text 20 = .ok (.iconst 5, 1) := by decide +kernel
theorem dX8_text_21 : decode cX8_text 21 = .ok (.invokevirtual 91, 3) := by decide +kernel
theorem dX8_text_24 : decode cX8_text 24 = .ok (.ireturn, 1) := by decide +kernel
theorem dX8_text_25 : decode cX8_text 25 = .ok (.aload_n 0, 1) := by decide +kernel
theorem dX8_text_26 : decode cX8_text 26 = .ok (.getfield 31, 3) := by decide +kernel
theorem dX8_text_29 : decode cX8_text 29 = .ok (.iload_n 1, 1) := by decide +kernel
theorem dX8_text_30 : decode cX8_text 30 = .ok (.iload_n 2, 1) := by decide +kernel
theorem dX8_text_31 : decode cX8_text 31 = .ok (.iastore, 1) := by decide +kernel
theorem dX8_text_32 : decode cX8_text 32 = .ok (.iconst 0, 1) := by decide +kernel
theorem dX8_text_33 : decode cX8_text 33 = .ok (.istore_n 3, 1) := by decide +kernel
theorem dX8_text_34 : decode cX8_text 34 = .ok (.iload_n 3, 1) := by decide +kernel
theorem dX8_text_35 : decode cX8_text 35 = .ok (.bipush 60, 2) := by decide +kernel
theorem dX8_text_37 : decode cX8_text 37 = .ok (.if_icmp .ge 22, 3) := by decide +kernel
theorem dX8_text_40 : decode cX8_text 40 = .ok (.aload_n 0, 1) := by decide +kernel
theorem dX8_text_41 : decode cX8_text 41 = .ok (.getfield 34, 3) := by decide +kernel
theorem dX8_text_44 : decode cX8_text 44 = .ok (.bipush 60, 2) := by decide +kernel
theorem dX8_text_46 : decode cX8_text 46 = .ok (.iload_n 1, 1) := by decide +kernel
theorem dX8_text_47 : decode cX8_text 47 = .ok (.imul, 1) := by decide +kernel
theorem dX8_text_48 : decode cX8_text 48 = .ok (.iload_n 3, 1) := by decide +kernel
theorem dX8_text_49 : decode cX8_text 49 = .ok (.iadd, 1) := by decide +kernel
theorem dX8_text_50 : decode cX8_text 50 = .ok (.bipush 32, 2) := by decide +kernel
theorem dX8_text_52 : decode cX8_text 52 = .ok (.iastore, 1) := by decide +kernel
theorem dX8_text_53 : decode cX8_text 53 = .ok (.iinc 3 1, 3) := by decide +kernel
theorem dX8_text_56 : decode cX8_text 56 = .ok (.goto (-22), 3) := by decide +kernel
theorem dX8_text_59 : decode cX8_text 59 = .ok (.iload_n 2, 1) := by decide +kernel
theorem dX8_text_60 : decode cX8_text 60 = .ok (.ireturn, 1) := by decide +kernel
set_option maxRecDepth 20000 in
theorem ggX8_put_X8_isText : GoodIn wsX8_put wsX8_isText := goodIn_r _ [6, 7, 8, 9, 5, 10] (by decide +kernel) (by decide +kernel)
set_option maxRecDepth 20000 in
theorem gX8_put_X8_isText : GoodIn wsX8_put (va_wsS RX8 110 yX8_isText wsX8_isText) := goodIn_app (goodIn_of _ (by decide +kernel)) ggX8_put_X8_isText
set_option maxRecDepth 20000 in
theorem ggX8_put_X8_find : GoodIn wsX8_put wsX8_find := goodIn_r _ [14, 15, 16, 17, 18, 19, 20, 21, 22, 23, 24, 25, 26, 27, 28, 29, 30, 31, 32, 33, 34, 35, 36, 37, 38, 39, 40, 41, 42, 43, 44, 45, 46, 47, 48, 49] (by decide +kernel) (by decide +kernel)
set_option maxRecDepth 20000 in
theorem gX8_put_X8_find : GoodIn wsX8_put (wsV RX8 91 RX8 yX8_find wsX8_find) := goodIn_app (goodIn_of _ (by decide +kernel)) ggX8_put_X8_find
set_option maxRecDepth 20000 in
theorem ggX8_put_X8_in : GoodIn wsX8_put wsX8_in := goodIn_r _ [10] (by decide +kernel) (by decide +kernel)
set_option maxRecDepth 20000 in
theorem gX8_put_X8_in : GoodIn wsX8_put (va_wsS RX8 81 yX8_in wsX8_in) := goodIn_app (goodIn_of _ (by decide +kernel)) ggX8_put_X8_in
theorem dX8_put_0 : decode cX8_put 0 = .ok (.iload_n 1, 1) := by decide +kernel
theorem dX8_put_1 : decode cX8_put 1 = .ok (.invokestatic 110, 3) := by decide +kernel
theorem dX8_put_4 : decode cX8_put 4 = .ok (.ifCond .ne 5, 3) := by decide +kernel
theorem dX8_put_7 : decode cX8_put 7 = .ok (.iconst (-1), 1) := by decide +kernel
theorem dX8_put_8 : decode cX8_put 8 = .ok (.ireturn, 1) := by decide +kernel
theorem dX8_put_9 : decode cX8_put 9 = .ok (.aload_n 0, 1) := by decide +kernel
theorem dX8_put_10 : decode cX8_put 10 = .ok (.getfield 31, 3) := by decide +kernel
theorem dX8_put_13 : decode cX8_put 13 = .ok (.iload_n 1, 1) := by decide +kernel
theorem dX8_put_14 : decode cX8_put 14 = .ok (.iaload, 1) := by decide +kernel
theorem dX8_put_15 : decode cX8_put 15 = .ok (.ifCond .ge 9, 3) := by decide +kernel
theorem dX8_put_18 : decode cX8_put 18 = .ok (.aload_n 0, 1) := by decide +kernel
theorem dX8_put_19 : decode cX8_put 19 = .ok (.iconst 1, 1) := by decide +kernel
theorem dX8_put_20 : decode cX8_put 20 = .ok (.invokevirtual 91, 3) := by decide +kernel
theorem dX8_put_23 : decode cX8_put 23 = .ok (.ireturn, 1) := by decide +kernel
theorem dX8_put_24 : decode cX8_put 24 = .ok (.iload_n 2, 1) := by decide +kernel
theorem dX8_put_25 : decode cX8_put 25 = .ok (.i2l, 1) := by decide +kernel
theorem dX8_put_26 : decode cX8_put 26 = .ok (.lconst 0, 1) := by decide +kernel
theorem dX8_put_27 : decode cX8_put 27 = .ok (.aload_n 0, 1) := by decide +kernel
theorem dX8_put_28 : decode cX8_put 28 = .ok (.getfield 31, 3) := by decide +kernel
theorem dX8_put_31 : decode cX8_put 31 = .ok (.iload_n 1, 1) := by decide +kernel
theorem dX8_put_32 : decode cX8_put 32 = .ok (.iaload, 1) := by decide +kernel
theorem dX8_put_33 : decode cX8_put 33 = .ok (.iconst 1, 1) := by decide +kernel
theorem dX8_put_34 : decode cX8_put 34 = .ok (.isub, 1) := by decide +kernel
theorem dX8_put_35 : decode cX8_put 35 = .ok (.i2l, 1) := by decide +kernel
theorem dX8_put_36 : decode cX8_put 36 = .ok (.invokestatic 81, 3) := by decide +kernel
theorem dX8_put_39 : decode cX8_put 39 = .ok (.ifCond .ne 9, 3) := by decide +kernel
theorem dX8_put_42 : decode cX8_put 42 = .ok (.aload_n 0, 1) := by decide +kernel
theorem dX8_put_43 : decode cX8_put 43 = .ok (.iconst 2, 1) := by decide +kernel
theorem dX8_put_44 : decode cX8_put 44 = .ok (.invokevirtual 91, 3) := by decide +kernel
theorem dX8_put_47 : decode cX8_put 47 = .ok (.ireturn, 1) := by decide +kernel
theorem dX8_put_48 : decode cX8_put 48 = .ok (.aload_n 0, 1) := by decide +kernel
theorem dX8_put_49 : decode cX8_put 49 = .ok (.getfield 34, 3) := by decide +kernel
theorem dX8_put_52 : decode cX8_put 52 = .ok (.bipush 60, 2) := by decide +kernel
theorem dX8_put_54 : decode cX8_put 54 = .ok (.iload_n 1, 1) := by decide +kernel
theorem dX8_put_55 : decode cX8_put 55 = .ok (.imul, 1) := by decide +kernel
theorem dX8_put_56 : decode cX8_put 56 = .ok (.iload_n 2, 1) := by decide +kernel
theorem dX8_put_57 : decode cX8_put 57 = .ok (.iadd, 1) := by decide +kernel
theorem dX8_put_58 : decode cX8_put 58 = .ok (.iaload, 1) := by decide +kernel
theorem dX8_put_59 : decode cX8_put 59 = .ok (.istore 4, 2) := by decide +kernel
theorem dX8_put_61 : decode cX8_put 61 = .ok (.aload_n 0, 1) := by decide +kernel
theorem dX8_put_62 : decode cX8_put 62 = .ok (.getfield 34, 3) := by decide +kernel
theorem dX8_put_65 : decode cX8_put 65 = .ok (.bipush 60, 2) := by decide +kernel
theorem dX8_put_67 : decode cX8_put 67 = .ok (.iload_n 1, 1) := by decide +kernel
theorem dX8_put_68 : decode cX8_put 68 = .ok (.imul, 1) := by decide +kernel
theorem dX8_put_69 : decode cX8_put 69 = .ok (.iload_n 2, 1) := by decide +kernel
theorem dX8_put_70 : decode cX8_put 70 = .ok (.iadd, 1) := by decide +kernel
theorem dX8_put_71 : decode cX8_put 71 = .ok (.iload_n 3, 1) := by decide +kernel
theorem dX8_put_72 : decode cX8_put 72 = .ok (.i2b, 1) := by decide +kernel
theorem dX8_put_73 : decode cX8_put 73 = .ok (.iastore, 1) := by decide +kernel
theorem dX8_put_74 : decode cX8_put 74 = .ok (.iload 4, 2) := by decide +kernel
theorem dX8_put_76 : decode cX8_put 76 = .ok (.sipush 1000, 3) := by decide +kernel
theorem dX8_put_79 : decode cX8_put 79 = .ok (.iadd, 1) := by decide +kernel
theorem dX8_put_80 : decode cX8_put 80 = .ok (.ireturn, 1) := by decide +kernel
theorem dX8_here_0 : decode cX8_here 0 = .ok (.aload_n 0, 1) := by decide +kernel
theorem dX8_here_1 : decode cX8_here 1 = .ok (.getfield 34, 3) := by decide +kernel
theorem dX8_here_4 : decode cX8_here 4 = .ok (.aload_n 0, 1) := by decide +kernel
theorem dX8_here_5 : decode cX8_here 5 = .ok (.getfield 113, 3) := by decide +kernel
theorem dX8_here_8 : decode cX8_here 8 = .ok (.aload_n 0, 1) := by decide +kernel
theorem dX8_here_9 : decode cX8_here 9 = .ok (.getfield 116, 3) := by decide +kernel
theorem dX8_here_12 : decode cX8_here 12 = .ok (.iadd, 1) := by decide +kernel
theorem dX8_here_13 : decode cX8_here 13 = .ok (.iaload, 1) := by decide +kernel
theorem dX8_here_14 : decode cX8_here 14 = .ok (.ireturn, 1) := by decide +kernel
set_option maxRecDepth 20000 in
theorem ggX8_skip_X8_here : GoodIn wsX8_skip wsX8_here := goodIn_r _ [7, 8, 9, 1, 10, 11, 12, 13, 14, 15, 16, 17, 18, 19, 20, 21, 22, 23, 24, 25, 26, 27, 28, 29, 30, 31, 32, 33, 34, 35, 36, 37, 38, 39, 40, 41, 42] (by decide +kernel) (by decide +kernel)
set_option maxRecDepth 20000 in
theorem gX8_skip_X8_here : GoodIn wsX8_skip (wsV RX8 122 RX8 yX8_here wsX8_here) := goodIn_app (goodIn_of _ (by decide +kernel)) ggX8_skip_X8_here
theorem dX8_skip_0 : decode cX8_skip 0 = .ok (.aload_n 0, 1) := by decide +kernel
theorem dX8_skip_1 : decode cX8_skip 1 = .ok (.getfield 116, 3) := by decide +kernel
theorem dX8_skip_4 : decode cX8_skip 4 = .ok (.aload_n 0, 1) := by decide +kernel
theorem dX8_skip_5 : decode cX8_skip 5 = .ok (.getfield 119, 3) := by decide +kernel
theorem dX8_skip_8 : decode cX8_skip 8 = .ok (.if_icmp .ge 25, 3) := by decide +kernel
theorem dX8_skip_11 : decode cX8_skip 11 = .ok (.aload_n 0, 1) := by decide +kernel
theorem dX8_skip_12 : decode cX8_skip 12 = .ok (.invokevirtual 122, 3) := by decide +kernel
theorem dX8_skip_15 : decode cX8_skip 15 = .ok (.bipush 32, 2) := by decide +kernel
theorem dX8_skip_17 : decode cX8_skip 17 = .ok (.if_icmp .ne 16, 3) := by decide +kernel
theorem dX8_skip_20 : decode cX8_skip 20 = .ok (.aload_n 0, 1) := by decide +kernel
theorem dX8_skip_21 : decode cX8_skip 21 = .ok (.dup, 1) := by decide +kernel
theorem dX8_skip_22 : decode cX8_skip 22 = .ok (.getfield 116, 3) := by decide +kernel
theorem dX8_skip_25 : decode cX8_skip 25 = .ok (.iconst 1, 1) := by decide +kernel
theorem dX8_skip_26 : decode cX8_skip 26 = .ok (.iadd, 1) := by decide +kernel
theorem dX8_skip_27 : decode cX8_skip 27 = .ok (.putfield 116, 3) := by decide +kernel
theorem dX8_skip_30 : decode cX8_skip 30 = .ok (.goto (-30), 3) := by decide +kernel
theorem dX8_skip_33 : decode cX8_skip 33 = .ok (.return_, 1) := by decide +kernel
set_option maxRecDepth 20000 in
theorem ggX8_isFigure_X8_here : GoodIn wsX8_isFigure wsX8_here := goodIn_r _ [7, 8, 9, 1, 13, 14, 15, 16, 17, 18, 19, 20, 21, 22, 23, 24, 25, 26, 27, 28, 29, 30, 31, 32, 33, 34, 35, 36, 37, 38, 39, 40, 41, 42, 43, 44, 45] (by decide +kernel) (by decide +kernel)
set_option maxRecDepth 20000 in
theorem gX8_isFigure_X8_here : GoodIn wsX8_isFigure (wsV RX8 122 RX8 yX8_here wsX8_here) := goodIn_app (goodIn_of _ (by decide +kernel)) ggX8_isFigure_X8_here
set_option maxRecDepth 20000 in
theorem ggX8_isFigure_X8_in : GoodIn wsX8_isFigure wsX8_in := goodIn_r _ [12] (by decide +kernel) (by decide +kernel)
set_option maxRecDepth 20000 in
theorem gX8_isFigure_X8_in : GoodIn wsX8_isFigure (va_wsS RX8 81 yX8_in wsX8_in) := goodIn_app (goodIn_of _ (by decide +kernel)) ggX8_isFigure_X8_in
theorem dX8_isFigure_0 : decode cX8_isFigure 0 = .ok (.aload_n 0, 1) := by decide +kernel
theorem dX8_isFigure_1 : decode cX8_isFigure 1 = .ok (.getfield 116, 3) := by decide +kernel
theorem dX8_isFigure_4 : decode cX8_isFigure 4 = .ok (.aload_n 0, 1) := by decide +kernel
theorem dX8_isFigure_5 : decode cX8_isFigure 5 = .ok (.getfield 119, 3) := by decide +kernel
theorem dX8_isFigure_8 : decode cX8_isFigure 8 = .ok (.if_icmp .ge 28, 3) := by decide +kernel
theorem dX8_isFigure_11 : decode cX8_isFigure 11 = .ok (.aload_n 0, 1) := by decide +kernel
theorem dX8_isFigure_12 : decode cX8_isFigure 12 = .ok (.invokevirtual 122, 3) := by decide +kernel
theorem dX8_isFigure_15 : decode cX8_isFigure 15 = .ok (.i2l, 1) := by decide +kernel
theorem dX8_isFigure_16 : decode cX8_isFigure 16 = .ok (.bipush 48, 2) := by decide +kernel
theorem dX8_isFigure_18 : decode cX8_isFigure 18 = .ok (.iload_n 1, 1) := by decide +kernel
theorem dX8_isFigure_19 : decode cX8_isFigure 19 = .ok (.iadd, 1) := by decide +kernel
theorem dX8_isFigure_20 : decode cX8_isFigure 20 = .ok (.i2l, 1) := by decide +kernel
theorem dX8_isFigure_21 : decode cX8_isFigure 21 = .ok (.bipush 48, 2) := by decide +kernel
theorem dX8_isFigure_23 : decode cX8_isFigure 23 = .ok (.iload_n 2, 1) := by decide +kernel
theorem dX8_isFigure_24 : decode cX8_isFigure 24 = .ok (.iadd, 1) := by decide +kernel
theorem dX8_isFigure_25 : decode cX8_isFigure 25 = .ok (.i2l, 1) := by decide +kernel
theorem dX8_isFigure_26 : decode cX8_isFigure 26 = .ok (.invokestatic 81, 3) := by decide +kernel
theorem dX8_isFigure_29 : decode cX8_isFigure 29 = .ok (.ifCond .eq 7, 3) := by decide +kernel
theorem dX8_isFigure_32 : decode cX8_isFigure 32 = .ok (.iconst 1, 1) := by decide +kernel
theorem dX8_isFigure_33 : decode cX8_isFigure 33 = .ok (.goto 4, 3) := by decide +kernel
theorem dX8_isFigure_36 : decode cX8_isFigure 36 = .ok (.iconst 0, 1) := by decide +kernel
theorem dX8_isFigure_37 : decode cX8_isFigure 37 = .ok (.ireturn, 1) := by decide +kernel
set_option maxRecDepth 20000 in
theorem ggX8_figure_X8_isFigure : GoodIn wsX8_figure wsX8_isFigure := goodIn_r _ [8, 1, 9, 10, 11, 12, 7, 13, 2, 3, 14, 15, 16, 17, 18, 19, 20, 21, 22, 23, 24, 25, 26, 27, 28, 29, 30, 31, 32, 33, 34, 35, 36, 37, 38, 39, 40, 41, 42, 43, 44, 45, 46, 47, 48, 49] (by decide +kernel) (by decide +kernel)
set_option maxRecDepth 20000 in
theorem gX8_figure_X8_isFigure : GoodIn wsX8_figure (wsV RX8 126 RX8 yX8_isFigure wsX8_isFigure) := goodIn_app (goodIn_of _ (by decide +kernel)) ggX8_figure_X8_isFigure
theorem dX8_figure_0 : decode cX8_figure 0 = .ok (.aload_n 0, 1) := by decide +kernel
theorem dX8_figure_1 : decode cX8_figure 1 = .ok (.iload_n 1, 1) := by decide +kernel
theorem dX8_figure_2 : decode cX8_figure 2 = .ok (.iload_n 2, 1) := by decide +kernel
theorem dX8_figure_3 : decode cX8_figure 3 = .ok (.invokevirtual 126, 3) := by decide +kernel
theorem dX8_figure_6 : decode cX8_figure 6 = .ok (.ifCond .ne 6, 3) := by decide +kernel
theorem dX8_figure_9 : decode cX8_figure 9 = .ok (.bipush (-9), 2) := by decide +kernel
theorem dX8_figure_11 : decode cX8_figure 11 = .ok (.ireturn, 1) := by decide +kernel
theorem dX8_figure_12 : decode cX8_figure 12 = .ok (.aload_n 0, 1) := by decide +kernel
theorem dX8_figure_13 : decode cX8_figure 13 = .ok (.dup, 1) := by decide +kernel
theorem dX8_figure_14 : decode cX8_figure 14 = .ok (.getfield 116, 3) := by decide +kernel
theorem dX8_figure_17 : decode cX8_figure 17 = .ok (.iconst 1, 1) := by decide +kernel
theorem dX8_figure_18 : decode cX8_figure 18 = .ok (.iadd, 1) := by decide +kernel
theorem dX8_figure_19 : decode cX8_figure 19 = .ok (.putfield 116, 3) := by decide +kernel
theorem dX8_figure_22 : decode cX8_figure 22 = .ok (.aload_n 0, 1) := by decide +kernel
theorem dX8_figure_23 : decode cX8_figure 23 = .ok (.getfield 34, 3) := by decide +kernel
theorem dX8_figure_26 : decode cX8_figure 26 = .ok (.aload_n 0, 1) := by decide +kernel
theorem dX8_figure_27 : decode cX8_figure 27 = .ok (.getfield 113, 3) := by decide +kernel
theorem dX8_figure_30 : decode cX8_figure 30 = .ok (.aload_n 0, 1) := by decide +kernel
theorem dX8_figure_31 : decode cX8_figure 31 = .ok (.getfield 116, 3) := by decide +kernel
theorem dX8_figure_34 : decode cX8_figure 34 = .ok (.iadd, 1) := by decide +kernel
theorem dX8_figure_35 : decode cX8_figure 35 = .ok (.iconst 1, 1) := by decide +kernel
theorem dX8_figure_36 : decode cX8_figure 36 = .ok (.isub, 1) := by decide +kernel
theorem dX8_figure_37 : decode cX8_figure 37 = .ok (.iaload, 1) := by decide +kernel
theorem dX8_figure_38 : decode cX8_figure 38 = .ok (.bipush 48, 2) := by decide +kernel
theorem dX8_figure_40 : decode cX8_figure 40 = .ok (.isub, 1) := by decide +kernel
theorem dX8_figure_41 : decode cX8_figure 41 = .ok (.ireturn, 1) := by decide +kernel
set_option maxRecDepth 20000 in
theorem ggX8_readsPeople_X8_skip : GoodIn wsX8_readsPeople wsX8_skip := goodIn_r _ [9, 1, 2, 10, 11, 12, 8, 13, 14, 15, 27, 28, 29, 30, 31, 32, 33, 34, 35, 36, 37, 38, 39, 40, 41, 42, 43, 44, 45, 46, 47, 48, 49, 50, 51, 52, 53, 54, 55, 56, 57, 58, 59] (by decide +kernel) (by decide +kernel)
set_option maxRecDepth 20000 in
theorem gX8_readsPeople_X8_skip : GoodIn wsX8_readsPeople (wsV RX8 130 RX8 yX8_skip wsX8_skip) := goodIn_app (goodIn_of _ (by decide +kernel)) ggX8_readsPeople_X8_skip
set_option maxRecDepth 20000 in
theorem ggX8_readsPeople_X8_here : GoodIn wsX8_readsPeople wsX8_here := goodIn_r _ [13, 14, 15, 1, 27, 28, 29, 30, 31, 32, 33, 34, 35, 36, 37, 38, 39, 40, 41, 42, 43, 44, 45, 46, 47, 48, 49, 50, 51, 52, 53, 54, 55, 56, 57, 58, 59] (by decide +kernel) (by decide +kernel)
set_option maxRecDepth 20000 in
theorem gX8_readsPeople_X8_here : GoodIn wsX8_readsPeople (wsV RX8 122 RX8 yX8_here wsX8_here) := goodIn_app (goodIn_of _ (by decide +kernel)) ggX8_readsPeople_X8_here
set_option maxRecDepth 20000 in
theorem ggX8_readsPeople_X8_isFigure : GoodIn wsX8_readsPeople wsX8_isFigure := goodIn_r _ [19, 1, 2, 10, 11, 12, 8, 13, 14, 15, 20, 21, 22, 27, 28, 29, 30, 31, 32, 33, 34, 35, 36, 37, 38, 39, 40, 41, 42, 43, 44, 45, 46, 47, 48, 49, 50, 51, 52, 53, 54, 55, 56, 57, 58, 59] (by decide +kernel) (by decide +kernel)
set_option maxRecDepth 20000 in
theorem gX8_readsPeople_X8_isFigure : GoodIn wsX8_readsPeople (wsV RX8 126 RX8 yX8_isFigure wsX8_isFigure) := goodIn_app (goodIn_of _ (by decide +kernel)) ggX8_readsPeople_X8_isFigure
set_option maxRecDepth 20000 in
theorem ggX8_readsPeople_X8_figure : GoodIn wsX8_readsPeople wsX8_figure := goodIn_r _ [26, 1, 14, 15, 16, 17, 18, 8, 19, 2, 10, 11, 12, 13, 20, 21, 22, 27, 28, 29, 30, 31, 32, 33, 34, 35, 36, 37, 38, 39, 40, 41, 42, 43, 44, 45, 46, 47, 48, 49, 50, 51, 52, 53, 54, 55, 56, 57, 58, 59] (by decide +kernel) (by decide +kernel)
set_option maxRecDepth 20000 in
theorem gX8_readsPeople_X8_figure : GoodIn wsX8_readsPeople (wsV RX8 136 RX8 yX8_figure wsX8_figure) := goodIn_app (goodIn_of _ (by decide +kernel)) ggX8_readsPeople_X8_figure
theorem dX8_readsPeople_0 : decode cX8_readsPeople 0 = .ok (.aload_n 0, 1) := by decide +kernel
theorem dX8_readsPeople_1 : decode cX8_readsPeople 1 = .ok (.invokevirtual 130, 3) := by decide +kernel
theorem dX8_readsPeople_4 : decode cX8_readsPeople 4 = .ok (.aload_n 0, 1) := by decide +kernel
theorem dX8_readsPeople_5 : decode cX8_readsPeople 5 = .ok (.getfield 116, 3) := by decide +kernel
theorem dX8_readsPeople_8 : decode cX8_readsPeople 8 = .ok (.aload_n 0, 1) := by decide +kernel
theorem dX8_readsPeople_9 : decode cX8_readsPeople 9 = .ok (.getfield 119, 3) := by decide +kernel
theorem dX8_readsPeople_12 : decode cX8_readsPeople 12 = .ok (.if_icmp .eq 12, 3) := by decide +kernel
theorem dX8_readsPeople_15 : decode cX8_readsPeople 15 = .ok (.aload_n 0, 1) := by decide +kernel
theorem dX8_readsPeople_16 : decode cX8_readsPeople 16 = .ok (.invokevirtual 122, 3) := by decide +kernel
theorem dX8_readsPeople_19 : decode cX8_readsPeople 19 = .ok (.bipush 102, 2) := by decide +kernel
theorem dX8_readsPeople_21 : decode cX8_readsPeople 21 = .ok (.if_icmp .eq 5, 3) := by decide +kernel
theorem dX8_readsPeople_24 : decode cX8_readsPeople 24 = .ok (.iconst 0, 1) := by decide +kernel
theorem dX8_readsPeople_25 : decode cX8_readsPeople 25 = .ok (.ireturn, 1) := by decide +kernel
theorem dX8_readsPeople_26 : decode cX8_readsPeople 26 = .ok (.aload_n 0, 1) := by decide +kernel
theorem dX8_readsPeople_27 : decode cX8_readsPeople 27 = .ok (.dup, 1) := by decide +kernel
theorem dX8_readsPeople_28 : decode cX8_readsPeople 28 = .ok (.getfield 116, 3) := by decide +kernel
theorem dX8_readsPeople_31 : decode cX8_readsPeople 31 = .ok (.iconst 1, 1) := by decide +kernel
theorem dX8_readsPeople_32 : decode cX8_readsPeople 32 = .ok (.iadd, 1) := by decide +kernel
theorem dX8_readsPeople_33 : decode cX8_readsPeople 33 = .ok (.putfield 116, 3) := by decide +kernel
theorem dX8_readsPeople_36 : decode cX8_readsPeople 36 = .ok (.aload_n 0, 1) := by decide +kernel
theorem dX8_readsPeople_37 : decode cX8_readsPeople 37 = .ok (.iconst 0, 1) := by decide +kernel
theorem dX8_readsPeople_38 : decode cX8_readsPeople 38 = .ok (.bipush 9, 2) := by decide +kernel
theorem dX8_readsPeople_40 : decode cX8_readsPeople 40 = .ok (.invokevirtual 126, 3) := by decide +kernel
theorem dX8_readsPeople_43 : decode cX8_readsPeople 43 = .ok (.ifCond .eq 42, 3) := by decide +kernel
theorem dX8_readsPeople_46 : decode cX8_readsPeople 46 = .ok (.aload_n 0, 1) := by decide +kernel
theorem dX8_readsPeople_47 : decode cX8_readsPeople 47 = .ok (.getfield 133, 3) := by decide +kernel
theorem dX8_readsPeople_50 : decode cX8_readsPeople 50 = .ok (.iconst 4, 1) := by decide +kernel
theorem dX8_readsPeople_51 : decode cX8_readsPeople 51 = .ok (.if_icmp .ne 5, 3) := by decide +kernel
theorem dX8_readsPeople_54 : decode cX8_readsPeople 54 = .ok (.iconst 0, 1) := by decide +kernel
theorem dX8_readsPeople_55 : decode cX8_readsPeople 55 = .ok (.ireturn, 1) := by decide +kernel
theorem dX8_readsPeople_56 : decode cX8_readsPeople 56 = .ok (.aload_n 0, 1) := by decide +kernel
theorem dX8_readsPeople_57 : decode cX8_readsPeople 57 = .ok (.getfield 44, 3) := by decide +kernel
theorem dX8_readsPeople_60 : decode cX8_readsPeople 60 = .ok (.aload_n 0, 1) := by decide +kernel
theorem dX8_readsPeople_61 : decode cX8_readsPeople 61 = .ok (.getfield 133, 3) := by decide +kernel
theorem dX8_readsPeople_64 : decode cX8_readsPeople 64 = .ok (.aload_n 0, 1) := by decide +kernel
theorem dX8_readsPeople_65 : decode cX8_readsPeople 65 = .ok (.iconst 0, 1) := by decide +kernel
theorem dX8_readsPeople_66 : decode cX8_readsPeople 66 = .ok (.bipush 9, 2) := by decide +kernel
theorem dX8_readsPeople_68 : decode cX8_readsPeople 68 = .ok (.invokevirtual 136, 3) := by decide +kernel
theorem dX8_readsPeople_71 : decode cX8_readsPeople 71 = .ok (.iastore, 1) := by decide +kernel
theorem dX8_readsPeople_72 : decode cX8_readsPeople 72 = .ok (.aload_n 0, 1) := by decide +kernel
theorem dX8_readsPeople_73 : decode cX8_readsPeople 73 = .ok (.dup, 1) := by decide +kernel
theorem dX8_readsPeople_74 : decode cX8_readsPeople 74 = .ok (.getfield 133, 3) := by decide +kernel
theorem dX8_readsPeople_77 : decode cX8_readsPeople 77 = .ok (.iconst 1, 1) := by decide +kernel
theorem dX8_readsPeople_78 : decode cX8_readsPeople 78 = .ok (.iadd, 1) := by decide +kernel
theorem dX8_readsPeople_79 : decode cX8_readsPeople 79 = .ok (.putfield 133, 3) := by decide +kernel
theorem dX8_readsPeople_82 : decode cX8_readsPeople 82 = .ok (.goto (-46), 3) := by decide +kernel
theorem dX8_readsPeople_85 : decode cX8_readsPeople 85 = .ok (.aload_n 0, 1) := by decide +kernel
theorem dX8_readsPeople_86 : decode cX8_readsPeople 86 = .ok (.getfield 133, 3) := by decide +kernel
theorem dX8_readsPeople_89 : decode cX8_readsPeople 89 = .ok (.ifCond .le 7, 3) := by decide +kernel
theorem dX8_readsPeople_92 : decode cX8_readsPeople 92 = .ok (.iconst 1, 1) := by decide +kernel
theorem dX8_readsPeople_93 : decode cX8_readsPeople 93 = .ok (.goto 4, 3) := by decide +kernel
theorem dX8_readsPeople_96 : decode cX8_readsPeople 96 = .ok (.iconst 0, 1) := by decide +kernel
theorem dX8_readsPeople_97 : decode cX8_readsPeople 97 = .ok (.ireturn, 1) := by decide +kernel
theorem dX8_kindOfLetter_0 : decode cX8_kindOfLetter 0 = .ok (.iload_n 0, 1) := by decide +kernel
theorem dX8_kindOfLetter_1 : decode cX8_kindOfLetter 1 = .ok (.bipush 115, 2) := by decide +kernel
theorem dX8_kindOfLetter_3 : decode cX8_kindOfLetter 3 = .ok (.if_icmp .ne 7, 3) := by decide +kernel
theorem dX8_kindOfLetter_6 : decode cX8_kindOfLetter 6 = .ok (.iconst 0, 1) := by decide +kernel
theorem dX8_kindOfLetter_7 : decode cX8_kindOfLetter 7 = .ok (.goto 55, 3) := by decide +kernel
theorem dX8_kindOfLetter_10 : decode cX8_kindOfLetter 10 = .ok (.iload_n 0, 1) := by decide +kernel
theorem dX8_kindOfLetter_11 : decode cX8_kindOfLetter 11 = .ok (.bipush 104, 2) := by decide +kernel
theorem dX8_kindOfLetter_13 : decode cX8_kindOfLetter 13 = .ok (.if_icmp .ne 7, 3) := by decide +kernel
theorem dX8_kindOfLetter_16 : decode cX8_kindOfLetter 16 = .ok (.iconst 1, 1) := by decide +kernel
theorem dX8_kindOfLetter_17 : decode cX8_kindOfLetter 17 = .ok (.goto 45, 3) := by decide +kernel
theorem dX8_kindOfLetter_20 : decode cX8_kindOfLetter 20 = .ok (.iload_n 0, 1) := by decide +kernel
theorem dX8_kindOfLetter_21 : decode cX8_kindOfLetter 21 = .ok (.bipush 103, 2) := by decide +kernel
theorem dX8_kindOfLetter_23 : decode cX8_kindOfLetter 23 = .ok (.if_icmp .ne 7, 3) := by decide +kernel
theorem dX8_kindOfLetter_26 : decode cX8_kindOfLetter 26 = .ok (.iconst 2, 1) := by decide +kernel
theorem dX8_kindOfLetter_27 : decode cX8_kindOfLetter 27 = .ok (.goto 35, 3) := by decide +kernel
theorem dX8_kindOfLetter_30 : decode cX8_kindOfLetter 30 = .ok (.iload_n 0, 1) := by decide +kernel
theorem dX8_kindOfLetter_31 : decode cX8_kindOfLetter 31 = .ok (.bipush 106, 2) := by decide +kernel
theorem dX8_kindOfLetter_33 : decode cX8_kindOfLetter 33 = .ok (.if_icmp .ne 7, 3) := by decide +kernel
theorem dX8_kindOfLetter_36 : decode cX8_kindOfLetter 36 = .ok (.iconst 3, 1) := by decide +kernel
theorem dX8_kindOfLetter_37 : decode cX8_kindOfLetter 37 = .ok (.goto 25, 3) := by decide +kernel
theorem dX8_kindOfLetter_40 : decode cX8_kindOfLetter 40 = .ok (.iload_n 0, 1) := by decide +kernel
theorem dX8_kindOfLetter_41 : decode cX8_kindOfLetter 41 = .ok (.bipush 119, 2) := by decide +kernel
theorem dX8_kindOfLetter_43 : decode cX8_kindOfLetter 43 = .ok (.if_icmp .ne 7, 3) := by decide +kernel
theorem dX8_kindOfLetter_46 : decode cX8_kindOfLetter 46 = .ok (.iconst 4, 1) := by decide +kernel
theorem dX8_kindOfLetter_47 : decode cX8_kindOfLetter 47 = .ok (.goto 15, 3) := by decide +kernel
theorem dX8_kindOfLetter_50 : decode cX8_kindOfLetter 50 = .ok (.iload_n 0, 1) := by decide +kernel
theorem dX8_kindOfLetter_51 : decode cX8_kindOfLetter 51 = .ok (.bipush 112, 2) := by decide +kernel
theorem dX8_kindOfLetter_53 : decode cX8_kindOfLetter 53 = .ok (.if_icmp .ne 7, 3) := by decide +kernel
theorem dX8_kindOfLetter_56 : decode cX8_kindOfLetter 56 = .ok (.iconst 5, 1) := by decide +kernel
theorem dX8_kindOfLetter_57 : decode cX8_kindOfLetter 57 = .ok (.goto 5, 3) := by decide +kernel
theorem dX8_kindOfLetter_60 : decode cX8_kindOfLetter 60 = .ok (.bipush (-9), 2) := by decide +kernel
theorem dX8_kindOfLetter_62 : decode cX8_kindOfLetter 62 = .ok (.ireturn, 1) := by decide +kernel
set_option maxRecDepth 20000 in
theorem ggX8_readsSaying_X8_here : GoodIn wsX8_readsSaying wsX8_here := goodIn_r _ [9, 10, 11, 3, 27, 28, 29, 30, 31, 32, 33, 34, 35, 36, 37, 38, 39, 40, 41, 42, 43, 44, 45, 46, 47, 48, 49, 50, 51, 52, 53, 54, 55, 56, 57, 58, 59] (by decide +kernel) (by decide +kernel)
set_option maxRecDepth 20000 in
theorem gX8_readsSaying_X8_here : GoodIn wsX8_readsSaying (wsV RX8 122 RX8 yX8_here wsX8_here) := goodIn_app (goodIn_of _ (by decide +kernel)) ggX8_readsSaying_X8_here
set_option maxRecDepth 20000 in
theorem ggX8_readsSaying_X8_kindOfLetter : GoodIn wsX8_readsSaying wsX8_kindOfLetter := goodIn_r _ [14] (by decide +kernel) (by decide +kernel)
set_option maxRecDepth 20000 in
theorem gX8_readsSaying_X8_kindOfLetter : GoodIn wsX8_readsSaying (va_wsS RX8 139 yX8_kindOfLetter wsX8_kindOfLetter) := goodIn_app (goodIn_of _ (by decide +kernel)) ggX8_readsSaying_X8_kindOfLetter
set_option maxRecDepth 20000 in
theorem ggX8_readsSaying_X8_figure : GoodIn wsX8_readsSaying wsX8_figure := goodIn_r _ [18, 3, 10, 11, 19, 20, 21, 8, 22, 23, 5, 6, 7, 9, 24, 25, 26, 27, 28, 29, 30, 31, 32, 33, 34, 35, 36, 37, 38, 39, 40, 41, 42, 43, 44, 45, 46, 47, 48, 49, 50, 51, 52, 53, 54, 55, 56, 57, 58, 59] (by decide +kernel) (by decide +kernel)
set_option maxRecDepth 20000 in
theorem gX8_readsSaying_X8_figure : GoodIn wsX8_readsSaying (wsV RX8 136 RX8 yX8_figure wsX8_figure) := goodIn_app (goodIn_of _ (by decide +kernel)) ggX8_readsSaying_X8_figure
theorem dX8_readsSaying_0 : decode cX8_readsSaying 0 = .ok (.aload_n 0, 1) := by decide +kernel
theorem dX8_readsSaying_1 : decode cX8_readsSaying 1 = .ok (.invokevirtual 122, 3) := by decide +kernel
theorem dX8_readsSaying_4 : decode cX8_readsSaying 4 = .ok (.invokestatic 139, 3) := by decide +kernel
theorem dX8_readsSaying_7 : decode cX8_readsSaying 7 = .ok (.istore_n 1, 1) := by decide +kernel
theorem dX8_readsSaying_8 : decode cX8_readsSaying 8 = .ok (.iload_n 1, 1) := by decide +kernel
theorem dX8_readsSaying_9 : decode cX8_readsSaying 9 = .ok (.bipush (-9), 2) := by decide +kernel
theorem dX8_readsSaying_11 : decode cX8_readsSaying 11 = .ok (.if_icmp .eq 19, 3) := by decide +kernel
theorem dX8_readsSaying_14 : decode cX8_readsSaying 14 = .ok (.aload_n 0, 1) := by decide +kernel
theorem dX8_readsSaying_15 : decode cX8_readsSaying 15 = .ok (.getfield 142, 3) := by decide +kernel
theorem dX8_readsSaying_18 : decode cX8_readsSaying 18 = .ok (.bipush 6, 2) := by decide +kernel
theorem dX8_readsSaying_20 : decode cX8_readsSaying 20 = .ok (.if_icmp .eq 10, 3) := by decide +kernel
theorem dX8_readsSaying_23 : decode cX8_readsSaying 23 = .ok (.aload_n 0, 1) := by decide +kernel
theorem dX8_readsSaying_24 : decode cX8_readsSaying 24 = .ok (.getfield 145, 3) := by decide +kernel
theorem dX8_readsSaying_27 : decode cX8_readsSaying 27 = .ok (.ifCond .eq 5, 3) := by decide +kernel
theorem dX8_readsSaying_30 : decode cX8_readsSaying 30 = .ok (.iconst 0, 1) := by decide +kernel
theorem dX8_readsSaying_31 : decode cX8_readsSaying 31 = .ok (.ireturn, 1) := by decide +kernel
theorem dX8_readsSaying_32 : decode cX8_readsSaying 32 = .ok (.aload_n 0, 1) := by decide +kernel
theorem dX8_readsSaying_33 : decode cX8_readsSaying 33 = .ok (.dup, 1) := by decide +kernel
theorem dX8_readsSaying_34 : decode cX8_readsSaying 34 = .ok (.getfield 116, 3) := by decide +kernel
theorem dX8_readsSaying_37 : decode cX8_readsSaying 37 = .ok (.iconst 1, 1) := by decide +kernel
theorem dX8_readsSaying_38 : decode cX8_readsSaying 38 = .ok (.iadd, 1) := by decide +kernel
theorem dX8_readsSaying_39 : decode cX8_readsSaying 39 = .ok (.putfield 116, 3) := by decide +kernel
theorem dX8_readsSaying_42 : decode cX8_readsSaying 42 = .ok (.aload_n 0, 1) := by decide +kernel
theorem dX8_readsSaying_43 : decode cX8_readsSaying 43 = .ok (.iconst 0, 1) := by decide +kernel
theorem dX8_readsSaying_44 : decode cX8_readsSaying 44 = .ok (.bipush 9, 2) := by decide +kernel
theorem dX8_readsSaying_46 : decode cX8_readsSaying 46 = .ok (.invokevirtual 136, 3) := by decide +kernel
theorem dX8_readsSaying_49 : decode cX8_readsSaying 49 = .ok (.istore_n 2, 1) := by decide +kernel
theorem dX8_readsSaying_50 : decode cX8_readsSaying 50 = .ok (.iload_n 2, 1) := by decide +kernel
theorem dX8_readsSaying_51 : decode cX8_readsSaying 51 = .ok (.bipush (-9), 2) := by decide +kernel
theorem dX8_readsSaying_53 : decode cX8_readsSaying 53 = .ok (.if_icmp .ne 8, 3) := by decide +kernel
theorem dX8_readsSaying_56 : decode cX8_readsSaying 56 = .ok (.bipush (-9), 2) := by decide +kernel
theorem dX8_readsSaying_58 : decode cX8_readsSaying 58 = .ok (.goto 10, 3) := by decide +kernel
theorem dX8_readsSaying_61 : decode cX8_readsSaying 61 = .ok (.aload_n 0, 1) := by decide +kernel
theorem dX8_readsSaying_62 : decode cX8_readsSaying 62 = .ok (.iconst 0, 1) := by decide +kernel
theorem dX8_readsSaying_63 : decode cX8_readsSaying 63 = .ok (.bipush 7, 2) := by decide +kernel
theorem dX8_readsSaying_65 : decode cX8_readsSaying 65 = .ok (.invokevirtual 136, 3) := by decide +kernel
theorem dX8_readsSaying_68 : decode cX8_readsSaying 68 = .ok (.istore_n 3, 1) := by decide +kernel
theorem dX8_readsSaying_69 : decode cX8_readsSaying 69 = .ok (.iload_n 3, 1) := by decide +kernel
theorem dX8_readsSaying_70 : decode cX8_readsSaying 70 = .ok (.bipush (-9), 2) := by decide +kernel
theorem dX8_readsSaying_72 : decode cX8_readsSaying 72 = .ok (.if_icmp .ne 5, 3) := by decide +kernel
theorem dX8_readsSaying_75 : decode cX8_readsSaying 75 = .ok (.iconst 0, 1) := by decide +kernel
theorem dX8_readsSaying_76 : decode cX8_readsSaying 76 = .ok (.ireturn, 1) := by decide +kernel
theorem dX8_readsSaying_77 : decode cX8_readsSaying 77 = .ok (.aload_n 0, 1) := by decide +kernel
theorem dX8_readsSaying_78 : decode cX8_readsSaying 78 = .ok (.getfield 47, 3) := by decide +kernel
theorem dX8_readsSaying_81 : decode cX8_readsSaying 81 = .ok (.iconst 3, 1) := by decide +kernel
theorem dX8_readsSaying_82 : decode cX8_readsSaying 82 = .ok (.aload_n 0, 1) := by decide +kernel
theorem dX8_readsSaying_83 : decode cX8_readsSaying 83 = .ok (.getfield 142, 3) := by decide +kernel
theorem dX8_readsSaying_86 : decode cX8_readsSaying 86 = .ok (.imul, 1) := by decide +kernel
theorem dX8_readsSaying_87 : decode cX8_readsSaying 87 = .ok (.iload_n 1, 1) := by decide +kernel
theorem dX8_readsSaying_88 : decode cX8_readsSaying 88 = .ok (.iastore, 1) := by decide +kernel
theorem dX8_readsSaying_89 : decode cX8_readsSaying 89 = .ok (.aload_n 0, 1) := by decide +kernel
theorem dX8_readsSaying_90 : decode cX8_readsSaying 90 = .ok (.getfield 47, 3) := by decide +kernel
theorem dX8_readsSaying_93 : decode cX8_readsSaying 93 = .ok (.iconst 3, 1) := by decide +kernel
theorem dX8_readsSaying_94 : decode cX8_readsSaying 94 = .ok (.aload_n 0, 1) := by decide +kernel
theorem dX8_readsSaying_95 : decode cX8_readsSaying 95 = .ok (.getfield 142, 3) := by decide +kernel
theorem dX8_readsSaying_98 : decode cX8_readsSaying 98 = .ok (.imul, 1) := by decide +kernel
theorem dX8_readsSaying_99 : decode cX8_readsSaying 99 = .ok (.iconst 1, 1) := by decide +kernel
theorem dX8_readsSaying_100 : decode cX8_readsSaying 100 = .ok (.iadd, 1) := by decide +kernel
theorem dX8_readsSaying_101 : decode cX8_readsSaying 101 = .ok (.iload_n 2, 1) := by decide +kernel
theorem dX8_readsSaying_102 : decode cX8_readsSaying 102 = .ok (.iastore, 1) := by decide +kernel
theorem dX8_readsSaying_103 : decode cX8_readsSaying 103 = .ok (.aload_n 0, 1) := by decide +kernel
theorem dX8_readsSaying_104 : decode cX8_readsSaying 104 = .ok (.getfield 47, 3) := by decide +kernel
theorem dX8_readsSaying_107 : decode cX8_readsSaying 107 = .ok (.iconst 3, 1) := by decide +kernel
theorem dX8_readsSaying_108 : decode cX8_readsSaying 108 = .ok (.aload_n 0, 1) := by decide +kernel
theorem dX8_readsSaying_109 : decode cX8_readsSaying 109 = .ok (.getfield 142, 3) := by decide +kernel
theorem dX8_readsSaying_112 : decode cX8_readsSaying 112 = .ok (.imul, 1) := by decide +kernel
theorem dX8_readsSaying_113 : decode cX8_readsSaying 113 = .ok (.iconst 2, 1) := by decide +kernel
theorem dX8_readsSaying_114 : decode cX8_readsSaying 114 = .ok (.iadd, 1) := by decide +kernel
theorem dX8_readsSaying_115 : decode cX8_readsSaying 115 = .ok (.iload_n 3, 1) := by decide +kernel
theorem dX8_readsSaying_116 : decode cX8_readsSaying 116 = .ok (.iastore, 1) := by decide +kernel
theorem dX8_readsSaying_117 : decode cX8_readsSaying 117 = .ok (.aload_n 0, 1) := by decide +kernel
theorem dX8_readsSaying_118 : decode cX8_readsSaying 118 = .ok (.dup, 1) := by decide +kernel
theorem dX8_readsSaying_119 : decode cX8_readsSaying 119 = .ok (.getfield 142, 3) := by decide +kernel
theorem dX8_readsSaying_122 : decode cX8_readsSaying 122 = .ok (.iconst 1, 1) := by decide +kernel
theorem dX8_readsSaying_123 : decode cX8_readsSaying 123 = .ok (.iadd, 1) := by decide +kernel
theorem dX8_readsSaying_124 : decode cX8_readsSaying 124 = .ok (.putfield 142, 3) := by decide +kernel
theorem dX8_readsSaying_127 : decode cX8_readsSaying 127 = .ok (.iconst 1, 1) := by decide +kernel
theorem dX8_readsSaying_128 : decode cX8_readsSaying 128 = .ok (.ireturn, 1) := by decide +kernel
set_option maxRecDepth 20000 in
theorem ggX8_readsRoom_X8_figure : GoodIn wsX8_readsRoom wsX8_figure := goodIn_r _ [8, 2, 9, 10, 11, 12, 13, 7, 14, 15, 16, 17, 18, 19, 20, 21, 22, 26, 27, 28, 29, 30, 31, 32, 33, 34, 35, 36, 37, 38, 39, 40, 41, 42, 43, 44, 45, 46, 47, 48, 49, 50, 51, 52, 53, 54, 55, 56, 57, 58] (by decide +kernel) (by decide +kernel)
set_option maxRecDepth 20000 in
theorem gX8_readsRoom_X8_figure : GoodIn wsX8_readsRoom (wsV RX8 136 RX8 yX8_figure wsX8_figure) := goodIn_app (goodIn_of _ (by decide +kernel)) ggX8_readsRoom_X8_figure
set_option maxRecDepth 20000 in
theorem ggX8_readsRoom_X8_has : GoodIn wsX8_readsRoom wsX8_has := goodIn_r _ [25] (by decide +kernel) (by decide +kernel)
set_option maxRecDepth 20000 in
theorem gX8_readsRoom_X8_has : GoodIn wsX8_readsRoom (va_wsS RX8 148 yX8_has wsX8_has) := goodIn_app (goodIn_of _ (by decide +kernel)) ggX8_readsRoom_X8_has
theorem dX8_readsRoom_0 : decode cX8_readsRoom 0 = .ok (.aload_n 0, 1) := by decide +kernel
theorem dX8_readsRoom_1 : decode cX8_readsRoom 1 = .ok (.getfield 142, 3) := by decide +kernel
theorem dX8_readsRoom_4 : decode cX8_readsRoom 4 = .ok (.ifCond .ne 5, 3) := by decide +kernel
theorem dX8_readsRoom_7 : decode cX8_readsRoom 7 = .ok (.iconst 0, 1) := by decide +kernel
theorem dX8_readsRoom_8 : decode cX8_readsRoom 8 = .ok (.ireturn, 1) := by decide +kernel
theorem dX8_readsRoom_9 : decode cX8_readsRoom 9 = .ok (.aload_n 0, 1) := by decide +kernel
theorem dX8_readsRoom_10 : decode cX8_readsRoom 10 = .ok (.dup, 1) := by decide +kernel
theorem dX8_readsRoom_11 : decode cX8_readsRoom 11 = .ok (.getfield 116, 3) := by decide +kernel
theorem dX8_readsRoom_14 : decode cX8_readsRoom 14 = .ok (.iconst 1, 1) := by decide +kernel
theorem dX8_readsRoom_15 : decode cX8_readsRoom 15 = .ok (.iadd, 1) := by decide +kernel
theorem dX8_readsRoom_16 : decode cX8_readsRoom 16 = .ok (.putfield 116, 3) := by decide +kernel
theorem dX8_readsRoom_19 : decode cX8_readsRoom 19 = .ok (.aload_n 0, 1) := by decide +kernel
theorem dX8_readsRoom_20 : decode cX8_readsRoom 20 = .ok (.iconst 0, 1) := by decide +kernel
theorem dX8_readsRoom_21 : decode cX8_readsRoom 21 = .ok (.iconst 1, 1) := by decide +kernel
theorem dX8_readsRoom_22 : decode cX8_readsRoom 22 = .ok (.invokevirtual 136, 3) := by decide +kernel
theorem dX8_readsRoom_25 : decode cX8_readsRoom 25 = .ok (.istore_n 1, 1) := by decide +kernel
theorem dX8_readsRoom_26 : decode cX8_readsRoom 26 = .ok (.iload_n 1, 1) := by decide +kernel
theorem dX8_readsRoom_27 : decode cX8_readsRoom 27 = .ok (.bipush (-9), 2) := by decide +kernel
theorem dX8_readsRoom_29 : decode cX8_readsRoom 29 = .ok (.if_icmp .ne 8, 3) := by decide +kernel
theorem dX8_readsRoom_32 : decode cX8_readsRoom 32 = .ok (.bipush (-9), 2) := by decide +kernel
theorem dX8_readsRoom_34 : decode cX8_readsRoom 34 = .ok (.goto 19, 3) := by decide +kernel
theorem dX8_readsRoom_37 : decode cX8_readsRoom 37 = .ok (.aload_n 0, 1) := by decide +kernel
theorem dX8_readsRoom_38 : decode cX8_readsRoom 38 = .ok (.iconst 0, 1) := by decide +kernel
theorem dX8_readsRoom_39 : decode cX8_readsRoom 39 = .ok (.iload_n 1, 1) := by decide +kernel
theorem dX8_readsRoom_40 : decode cX8_readsRoom 40 = .ok (.iconst 1, 1) := by decide +kernel
theorem dX8_readsRoom_41 : decode cX8_readsRoom 41 = .ok (.if_icmp .ne 7, 3) := by decide +kernel
theorem dX8_readsRoom_44 : decode cX8_readsRoom 44 = .ok (.iconst 1, 1) := by decide +kernel
theorem dX8_readsRoom_45 : decode cX8_readsRoom 45 = .ok (.goto 5, 3) := by decide +kernel
theorem dX8_readsRoom_48 : decode cX8_readsRoom 48 = .ok (.bipush 9, 2) := by decide +kernel
theorem dX8_readsRoom_50 : decode cX8_readsRoom 50 = .ok (.invokevirtual 136, 3) := by decide +kernel
theorem dX8_readsRoom_53 : decode cX8_readsRoom 53 = .ok (.istore_n 2, 1) := by decide +kernel
theorem dX8_readsRoom_54 : decode cX8_readsRoom 54 = .ok (.iload_n 2, 1) := by decide +kernel
theorem dX8_readsRoom_55 : decode cX8_readsRoom 55 = .ok (.bipush (-9), 2) := by decide +kernel
theorem dX8_readsRoom_57 : decode cX8_readsRoom 57 = .ok (.if_icmp .ne 5, 3) := by decide +kernel
theorem dX8_readsRoom_60 : decode cX8_readsRoom 60 = .ok (.iconst 0, 1) := by decide +kernel
theorem dX8_readsRoom_61 : decode cX8_readsRoom 61 = .ok (.ireturn, 1) := by decide +kernel
theorem dX8_readsRoom_62 : decode cX8_readsRoom 62 = .ok (.bipush 10, 2) := by decide +kernel
theorem dX8_readsRoom_64 : decode cX8_readsRoom 64 = .ok (.iload_n 1, 1) := by decide +kernel
theorem dX8_readsRoom_65 : decode cX8_readsRoom 65 = .ok (.imul, 1) := by decide +kernel
theorem dX8_readsRoom_66 : decode cX8_readsRoom 66 = .ok (.iload_n 2, 1) := by decide +kernel
theorem dX8_readsRoom_67 : decode cX8_readsRoom 67 = .ok (.iadd, 1) := by decide +kernel
theorem dX8_readsRoom_68 : decode cX8_readsRoom 68 = .ok (.istore_n 3, 1) := by decide +kernel
theorem dX8_readsRoom_69 : decode cX8_readsRoom 69 = .ok (.aload_n 0, 1) := by decide +kernel
theorem dX8_readsRoom_70 : decode cX8_readsRoom 70 = .ok (.getfield 145, 3) := by decide +kernel
theorem dX8_readsRoom_73 : decode cX8_readsRoom 73 = .ok (.iload_n 3, 1) := by decide +kernel
theorem dX8_readsRoom_74 : decode cX8_readsRoom 74 = .ok (.invokestatic 148, 3) := by decide +kernel
theorem dX8_readsRoom_77 : decode cX8_readsRoom 77 = .ok (.ifCond .eq 15, 3) := by decide +kernel
theorem dX8_readsRoom_80 : decode cX8_readsRoom 80 = .ok (.aload_n 0, 1) := by decide +kernel
theorem dX8_readsRoom_81 : decode cX8_readsRoom 81 = .ok (.dup, 1) := by decide +kernel
theorem dX8_readsRoom_82 : decode cX8_readsRoom 82 = .ok (.getfield 116, 3) := by decide +kernel
theorem dX8_readsRoom_85 : decode cX8_readsRoom 85 = .ok (.iconst 1, 1) := by decide +kernel
theorem dX8_readsRoom_86 : decode cX8_readsRoom 86 = .ok (.isub, 1) := by decide +kernel
theorem dX8_readsRoom_87 : decode cX8_readsRoom 87 = .ok (.putfield 116, 3) := by decide +kernel
theorem dX8_readsRoom_90 : decode cX8_readsRoom 90 = .ok (.iconst 0, 1) := by decide +kernel
theorem dX8_readsRoom_91 : decode cX8_readsRoom 91 = .ok (.ireturn, 1) := by decide +kernel
theorem dX8_readsRoom_92 : decode cX8_readsRoom 92 = .ok (.aload_n 0, 1) := by decide +kernel
theorem dX8_readsRoom_93 : decode cX8_readsRoom 93 = .ok (.dup, 1) := by decide +kernel
theorem dX8_readsRoom_94 : decode cX8_readsRoom 94 = .ok (.getfield 145, 3) := by decide +kernel
theorem dX8_readsRoom_97 : decode cX8_readsRoom 97 = .ok (.iconst 1, 1) := by decide +kernel
theorem dX8_readsRoom_98 : decode cX8_readsRoom 98 = .ok (.iload_n 3, 1) := by decide +kernel
theorem dX8_readsRoom_99 : decode cX8_readsRoom 99 = .ok (.ishl, 1) := by decide +kernel
theorem dX8_readsRoom_100 : decode cX8_readsRoom 100 = .ok (.ior, 1) := by decide +kernel
theorem dX8_readsRoom_101 : decode cX8_readsRoom 101 = .ok (.putfield 145, 3) := by decide +kernel
theorem dX8_readsRoom_104 : decode cX8_readsRoom 104 = .ok (.iconst 1, 1) := by decide +kernel
theorem dX8_readsRoom_105 : decode cX8_readsRoom 105 = .ok (.ireturn, 1) := by decide +kernel
set_option maxRecDepth 20000 in
theorem ggX8_faultOf_X8_readsPeople : GoodIn wsX8_faultOf wsX8_readsPeople := goodIn_r _ [12, 2, 4, 5, 13, 14, 15, 16, 11, 17, 18, 19, 20, 21, 22, 1, 23, 24, 25, 26, 27, 28, 29, 30, 31, 32, 33, 49, 50, 51, 52, 53, 54, 55, 56, 57, 58, 59, 60, 61, 62, 63, 64, 65, 66, 67, 68, 69, 70, 71, 72, 73, 74, 75, 76, 77, 78, 79, 80, 81] (by decide +kernel) (by decide +kernel)
set_option maxRecDepth 20000 in
theorem gX8_faultOf_X8_readsPeople : GoodIn wsX8_faultOf (wsV RX8 151 RX8 yX8_readsPeople wsX8_readsPeople) := goodIn_app (goodIn_of _ (by decide +kernel)) ggX8_faultOf_X8_readsPeople
set_option maxRecDepth 20000 in
theorem ggX8_faultOf_X8_skip : GoodIn wsX8_faultOf wsX8_skip := goodIn_r _ [17, 2, 4, 18, 19, 20, 11, 21, 22, 1, 49, 50, 51, 52, 53, 54, 55, 56, 57, 58, 59, 60, 61, 62, 63, 64, 65, 66, 67, 68, 69, 70, 71, 72, 73, 74, 75, 76, 77, 78, 79, 80, 81] (by decide +kernel) (by decide +kernel)
set_option maxRecDepth 20000 in
theorem gX8_faultOf_X8_skip : GoodIn wsX8_faultOf (wsV RX8 130 RX8 yX8_skip wsX8_skip) := goodIn_app (goodIn_of _ (by decide +kernel)) ggX8_faultOf_X8_skip
set_option maxRecDepth 20000 in
theorem ggX8_faultOf_X8_here : GoodIn wsX8_faultOf wsX8_here := goodIn_r _ [21, 22, 1, 2, 49, 50, 51, 52, 53, 54, 55, 56, 57, 58, 59, 60, 61, 62, 63, 64, 65, 66, 67, 68, 69, 70, 71, 72, 73, 74, 75, 76, 77, 78, 79, 80, 81] (by decide +kernel) (by decide +kernel)
set_option maxRecDepth 20000 in
theorem gX8_faultOf_X8_here : GoodIn wsX8_faultOf (wsV RX8 122 RX8 yX8_here wsX8_here) := goodIn_app (goodIn_of _ (by decide +kernel)) ggX8_faultOf_X8_here
set_option maxRecDepth 20000 in
theorem ggX8_faultOf_X8_readsRoom : GoodIn wsX8_faultOf wsX8_readsRoom := goodIn_r _ [37, 6, 2, 7, 30, 31, 32, 11, 33, 22, 1, 23, 24, 25, 26, 4, 18, 19, 20, 21, 27, 28, 29, 38, 39, 40, 49, 50, 51, 52, 53, 54, 55, 56, 57, 58, 59, 60, 61, 62, 63, 64, 65, 66, 67, 68, 69, 70, 71, 72, 73, 74, 75, 76, 77, 78, 79, 80, 81] (by decide +kernel) (by decide +kernel)
set_option maxRecDepth 20000 in
theorem gX8_faultOf_X8_readsRoom : GoodIn wsX8_faultOf (wsV RX8 155 RX8 yX8_readsRoom wsX8_readsRoom) := goodIn_app (goodIn_of _ (by decide +kernel)) ggX8_faultOf_X8_readsRoom
set_option maxRecDepth 20000 in
theorem ggX8_faultOf_X8_readsSaying : GoodIn wsX8_faultOf wsX8_readsSaying := goodIn_r _ [44, 6, 7, 2, 45, 18, 19, 20, 11, 21, 22, 1, 46, 47, 48, 30, 31, 32, 33, 23, 24, 25, 26, 4, 27, 28, 29, 49, 50, 51, 52, 53, 54, 55, 56, 57, 58, 59, 60, 61, 62, 63, 64, 65, 66, 67, 68, 69, 70, 71, 72, 73, 74, 75, 76, 77, 78, 79, 80, 81] (by decide +kernel) (by decide +kernel)
set_option maxRecDepth 20000 in
theorem gX8_faultOf_X8_readsSaying : GoodIn wsX8_faultOf (wsV RX8 158 RX8 yX8_readsSaying wsX8_readsSaying) := goodIn_app (goodIn_of _ (by decide +kernel)) ggX8_faultOf_X8_readsSaying
theorem dX8_faultOf_0 : decode cX8_faultOf 0 = .ok (.aload_n 0, 1) := by decide +kernel
theorem dX8_faultOf_1 : decode cX8_faultOf 1 = .ok (.bipush 60, 2) := by decide +kernel
theorem dX8_faultOf_3 : decode cX8_faultOf 3 = .ok (.iload_n 1, 1) := by decide +kernel
theorem dX8_faultOf_4 : decode cX8_faultOf 4 = .ok (.imul, 1) := by decide +kernel
theorem dX8_faultOf_5 : decode cX8_faultOf 5 = .ok (.putfield 113, 3) := by decide +kernel
theorem dX8_faultOf_8 : decode cX8_faultOf 8 = .ok (.aload_n 0, 1) := by decide +kernel
theorem dX8_faultOf_9 : decode cX8_faultOf 9 = .ok (.iconst 0, 1) := by decide +kernel
theorem dX8_faultOf_10 : decode cX8_faultOf 10 = .ok (.putfield 116, 3) := by decide +kernel
theorem dX8_faultOf_13 : decode cX8_faultOf 13 = .ok (.aload_n 0, 1) := by decide +kernel
theorem dX8_faultOf_14 : decode cX8_faultOf 14 = .ok (.aload_n 0, 1) := by decide +kernel
theorem dX8_faultOf_15 : decode cX8_faultOf 15 = .ok (.getfield 31, 3) := by decide +kernel
theorem dX8_faultOf_18 : decode cX8_faultOf 18 = .ok (.iload_n 1, 1) := by decide +kernel
theorem dX8_faultOf_19 : decode cX8_faultOf 19 = .ok (.iaload, 1) := by decide +kernel
theorem dX8_faultOf_20 : decode cX8_faultOf 20 = .ok (.putfield 119, 3) := by decide +kernel
theorem dX8_faultOf_23 : decode cX8_faultOf 23 = .ok (.aload_n 0, 1) := by decide +kernel
theorem dX8_faultOf_24 : decode cX8_faultOf 24 = .ok (.iconst 0, 1) := by decide +kernel
theorem dX8_faultOf_25 : decode cX8_faultOf 25 = .ok (.putfield 133, 3) := by decide +kernel
theorem dX8_faultOf_28 : decode cX8_faultOf 28 = .ok (.aload_n 0, 1) := by decide +kernel
theorem dX8_faultOf_29 : decode cX8_faultOf 29 = .ok (.iconst 0, 1) := by decide +kernel
theorem dX8_faultOf_30 : decode cX8_faultOf 30 = .ok (.putfield 142, 3) := by decide +kernel
theorem dX8_faultOf_33 : decode cX8_faultOf 33 = .ok (.aload_n 0, 1) := by decide +kernel
theorem dX8_faultOf_34 : decode cX8_faultOf 34 = .ok (.iconst 0, 1) := by decide +kernel
theorem dX8_faultOf_35 : decode cX8_faultOf 35 = .ok (.putfield 145, 3) := by decide +kernel
theorem dX8_faultOf_38 : decode cX8_faultOf 38 = .ok (.aload_n 0, 1) := by decide +kernel
theorem dX8_faultOf_39 : decode cX8_faultOf 39 = .ok (.invokevirtual 151, 3) := by decide +kernel
theorem dX8_faultOf_42 : decode cX8_faultOf 42 = .ok (.istore_n 2, 1) := by decide +kernel
theorem dX8_faultOf_43 : decode cX8_faultOf 43 = .ok (.iload_n 2, 1) := by decide +kernel
theorem dX8_faultOf_44 : decode cX8_faultOf 44 = .ok (.ifCond .eq 7, 3) := by decide +kernel
theorem dX8_faultOf_47 : decode cX8_faultOf 47 = .ok (.aload_n 0, 1) := by decide +kernel
theorem dX8_faultOf_48 : decode cX8_faultOf 48 = .ok (.invokevirtual 130, 3) := by decide +kernel
theorem dX8_faultOf_51 : decode cX8_faultOf 51 = .ok (.iload_n 2, 1) := by decide +kernel
theorem dX8_faultOf_52 : decode cX8_faultOf 52 = .ok (.ifCond .eq 46, 3) := by decide +kernel
theorem dX8_faultOf_55 : decode cX8_faultOf 55 = .ok (.aload_n 0, 1) := by decide +kernel
theorem dX8_faultOf_56 : decode cX8_faultOf 56 = .ok (.getfield 116, 3) := by decide +kernel
theorem dX8_faultOf_59 : decode cX8_faultOf 59 = .ok (.aload_n 0, 1) := by decide +kernel
theorem dX8_faultOf_60 : decode cX8_faultOf 60 = .ok (.getfield 119, 3) := by decide +kernel
theorem dX8_faultOf_63 : decode cX8_faultOf 63 = .ok (.if_icmp .ge 35, 3) := by decide +kernel
theorem dX8_faultOf_66 : decode cX8_faultOf 66 = .ok (.aload_n 0, 1) := by decide +kernel
theorem dX8_faultOf_67 : decode cX8_faultOf 67 = .ok (.invokevirtual 122, 3) := by decide +kernel
theorem dX8_faultOf_70 : decode cX8_faultOf 70 = .ok (.bipush 100, 2) := by decide +kernel
theorem dX8_faultOf_72 : decode cX8_faultOf 72 = .ok (.if_icmp .ne 10, 3) := by decide +kernel
theorem dX8_faultOf_75 : decode cX8_faultOf 75 = .ok (.aload_n 0, 1) := by decide +kernel
theorem dX8_faultOf_76 : decode cX8_faultOf 76 = .ok (.invokevirtual 155, 3) := by decide +kernel
theorem dX8_faultOf_79 : decode cX8_faultOf 79 = .ok (.goto 7, 3) := by decide +kernel
theorem dX8_faultOf_82 : decode cX8_faultOf 82 = .ok (.aload_n 0, 1) := by decide +kernel
theorem dX8_faultOf_83 : decode cX8_faultOf 83 = .ok (.invokevirtual 158, 3) := by decide +kernel
theorem dX8_faultOf_86 : decode cX8_faultOf 86 = .ok (.istore_n 2, 1) := by decide +kernel
theorem dX8_faultOf_87 : decode cX8_faultOf 87 = .ok (.iload_n 2, 1) := by decide +kernel
theorem dX8_faultOf_88 : decode cX8_faultOf 88 = .ok (.ifCond .eq (-37), 3) := by decide +kernel
theorem dX8_faultOf_91 : decode cX8_faultOf 91 = .ok (.aload_n 0, 1) := by decide +kernel
theorem dX8_faultOf_92 : decode cX8_faultOf 92 = .ok (.invokevirtual 130, 3) := by decide +kernel
theorem dX8_faultOf_95 : decode cX8_faultOf 95 = .ok (.goto (-44), 3) := by decide +kernel
theorem dX8_faultOf_98 : decode cX8_faultOf 98 = .ok (.iload_n 2, 1) := by decide +kernel
theorem dX8_faultOf_99 : decode cX8_faultOf 99 = .ok (.ifCond .eq 15, 3) := by decide +kernel
theorem dX8_faultOf_102 : decode cX8_faultOf 102 = .ok (.aload_n 0, 1) := by decide +kernel
theorem dX8_faultOf_103 : decode cX8_faultOf 103 = .ok (.getfield 142, 3) := by decide +kernel
theorem dX8_faultOf_106 : decode cX8_faultOf 106 = .ok (.ifCond .le 8, 3) := by decide +kernel
theorem dX8_faultOf_109 : decode cX8_faultOf 109 = .ok (.bipush (-9), 2) := by decide +kernel
theorem dX8_faultOf_111 : decode cX8_faultOf 111 = .ok (.goto 7, 3) := by decide +kernel
theorem dX8_faultOf_114 : decode cX8_faultOf 114 = .ok (.aload_n 0, 1) := by decide +kernel
theorem dX8_faultOf_115 : decode cX8_faultOf 115 = .ok (.getfield 116, 3) := by decide +kernel
theorem dX8_faultOf_118 : decode cX8_faultOf 118 = .ok (.ireturn, 1) := by decide +kernel
set_option maxRecDepth 20000 in
theorem ggX8_fault_X8_isText : GoodIn wsX8_fault wsX8_isText := goodIn_r _ [5, 6, 7, 8, 4, 9] (by decide +kernel) (by decide +kernel)
set_option maxRecDepth 20000 in
theorem gX8_fault_X8_isText : GoodIn wsX8_fault (va_wsS RX8 110 yX8_isText wsX8_isText) := goodIn_app (goodIn_of _ (by decide +kernel)) ggX8_fault_X8_isText
set_option maxRecDepth 20000 in
theorem ggX8_fault_X8_find : GoodIn wsX8_fault wsX8_find := goodIn_r _ [13, 14, 15, 63, 64, 65, 66, 67, 68, 69, 70, 71, 72, 73, 74, 75, 76, 77, 78, 79, 80, 81, 82, 83, 84, 85, 86, 87, 88, 89, 90, 91, 92, 93, 94, 95] (by decide +kernel) (by decide +kernel)
set_option maxRecDepth 20000 in
theorem gX8_fault_X8_find : GoodIn wsX8_fault (wsV RX8 91 RX8 yX8_find wsX8_find) := goodIn_app (goodIn_of _ (by decide +kernel)) ggX8_fault_X8_find
set_option maxRecDepth 20000 in
theorem ggX8_fault_X8_faultOf : GoodIn wsX8_fault wsX8_faultOf := goodIn_r _ [19, 20, 21, 1, 22, 23, 24, 25, 26, 27, 28, 4, 29, 30, 31, 32, 33, 34, 35, 36, 37, 38, 39, 40, 41, 42, 43, 7, 8, 9, 44, 45, 46, 47, 48, 49, 50, 51, 52, 53, 54, 55, 56, 57, 58, 59, 60, 61, 62, 63, 64, 65, 66, 67, 68, 69, 70, 71, 72, 73, 74, 75, 76, 77, 78, 79, 80, 81, 82, 83, 84, 85, 86, 87, 88, 89, 90, 91, 92, 93, 94, 95] (by decide +kernel) (by decide +kernel)
set_option maxRecDepth 20000 in
theorem gX8_fault_X8_faultOf : GoodIn wsX8_fault (wsV RX8 161 RX8 yX8_faultOf wsX8_faultOf) := goodIn_app (goodIn_of _ (by decide +kernel)) ggX8_fault_X8_faultOf
theorem dX8_fault_0 : decode cX8_fault 0 = .ok (.iload_n 1, 1) := by decide +kernel
theorem dX8_fault_1 : decode cX8_fault 1 = .ok (.invokestatic 110, 3) := by decide +kernel
theorem dX8_fault_4 : decode cX8_fault 4 = .ok (.ifCond .ne 5, 3) := by decide +kernel
theorem dX8_fault_7 : decode cX8_fault 7 = .ok (.iconst (-1), 1) := by decide +kernel
theorem dX8_fault_8 : decode cX8_fault 8 = .ok (.ireturn, 1) := by decide +kernel
theorem dX8_fault_9 : decode cX8_fault 9 = .ok (.aload_n 0, 1) := by decide +kernel
theorem dX8_fault_10 : decode cX8_fault 10 = .ok (.getfield 31, 3) := by decide +kernel
theorem dX8_fault_13 : decode cX8_fault 13 = .ok (.iload_n 1, 1) := by decide +kernel
theorem dX8_fault_14 : decode cX8_fault 14 = .ok (.iaload, 1) := by decide +kernel
theorem dX8_fault_15 : decode cX8_fault 15 = .ok (.ifCond .ge 11, 3) := by decide +kernel
theorem dX8_fault_18 : decode cX8_fault 18 = .ok (.aload_n 0, 1) := by decide +kernel
theorem dX8_fault_19 : decode cX8_fault 19 = .ok (.iconst 1, 1) := by decide +kernel
theorem dX8_fault_20 : decode cX8_fault 20 = .ok (.invokevirtual 91, 3) := by decide +kernel
theorem dX8_fault_23 : decode cX8_fault 23 = .ok (.goto 8, 3) := by decide +kernel
theorem dX8_fault_26 : decode cX8_fault 26 = .ok (.aload_n 0, 1) := by decide +kernel
theorem dX8_fault_27 : decode cX8_fault 27 = .ok (.iload_n 1, 1) := by decide +kernel
theorem dX8_fault_28 : decode cX8_fault 28 = .ok (.invokevirtual 161, 3) := by decide +kernel
theorem dX8_fault_31 : decode cX8_fault 31 = .ok (.ireturn, 1) := by decide +kernel
set_option maxRecDepth 20000 in
theorem ggX8_family_X8_isText : GoodIn wsX8_family wsX8_isText := goodIn_r _ [18, 19, 20, 21, 17, 22] (by decide +kernel) (by decide +kernel)
set_option maxRecDepth 20000 in
theorem gX8_family_X8_isText : GoodIn wsX8_family (va_wsS RX8 110 yX8_isText wsX8_isText) := goodIn_app (goodIn_of _ (by decide +kernel)) ggX8_family_X8_isText
set_option maxRecDepth 20000 in
theorem ggX8_family_X8_find : GoodIn wsX8_family wsX8_find := goodIn_r _ [26, 27, 28, 71, 72, 73, 74, 75, 76, 77, 78, 79, 80, 81, 82, 83, 84, 85, 86, 87, 88, 89, 90, 91, 92, 93, 94, 95, 96, 97, 98, 99, 100, 101, 102, 103] (by decide +kernel) (by decide +kernel)
set_option maxRecDepth 20000 in
theorem gX8_family_X8_find : GoodIn wsX8_family (wsV RX8 91 RX8 yX8_find wsX8_find) := goodIn_app (goodIn_of _ (by decide +kernel)) ggX8_family_X8_find
set_option maxRecDepth 20000 in
theorem ggX8_family_X8_faultOf : GoodIn wsX8_family wsX8_faultOf := goodIn_r _ [32, 33, 34, 1, 35, 2, 4, 6, 36, 37, 38, 17, 39, 9, 40, 41, 42, 43, 44, 45, 46, 47, 48, 49, 50, 51, 52, 20, 21, 22, 53, 54, 55, 56, 57, 58, 59, 60, 61, 62, 63, 64, 65, 66, 67, 11, 68, 69, 70, 71, 72, 73, 74, 75, 76, 77, 78, 79, 80, 81, 82, 83, 84, 85, 86, 87, 88, 89, 90, 91, 92, 93, 94, 95, 96, 97, 98, 99, 100, 101, 102, 103] (by decide +kernel) (by decide +kernel)
set_option maxRecDepth 20000 in
theorem gX8_family_X8_faultOf : GoodIn wsX8_family (wsV RX8 161 RX8 yX8_faultOf wsX8_faultOf) := goodIn_app (goodIn_of _ (by decide +kernel)) ggX8_family_X8_faultOf
theorem dX8_family_0 : decode cX8_family 0 = .ok (.iload_n 1, 1) := by decide +kernel
theorem dX8_family_1 : decode cX8_family 1 = .ok (.invokestatic 110, 3) := by decide +kernel
theorem dX8_family_4 : decode cX8_family 4 = .ok (.ifCond .ne 5, 3) := by decide +kernel
theorem dX8_family_7 : decode cX8_family 7 = .ok (.iconst (-1), 1) := by decide +kernel
theorem dX8_family_8 : decode cX8_family 8 = .ok (.ireturn, 1) := by decide +kernel
theorem dX8_family_9 : decode cX8_family 9 = .ok (.aload_n 0, 1) := by decide +kernel
theorem dX8_family_10 : decode cX8_family 10 = .ok (.getfield 31, 3) := by decide +kernel
theorem dX8_family_13 : decode cX8_family 13 = .ok (.iload_n 1, 1) := by decide +kernel
theorem dX8_family_14 : decode cX8_family 14 = .ok (.iaload, 1) := by decide +kernel
theorem dX8_family_15 : decode cX8_family 15 = .ok (.ifCond .ge 9, 3) := by decide +kernel
theorem dX8_family_18 : decode cX8_family 18 = .ok (.aload_n 0, 1) := by decide +kernel
theorem dX8_family_19 : decode cX8_family 19 = .ok (.iconst 1, 1) := by decide +kernel
theorem dX8_family_20 : decode cX8_family 20 = .ok (.invokevirtual 91, 3) := by decide +kernel
theorem dX8_family_23 : decode cX8_family 23 = .ok (.ireturn, 1) := by decide +kernel
theorem dX8_family_24 : decode cX8_family 24 = .ok (.aload_n 0, 1) := by decide +kernel
theorem dX8_family_25 : decode cX8_family 25 = .ok (.iload_n 1, 1) := by decide +kernel
theorem dX8_family_26 : decode cX8_family 26 = .ok (.invokevirtual 161, 3) := by decide +kernel
theorem dX8_family_29 : decode cX8_family 29 = .ok (.bipush (-9), 2) := by decide +kernel
theorem dX8_family_31 : decode cX8_family 31 = .ok (.if_icmp .eq 6, 3) := by decide +kernel
theorem dX8_family_34 : decode cX8_family 34 = .ok (.bipush (-4), 2) := by decide +kernel
theorem dX8_family_36 : decode cX8_family 36 = .ok (.ireturn, 1) := by decide +kernel
theorem dX8_family_37 : decode cX8_family 37 = .ok (.aload_n 0, 1) := by decide +kernel
theorem dX8_family_38 : decode cX8_family 38 = .ok (.aload_n 0, 1) := by decide +kernel
theorem dX8_family_39 : decode cX8_family 39 = .ok (.getfield 133, 3) := by decide +kernel
theorem dX8_family_42 : decode cX8_family 42 = .ok (.putfield 164, 3) := by decide +kernel
theorem dX8_family_45 : decode cX8_family 45 = .ok (.aload_n 0, 1) := by decide +kernel
theorem dX8_family_46 : decode cX8_family 46 = .ok (.aload_n 0, 1) := by decide +kernel
theorem dX8_family_47 : decode cX8_family 47 = .ok (.getfield 142, 3) := by decide +kernel
theorem dX8_family_50 : decode cX8_family 50 = .ok (.putfield 167, 3) := by decide +kernel
theorem dX8_family_53 : decode cX8_family 53 = .ok (.aload_n 0, 1) := by decide +kernel
theorem dX8_family_54 : decode cX8_family 54 = .ok (.aload_n 0, 1) := by decide +kernel
theorem dX8_family_55 : decode cX8_family 55 = .ok (.getfield 145, 3) := by decide +kernel
theorem dX8_family_58 : decode cX8_family 58 = .ok (.putfield 170, 3) := by decide +kernel
theorem dX8_family_61 : decode cX8_family 61 = .ok (.iconst 0, 1) := by decide +kernel
theorem dX8_family_62 : decode cX8_family 62 = .ok (.istore_n 2, 1) := by decide +kernel
theorem dX8_family_63 : decode cX8_family 63 = .ok (.iload_n 2, 1) := by decide +kernel
theorem dX8_family_64 : decode cX8_family 64 = .ok (.aload_n 0, 1) := by decide +kernel
theorem dX8_family_65 : decode cX8_family 65 = .ok (.getfield 164, 3) := by decide +kernel
theorem dX8_family_68 : decode cX8_family 68 = .ok (.if_icmp .ge 21, 3) := by decide +kernel
theorem dX8_family_71 : decode cX8_family 71 = .ok (.aload_n 0, 1) := by decide +kernel
theorem dX8_family_72 : decode cX8_family 72 = .ok (.getfield 13, 3) := by decide +kernel
theorem dX8_family_75 : decode cX8_family 75 = .ok (.iload_n 2, 1) := by decide +kernel
theorem dX8_family_76 : decode cX8_family 76 = .ok (.aload_n 0, 1) := by decide +kernel
theorem dX8_family_77 : decode cX8_family 77 = .ok (.getfield 44, 3) := by decide +kernel
theorem dX8_family_80 : decode cX8_family 80 = .ok (.iload_n 2, 1) := by decide +kernel
theorem dX8_family_81 : decode cX8_family 81 = .ok (.iaload, 1) := by decide +kernel
theorem dX8_family_82 : decode cX8_family 82 = .ok (.iastore, 1) := by decide +kernel
theorem dX8_family_83 : decode cX8_family 83 = .ok (.iinc 2 1, 3) := by decide +kernel
theorem dX8_family_86 : decode cX8_family 86 = .ok (.goto (-23), 3) := by decide +kernel
theorem dX8_family_89 : decode cX8_family 89 = .ok (.iconst 0, 1) := by decide +kernel
theorem dX8_family_90 : decode cX8_family 90 = .ok (.istore_n 2, 1) := by decide +kernel
theorem dX8_family_91 : decode cX8_family 91 = .ok (.iload_n 2, 1) := by decide +kernel
theorem dX8_family_92 : decode cX8_family 92 = .ok (.aload_n 0, 1) := by decide +kernel
theorem dX8_family_93 : decode cX8_family 93 = .ok (.getfield 167, 3) := by decide +kernel
theorem dX8_family_96 : decode cX8_family 96 = .ok (.if_icmp .ge 55, 3) := by decide +kernel
theorem dX8_family_99 : decode cX8_family 99 = .ok (.aload_n 0, 1) := by decide +kernel
theorem dX8_family_100 : decode cX8_family 100 = .ok (.getfield 16, 3) := by decide +kernel
theorem dX8_family_103 : decode cX8_family 103 = .ok (.iload_n 2, 1) := by decide +kernel
theorem dX8_family_104 : decode cX8_family 104 = .ok (.aload_n 0, 1) := by decide +kernel
theorem dX8_family_105 : decode cX8_family 105 = .ok (.getfield 47, 3) := by decide +kernel
theorem dX8_family_108 : decode cX8_family 108 = .ok (.iconst 3, 1) := by decide +kernel
theorem dX8_family_109 : decode cX8_family 109 = .ok (.iload_n 2, 1) := by decide +kernel
theorem dX8_family_110 : decode cX8_family 110 = .ok (.imul, 1) := by decide +kernel
