theorem dX8_lots_58 : decode cX8_lots 58 = .ok (.iload 5, 2) := by decide +kernel
theorem dX8_lots_60 : decode cX8_lots 60 = .ok (.iload_n 1, 1) := by decide +kernel
theorem dX8_lots_61 : decode cX8_lots 61 = .ok (.if_icmp .ge 95, 3) := by decide +kernel
theorem dX8_lots_64 : decode cX8_lots 64 = .ok (.lload_n 3, 1) := by decide +kernel
theorem dX8_lots_65 : decode cX8_lots 65 = .ok (.ldc2_w 300, 3) := by decide +kernel
theorem dX8_lots_68 : decode cX8_lots 68 = .ok (.lmul, 1) := by decide +kernel
theorem dX8_lots_69 : decode cX8_lots 69 = .ok (.ldc2_w 302, 3) := by decide +kernel
theorem dX8_lots_72 : decode cX8_lots 72 = .ok (.lrem, 1) := by decide +kernel
theorem dX8_lots_73 : decode cX8_lots 73 = .ok (.lstore_n 3, 1) := by decide +kernel
theorem dX8_lots_74 : decode cX8_lots 74 = .ok (.lload_n 3, 1) := by decide +kernel
theorem dX8_lots_75 : decode cX8_lots 75 = .ok (.ldc2_w 304, 3) := by decide +kernel
theorem dX8_lots_78 : decode cX8_lots 78 = .ok (.ldiv, 1) := by decide +kernel
theorem dX8_lots_79 : decode cX8_lots 79 = .ok (.aload_n 0, 1) := by decide +kernel
theorem dX8_lots_80 : decode cX8_lots 80 = .ok (.getfield 164, 3) := by decide +kernel
theorem dX8_lots_83 : decode cX8_lots 83 = .ok (.i2l, 1) := by decide +kernel
theorem dX8_lots_84 : decode cX8_lots 84 = .ok (.lrem, 1) := by decide +kernel
theorem dX8_lots_85 : decode cX8_lots 85 = .ok (.l2i, 1) := by decide +kernel
theorem dX8_lots_86 : decode cX8_lots 86 = .ok (.istore 6, 2) := by decide +kernel
theorem dX8_lots_88 : decode cX8_lots 88 = .ok (.lload_n 3, 1) := by decide +kernel
theorem dX8_lots_89 : decode cX8_lots 89 = .ok (.aload_n 0, 1) := by decide +kernel
theorem dX8_lots_90 : decode cX8_lots 90 = .ok (.getfield 167, 3) := by decide +kernel
theorem dX8_lots_93 : decode cX8_lots 93 = .ok (.i2l, 1) := by decide +kernel
theorem dX8_lots_94 : decode cX8_lots 94 = .ok (.lrem, 1) := by decide +kernel
theorem dX8_lots_95 : decode cX8_lots 95 = .ok (.l2i, 1) := by decide +kernel
theorem dX8_lots_96 : decode cX8_lots 96 = .ok (.istore 7, 2) := by decide +kernel
theorem dX8_lots_98 : decode cX8_lots 98 = .ok (.lload_n 3, 1) := by decide +kernel
theorem dX8_lots_99 : decode cX8_lots 99 = .ok (.ldc2_w 306, 3) := by decide +kernel
theorem dX8_lots_102 : decode cX8_lots 102 = .ok (.ldiv, 1) := by decide +kernel
theorem dX8_lots_103 : decode cX8_lots 103 = .ok (.ldc2_w 189, 3) := by decide +kernel
theorem dX8_lots_106 : decode cX8_lots 106 = .ok (.lrem, 1) := by decide +kernel
theorem dX8_lots_107 : decode cX8_lots 107 = .ok (.lconst 0, 1) := by decide +kernel
theorem dX8_lots_108 : decode cX8_lots 108 = .ok (.lcmp, 1) := by decide +kernel
theorem dX8_lots_109 : decode cX8_lots 109 = .ok (.ifCond .eq 21, 3) := by decide +kernel
theorem dX8_lots_112 : decode cX8_lots 112 = .ok (.aload_n 0, 1) := by decide +kernel
theorem dX8_lots_113 : decode cX8_lots 113 = .ok (.invokevirtual 203, 3) := by decide +kernel
theorem dX8_lots_116 : decode cX8_lots 116 = .ok (.ifCond .ne 14, 3) := by decide +kernel
theorem dX8_lots_119 : decode cX8_lots 119 = .ok (.aload_n 0, 1) := by decide +kernel
theorem dX8_lots_120 : decode cX8_lots 120 = .ok (.iload 6, 2) := by decide +kernel
theorem dX8_lots_122 : decode cX8_lots 122 = .ok (.iload 7, 2) := by decide +kernel
theorem dX8_lots_124 : decode cX8_lots 124 = .ok (.invokevirtual 225, 3) := by decide +kernel
theorem dX8_lots_127 : decode cX8_lots 127 = .ok (.ifCond .ne 10, 3) := by decide +kernel
theorem dX8_lots_130 : decode cX8_lots 130 = .ok (.aload_n 0, 1) := by decide +kernel
theorem dX8_lots_131 : decode cX8_lots 131 = .ok (.invokevirtual 217, 3) := by decide +kernel
theorem dX8_lots_134 : decode cX8_lots 134 = .ok (.goto 16, 3) := by decide +kernel
theorem dX8_lots_137 : decode cX8_lots 137 = .ok (.aload_n 0, 1) := by decide +kernel
theorem dX8_lots_138 : decode cX8_lots 138 = .ok (.invokevirtual 206, 3) := by decide +kernel
theorem dX8_lots_141 : decode cX8_lots 141 = .ok (.aload_n 0, 1) := by decide +kernel
theorem dX8_lots_142 : decode cX8_lots 142 = .ok (.iconst 0, 1) := by decide +kernel
theorem dX8_lots_143 : decode cX8_lots 143 = .ok (.iload 6, 2) := by decide +kernel
theorem dX8_lots_145 : decode cX8_lots 145 = .ok (.iload 7, 2) := by decide +kernel
theorem dX8_lots_147 : decode cX8_lots 147 = .ok (.invokevirtual 209, 3) := by decide +kernel
theorem dX8_lots_150 : decode cX8_lots 150 = .ok (.iinc 5 1, 3) := by decide +kernel
theorem dX8_lots_153 : decode cX8_lots 153 = .ok (.goto (-95), 3) := by decide +kernel
theorem dX8_lots_156 : decode cX8_lots 156 = .ok (.aload_n 0, 1) := by decide +kernel
theorem dX8_lots_157 : decode cX8_lots 157 = .ok (.getfield 7, 3) := by decide +kernel
theorem dX8_lots_160 : decode cX8_lots 160 = .ok (.iconst 2, 1) := by decide +kernel
theorem dX8_lots_161 : decode cX8_lots 161 = .ok (.iaload, 1) := by decide +kernel
theorem dX8_lots_162 : decode cX8_lots 162 = .ok (.ireturn, 1) := by decide +kernel
theorem dX8_asked_0 : decode cX8_asked 0 = .ok (.aload_n 0, 1) := by decide +kernel
theorem dX8_asked_1 : decode cX8_asked 1 = .ok (.getfield 76, 3) := by decide +kernel
theorem dX8_asked_4 : decode cX8_asked 4 = .ok (.ireturn, 1) := by decide +kernel
theorem dX8_upper_0 : decode cX8_upper 0 = .ok (.aload_n 0, 1) := by decide +kernel
theorem dX8_upper_1 : decode cX8_upper 1 = .ok (.getfield 240, 3) := by decide +kernel
theorem dX8_upper_4 : decode cX8_upper 4 = .ok (.lreturn, 1) := by decide +kernel
theorem dX8_lower_0 : decode cX8_lower 0 = .ok (.aload_n 0, 1) := by decide +kernel
theorem dX8_lower_1 : decode cX8_lower 1 = .ok (.getfield 37, 3) := by decide +kernel
theorem dX8_lower_4 : decode cX8_lower 4 = .ok (.lreturn, 1) := by decide +kernel
set_option maxRecDepth 20000 in
theorem ggX8_hints_X8_isOf : GoodIn wsX8_hints wsX8_isOf := goodIn_r _ [6, 7, 8, 9, 10, 11, 12, 13, 14, 15, 16, 17, 18, 19, 20, 21, 22, 23, 24, 25, 26, 27, 28, 29, 30, 31, 32, 33, 34, 35, 36, 37, 38, 39, 40] (by decide +kernel) (by decide +kernel)
set_option maxRecDepth 20000 in
theorem gX8_hints_X8_isOf : GoodIn wsX8_hints (wsV RX8 194 RX8 yX8_isOf wsX8_isOf) := goodIn_app (goodIn_of _ (by decide +kernel)) ggX8_hints_X8_isOf
theorem dX8_hints_0 : decode cX8_hints 0 = .ok (.iconst 0, 1) := by decide +kernel
theorem dX8_hints_1 : decode cX8_hints 1 = .ok (.istore_n 1, 1) := by decide +kernel
theorem dX8_hints_2 : decode cX8_hints 2 = .ok (.iconst 0, 1) := by decide +kernel
theorem dX8_hints_3 : decode cX8_hints 3 = .ok (.istore_n 2, 1) := by decide +kernel
theorem dX8_hints_4 : decode cX8_hints 4 = .ok (.iload_n 2, 1) := by decide +kernel
theorem dX8_hints_5 : decode cX8_hints 5 = .ok (.aload_n 0, 1) := by decide +kernel
theorem dX8_hints_6 : decode cX8_hints 6 = .ok (.getfield 167, 3) := by decide +kernel
theorem dX8_hints_9 : decode cX8_hints 9 = .ok (.if_icmp .ge 26, 3) := by decide +kernel
theorem dX8_hints_12 : decode cX8_hints 12 = .ok (.iload_n 1, 1) := by decide +kernel
theorem dX8_hints_13 : decode cX8_hints 13 = .ok (.aload_n 0, 1) := by decide +kernel
theorem dX8_hints_14 : decode cX8_hints 14 = .ok (.iload_n 2, 1) := by decide +kernel
theorem dX8_hints_15 : decode cX8_hints 15 = .ok (.iconst 1, 1) := by decide +kernel
theorem dX8_hints_16 : decode cX8_hints 16 = .ok (.invokevirtual 194, 3) := by decide +kernel
theorem dX8_hints_19 : decode cX8_hints 19 = .ok (.ifCond .eq 7, 3) := by decide +kernel
theorem dX8_hints_22 : decode cX8_hints 22 = .ok (.iconst 1, 1) := by decide +kernel
theorem dX8_hints_23 : decode cX8_hints 23 = .ok (.goto 4, 3) := by decide +kernel
theorem dX8_hints_26 : decode cX8_hints 26 = .ok (.iconst 0, 1) := by decide +kernel
theorem dX8_hints_27 : decode cX8_hints 27 = .ok (.iadd, 1) := by decide +kernel
theorem dX8_hints_28 : decode cX8_hints 28 = .ok (.istore_n 1, 1) := by decide +kernel
theorem dX8_hints_29 : decode cX8_hints 29 = .ok (.iinc 2 1, 3) := by decide +kernel
theorem dX8_hints_32 : decode cX8_hints 32 = .ok (.goto (-28), 3) := by decide +kernel
theorem dX8_hints_35 : decode cX8_hints 35 = .ok (.iload_n 1, 1) := by decide +kernel
theorem dX8_hints_36 : decode cX8_hints 36 = .ok (.ireturn, 1) := by decide +kernel
theorem dX8_thereOf_0 : decode cX8_thereOf 0 = .ok (.iconst 0, 1) := by decide +kernel
theorem dX8_thereOf_1 : decode cX8_thereOf 1 = .ok (.istore_n 2, 1) := by decide +kernel
theorem dX8_thereOf_2 : decode cX8_thereOf 2 = .ok (.iconst 0, 1) := by decide +kernel
theorem dX8_thereOf_3 : decode cX8_thereOf 3 = .ok (.istore_n 3, 1) := by decide +kernel
theorem dX8_thereOf_4 : decode cX8_thereOf 4 = .ok (.iload_n 3, 1) := by decide +kernel
theorem dX8_thereOf_5 : decode cX8_thereOf 5 = .ok (.bipush 6, 2) := by decide +kernel
theorem dX8_thereOf_7 : decode cX8_thereOf 7 = .ok (.if_icmp .ge 90, 3) := by decide +kernel
theorem dX8_thereOf_10 : decode cX8_thereOf 10 = .ok (.iload_n 2, 1) := by decide +kernel
theorem dX8_thereOf_11 : decode cX8_thereOf 11 = .ok (.iload_n 1, 1) := by decide +kernel
theorem dX8_thereOf_12 : decode cX8_thereOf 12 = .ok (.bipush 8, 2) := by decide +kernel
theorem dX8_thereOf_14 : decode cX8_thereOf 14 = .ok (.if_icmp .ne 20, 3) := by decide +kernel
theorem dX8_thereOf_17 : decode cX8_thereOf 17 = .ok (.aload_n 0, 1) := by decide +kernel
theorem dX8_thereOf_18 : decode cX8_thereOf 18 = .ok (.getfield 25, 3) := by decide +kernel
theorem dX8_thereOf_21 : decode cX8_thereOf 21 = .ok (.iload_n 3, 1) := by decide +kernel
theorem dX8_thereOf_22 : decode cX8_thereOf 22 = .ok (.iaload, 1) := by decide +kernel
theorem dX8_thereOf_23 : decode cX8_thereOf 23 = .ok (.ifCond .ge 7, 3) := by decide +kernel
theorem dX8_thereOf_26 : decode cX8_thereOf 26 = .ok (.iconst 0, 1) := by decide +kernel
theorem dX8_thereOf_27 : decode cX8_thereOf 27 = .ok (.goto 62, 3) := by decide +kernel
theorem dX8_thereOf_30 : decode cX8_thereOf 30 = .ok (.iconst 1, 1) := by decide +kernel
theorem dX8_thereOf_31 : decode cX8_thereOf 31 = .ok (.goto 58, 3) := by decide +kernel
theorem dX8_thereOf_34 : decode cX8_thereOf 34 = .ok (.iload_n 1, 1) := by decide +kernel
theorem dX8_thereOf_35 : decode cX8_thereOf 35 = .ok (.bipush 9, 2) := by decide +kernel
theorem dX8_thereOf_37 : decode cX8_thereOf 37 = .ok (.if_icmp .ne 25, 3) := by decide +kernel
theorem dX8_thereOf_40 : decode cX8_thereOf 40 = .ok (.iload_n 3, 1) := by decide +kernel
theorem dX8_thereOf_41 : decode cX8_thereOf 41 = .ok (.iconst 4, 1) := by decide +kernel
theorem dX8_thereOf_42 : decode cX8_thereOf 42 = .ok (.if_icmp .ge 16, 3) := by decide +kernel
theorem dX8_thereOf_45 : decode cX8_thereOf 45 = .ok (.aload_n 0, 1) := by decide +kernel
theorem dX8_thereOf_46 : decode cX8_thereOf 46 = .ok (.getfield 31, 3) := by decide +kernel
theorem dX8_thereOf_49 : decode cX8_thereOf 49 = .ok (.iload_n 3, 1) := by decide +kernel
theorem dX8_thereOf_50 : decode cX8_thereOf 50 = .ok (.iaload, 1) := by decide +kernel
theorem dX8_thereOf_51 : decode cX8_thereOf 51 = .ok (.ifCond .lt 7, 3) := by decide +kernel
theorem dX8_thereOf_54 : decode cX8_thereOf 54 = .ok (.iconst 1, 1) := by decide +kernel
theorem dX8_thereOf_55 : decode cX8_thereOf 55 = .ok (.goto 34, 3) := by decide +kernel
theorem dX8_thereOf_58 : decode cX8_thereOf 58 = .ok (.iconst 0, 1) := by decide +kernel
theorem dX8_thereOf_59 : decode cX8_thereOf 59 = .ok (.goto 30, 3) := by decide +kernel
theorem dX8_thereOf_62 : decode cX8_thereOf 62 = .ok (.iload_n 3, 1) := by decide +kernel
theorem dX8_thereOf_63 : decode cX8_thereOf 63 = .ok (.iconst 3, 1) := by decide +kernel
theorem dX8_thereOf_64 : decode cX8_thereOf 64 = .ok (.if_icmp .ge 24, 3) := by decide +kernel
theorem dX8_thereOf_67 : decode cX8_thereOf 67 = .ok (.aload_n 0, 1) := by decide +kernel
theorem dX8_thereOf_68 : decode cX8_thereOf 68 = .ok (.getfield 7, 3) := by decide +kernel
theorem dX8_thereOf_71 : decode cX8_thereOf 71 = .ok (.sipush 411, 3) := by decide +kernel
theorem dX8_thereOf_74 : decode cX8_thereOf 74 = .ok (.iconst 1, 1) := by decide +kernel
theorem dX8_thereOf_75 : decode cX8_thereOf 75 = .ok (.iload_n 3, 1) := by decide +kernel
theorem dX8_thereOf_76 : decode cX8_thereOf 76 = .ok (.iadd, 1) := by decide +kernel
theorem dX8_thereOf_77 : decode cX8_thereOf 77 = .ok (.imul, 1) := by decide +kernel
theorem dX8_thereOf_78 : decode cX8_thereOf 78 = .ok (.iconst 0, 1) := by decide +kernel
theorem dX8_thereOf_79 : decode cX8_thereOf 79 = .ok (.iadd, 1) := by decide +kernel
theorem dX8_thereOf_80 : decode cX8_thereOf 80 = .ok (.iaload, 1) := by decide +kernel
theorem dX8_thereOf_81 : decode cX8_thereOf 81 = .ok (.ifCond .lt 7, 3) := by decide +kernel
theorem dX8_thereOf_84 : decode cX8_thereOf 84 = .ok (.iconst 1, 1) := by decide +kernel
theorem dX8_thereOf_85 : decode cX8_thereOf 85 = .ok (.goto 4, 3) := by decide +kernel
theorem dX8_thereOf_88 : decode cX8_thereOf 88 = .ok (.iconst 0, 1) := by decide +kernel
theorem dX8_thereOf_89 : decode cX8_thereOf 89 = .ok (.iadd, 1) := by decide +kernel
theorem dX8_thereOf_90 : decode cX8_thereOf 90 = .ok (.istore_n 2, 1) := by decide +kernel
theorem dX8_thereOf_91 : decode cX8_thereOf 91 = .ok (.iinc 3 1, 3) := by decide +kernel
theorem dX8_thereOf_94 : decode cX8_thereOf 94 = .ok (.goto (-90), 3) := by decide +kernel
theorem dX8_thereOf_97 : decode cX8_thereOf 97 = .ok (.iload_n 2, 1) := by decide +kernel
theorem dX8_thereOf_98 : decode cX8_thereOf 98 = .ok (.ireturn, 1) := by decide +kernel
set_option maxRecDepth 20000 in
theorem ggX8_countOf_X8_hints : GoodIn wsX8_countOf wsX8_hints := goodIn_r _ [8, 1, 9, 10, 11, 7, 12, 13, 20, 21, 22, 23, 24, 25, 26, 27, 28, 29, 30, 31, 32, 33, 34, 35, 36, 37, 38, 39, 40, 41, 42, 43, 44, 45, 46, 47, 48, 49, 50, 51, 52] (by decide +kernel) (by decide +kernel)
set_option maxRecDepth 20000 in
theorem gX8_countOf_X8_hints : GoodIn wsX8_countOf (wsV RX8 308 RX8 yX8_hints wsX8_hints) := goodIn_app (goodIn_of _ (by decide +kernel)) ggX8_countOf_X8_hints
set_option maxRecDepth 20000 in
theorem ggX8_countOf_X8_thereOf : GoodIn wsX8_countOf wsX8_thereOf := goodIn_r _ [17, 18, 19, 3, 20, 21, 22, 23, 24, 25, 26, 27, 28, 29, 30, 31, 32, 33, 34, 35, 36, 37, 38, 39, 40, 41, 42, 43, 44, 45, 46, 47, 48, 49, 50, 51, 52] (by decide +kernel) (by decide +kernel)
set_option maxRecDepth 20000 in
theorem gX8_countOf_X8_thereOf : GoodIn wsX8_countOf (wsV RX8 311 RX8 yX8_thereOf wsX8_thereOf) := goodIn_app (goodIn_of _ (by decide +kernel)) ggX8_countOf_X8_thereOf
theorem dX8_countOf_0 : decode cX8_countOf 0 = .ok (.iload_n 1, 1) := by decide +kernel
theorem dX8_countOf_1 : decode cX8_countOf 1 = .ok (.tableswitch 97 0 7 #[47, 52, 57, 64, 71, 78, 85, 92], 47) := by decide +kernel
theorem dX8_countOf_48 : decode cX8_countOf 48 = .ok (.aload_n 0, 1) := by decide +kernel
theorem dX8_countOf_49 : decode cX8_countOf 49 = .ok (.getfield 167, 3) := by decide +kernel
theorem dX8_countOf_52 : decode cX8_countOf 52 = .ok (.ireturn, 1) := by decide +kernel
theorem dX8_countOf_53 : decode cX8_countOf 53 = .ok (.aload_n 0, 1) := by decide +kernel
theorem dX8_countOf_54 : decode cX8_countOf 54 = .ok (.getfield 164, 3) := by decide +kernel
theorem dX8_countOf_57 : decode cX8_countOf 57 = .ok (.ireturn, 1) := by decide +kernel
theorem dX8_countOf_58 : decode cX8_countOf 58 = .ok (.aload_n 0, 1) := by decide +kernel
theorem dX8_countOf_59 : decode cX8_countOf 59 = .ok (.getfield 7, 3) := by decide +kernel
theorem dX8_countOf_62 : decode cX8_countOf 62 = .ok (.iconst 1, 1) := by decide +kernel
theorem dX8_countOf_63 : decode cX8_countOf 63 = .ok (.iaload, 1) := by decide +kernel
theorem dX8_countOf_64 : decode cX8_countOf 64 = .ok (.ireturn, 1) := by decide +kernel
theorem dX8_countOf_65 : decode cX8_countOf 65 = .ok (.aload_n 0, 1) := by decide +kernel
theorem dX8_countOf_66 : decode cX8_countOf 66 = .ok (.getfield 7, 3) := by decide +kernel
theorem dX8_countOf_69 : decode cX8_countOf 69 = .ok (.iconst 0, 1) := by decide +kernel
theorem dX8_countOf_70 : decode cX8_countOf 70 = .ok (.iaload, 1) := by decide +kernel
theorem dX8_countOf_71 : decode cX8_countOf 71 = .ok (.ireturn, 1) := by decide +kernel
theorem dX8_countOf_72 : decode cX8_countOf 72 = .ok (.aload_n 0, 1) := by decide +kernel
theorem dX8_countOf_73 : decode cX8_countOf 73 = .ok (.getfield 7, 3) := by decide +kernel
theorem dX8_countOf_76 : decode cX8_countOf 76 = .ok (.iconst 2, 1) := by decide +kernel
theorem dX8_countOf_77 : decode cX8_countOf 77 = .ok (.iaload, 1) := by decide +kernel
theorem dX8_countOf_78 : decode cX8_countOf 78 = .ok (.ireturn, 1) := by decide +kernel
theorem dX8_countOf_79 : decode cX8_countOf 79 = .ok (.aload_n 0, 1) := by decide +kernel
theorem dX8_countOf_80 : decode cX8_countOf 80 = .ok (.getfield 7, 3) := by decide +kernel
theorem dX8_countOf_83 : decode cX8_countOf 83 = .ok (.iconst 3, 1) := by decide +kernel
theorem dX8_countOf_84 : decode cX8_countOf 84 = .ok (.iaload, 1) := by decide +kernel
theorem dX8_countOf_85 : decode cX8_countOf 85 = .ok (.ireturn, 1) := by decide +kernel
theorem dX8_countOf_86 : decode cX8_countOf 86 = .ok (.aload_n 0, 1) := by decide +kernel
theorem dX8_countOf_87 : decode cX8_countOf 87 = .ok (.getfield 7, 3) := by decide +kernel
theorem dX8_countOf_90 : decode cX8_countOf 90 = .ok (.iconst 4, 1) := by decide +kernel
theorem dX8_countOf_91 : decode cX8_countOf 91 = .ok (.iaload, 1) := by decide +kernel
theorem dX8_countOf_92 : decode cX8_countOf 92 = .ok (.ireturn, 1) := by decide +kernel
theorem dX8_countOf_93 : decode cX8_countOf 93 = .ok (.aload_n 0, 1) := by decide +kernel
theorem dX8_countOf_94 : decode cX8_countOf 94 = .ok (.invokevirtual 308, 3) := by decide +kernel
theorem dX8_countOf_97 : decode cX8_countOf 97 = .ok (.ireturn, 1) := by decide +kernel
theorem dX8_countOf_98 : decode cX8_countOf 98 = .ok (.aload_n 0, 1) := by decide +kernel
theorem dX8_countOf_99 : decode cX8_countOf 99 = .ok (.iload_n 1, 1) := by decide +kernel
theorem dX8_countOf_100 : decode cX8_countOf 100 = .ok (.invokevirtual 311, 3) := by decide +kernel
theorem dX8_countOf_103 : decode cX8_countOf 103 = .ok (.ireturn, 1) := by decide +kernel
set_option maxRecDepth 20000 in
theorem ggX8_count_X8_in : GoodIn wsX8_count wsX8_in := goodIn_r _ [5] (by decide +kernel) (by decide +kernel)
set_option maxRecDepth 20000 in
theorem gX8_count_X8_in : GoodIn wsX8_count (va_wsS RX8 81 yX8_in wsX8_in) := goodIn_app (goodIn_of _ (by decide +kernel)) ggX8_count_X8_in
set_option maxRecDepth 20000 in
theorem ggX8_count_X8_countOf : GoodIn wsX8_count wsX8_countOf := goodIn_r _ [9, 10, 11, 12, 13, 14, 15, 4, 16, 17, 18, 19, 20, 21, 22, 23, 24, 25, 26, 27, 28, 29, 30, 31, 32, 33, 34, 35, 36, 37, 38, 39, 40, 41, 42, 43, 44, 45, 46, 47, 48, 49, 50, 51, 52, 53, 54, 55, 56, 57, 58, 59, 60] (by decide +kernel) (by decide +kernel)
set_option maxRecDepth 20000 in
theorem gX8_count_X8_countOf : GoodIn wsX8_count (wsV RX8 316 RX8 yX8_countOf wsX8_countOf) := goodIn_app (goodIn_of _ (by decide +kernel)) ggX8_count_X8_countOf
theorem dX8_count_0 : decode cX8_count 0 = .ok (.iload_n 1, 1) := by decide +kernel
theorem dX8_count_1 : decode cX8_count 1 = .ok (.i2l, 1) := by decide +kernel
theorem dX8_count_2 : decode cX8_count 2 = .ok (.lconst 0, 1) := by decide +kernel
theorem dX8_count_3 : decode cX8_count 3 = .ok (.ldc2_w 314, 3) := by decide +kernel
theorem dX8_count_6 : decode cX8_count 6 = .ok (.invokestatic 81, 3) := by decide +kernel
theorem dX8_count_9 : decode cX8_count 9 = .ok (.ifCond .eq 11, 3) := by decide +kernel
theorem dX8_count_12 : decode cX8_count 12 = .ok (.aload_n 0, 1) := by decide +kernel
theorem dX8_count_13 : decode cX8_count 13 = .ok (.iload_n 1, 1) := by decide +kernel
theorem dX8_count_14 : decode cX8_count 14 = .ok (.invokevirtual 316, 3) := by decide +kernel
theorem dX8_count_17 : decode cX8_count 17 = .ok (.goto 4, 3) := by decide +kernel
theorem dX8_count_20 : decode cX8_count 20 = .ok (.iconst (-1), 1) := by decide +kernel
theorem dX8_count_21 : decode cX8_count 21 = .ok (.ireturn, 1) := by decide +kernel
theorem dX8_finding_0 : decode cX8_finding 0 = .ok (.aload_n 0, 1) := by decide +kernel
theorem dX8_finding_1 : decode cX8_finding 1 = .ok (.getfield 72, 3) := by decide +kernel
theorem dX8_finding_4 : decode cX8_finding 4 = .ok (.ireturn, 1) := by decide +kernel
set_option maxRecDepth 20000 in
theorem ggX8_findings_X8_in : GoodIn wsX8_findings wsX8_in := goodIn_r _ [6] (by decide +kernel) (by decide +kernel)
set_option maxRecDepth 20000 in
theorem gX8_findings_X8_in : GoodIn wsX8_findings (va_wsS RX8 81 yX8_in wsX8_in) := goodIn_app (goodIn_of _ (by decide +kernel)) ggX8_findings_X8_in
theorem dX8_findings_0 : decode cX8_findings 0 = .ok (.iload_n 1, 1) := by decide +kernel
theorem dX8_findings_1 : decode cX8_findings 1 = .ok (.i2l, 1) := by decide +kernel
theorem dX8_findings_2 : decode cX8_findings 2 = .ok (.lconst 1, 1) := by decide +kernel
theorem dX8_findings_3 : decode cX8_findings 3 = .ok (.ldc2_w 79, 3) := by decide +kernel
theorem dX8_findings_6 : decode cX8_findings 6 = .ok (.invokestatic 81, 3) := by decide +kernel
theorem dX8_findings_9 : decode cX8_findings 9 = .ok (.ifCond .eq 12, 3) := by decide +kernel
theorem dX8_findings_12 : decode cX8_findings 12 = .ok (.aload_n 0, 1) := by decide +kernel
theorem dX8_findings_13 : decode cX8_findings 13 = .ok (.getfield 41, 3) := by decide +kernel
theorem dX8_findings_16 : decode cX8_findings 16 = .ok (.iload_n 1, 1) := by decide +kernel
theorem dX8_findings_17 : decode cX8_findings 17 = .ok (.iaload, 1) := by decide +kernel
theorem dX8_findings_18 : decode cX8_findings 18 = .ok (.goto 4, 3) := by decide +kernel
theorem dX8_findings_21 : decode cX8_findings 21 = .ok (.iconst (-1), 1) := by decide +kernel
theorem dX8_findings_22 : decode cX8_findings 22 = .ok (.ireturn, 1) := by decide +kernel
set_option maxRecDepth 20000 in
theorem ggX8_digest_X8_countOf : GoodIn wsX8_digest wsX8_countOf := goodIn_r _ [16, 5, 3, 7, 17, 18, 19, 15, 20, 21, 22, 23, 24, 25, 26, 27, 28, 29, 8, 10, 49, 50, 51, 52, 53, 54, 55, 56, 57, 58, 59, 60, 61, 62, 63, 64, 65, 66, 67, 68, 69, 70, 71, 72, 73, 74, 75, 76, 77, 78, 79, 80, 81] (by decide +kernel) (by decide +kernel)
set_option maxRecDepth 20000 in
theorem gX8_digest_X8_countOf : GoodIn wsX8_digest (wsV RX8 316 RX8 yX8_countOf wsX8_countOf) := goodIn_app (goodIn_of _ (by decide +kernel)) ggX8_digest_X8_countOf
set_option maxRecDepth 20000 in
theorem ggX8_digest_X8_toldOf : GoodIn wsX8_digest wsX8_toldOf := goodIn_r _ [33, 25, 34, 35, 7, 36, 37, 38, 15, 39, 40, 41, 42, 43, 44, 45, 46, 47, 48, 49, 50, 51, 52, 53, 54, 55, 56, 57, 58, 59, 60, 61, 62, 63, 64, 65, 66, 67, 68, 69, 70, 71, 72, 73, 74, 75, 76, 77, 78, 79, 80, 81] (by decide +kernel) (by decide +kernel)
set_option maxRecDepth 20000 in
theorem gX8_digest_X8_toldOf : GoodIn wsX8_digest (wsV RX8 191 RX8 yX8_toldOf wsX8_toldOf) := goodIn_app (goodIn_of _ (by decide +kernel)) ggX8_digest_X8_toldOf
theorem dX8_digest_0 : decode cX8_digest 0 = .ok (.ldc2_w 319, 3) := by decide +kernel
theorem dX8_digest_3 : decode cX8_digest 3 = .ok (.lstore_n 1, 1) := by decide +kernel
theorem dX8_digest_4 : decode cX8_digest 4 = .ok (.iconst 0, 1) := by decide +kernel
theorem dX8_digest_5 : decode cX8_digest 5 = .ok (.istore_n 3, 1) := by decide +kernel
theorem dX8_digest_6 : decode cX8_digest 6 = .ok (.iload_n 3, 1) := by decide +kernel
theorem dX8_digest_7 : decode cX8_digest 7 = .ok (.bipush 11, 2) := by decide +kernel
theorem dX8_digest_9 : decode cX8_digest 9 = .ok (.if_icmp .ge 22, 3) := by decide +kernel
theorem dX8_digest_12 : decode cX8_digest 12 = .ok (.ldc2_w 321, 3) := by decide +kernel
theorem dX8_digest_15 : decode cX8_digest 15 = .ok (.lload_n 1, 1) := by decide +kernel
theorem dX8_digest_16 : decode cX8_digest 16 = .ok (.lmul, 1) := by decide +kernel
theorem dX8_digest_17 : decode cX8_digest 17 = .ok (.aload_n 0, 1) := by decide +kernel
theorem dX8_digest_18 : decode cX8_digest 18 = .ok (.iload_n 3, 1) := by decide +kernel
theorem dX8_digest_19 : decode cX8_digest 19 = .ok (.invokevirtual 316, 3) := by decide +kernel
theorem dX8_digest_22 : decode cX8_digest 22 = .ok (.i2l, 1) := by decide +kernel
theorem dX8_digest_23 : decode cX8_digest 23 = .ok (.ladd, 1) := by decide +kernel
theorem dX8_digest_24 : decode cX8_digest 24 = .ok (.lstore_n 1, 1) := by decide +kernel
theorem dX8_digest_25 : decode cX8_digest 25 = .ok (.iinc 3 1, 3) := by decide +kernel
theorem dX8_digest_28 : decode cX8_digest 28 = .ok (.goto (-22), 3) := by decide +kernel
theorem dX8_digest_31 : decode cX8_digest 31 = .ok (.iconst 0, 1) := by decide +kernel
theorem dX8_digest_32 : decode cX8_digest 32 = .ok (.istore_n 3, 1) := by decide +kernel
theorem dX8_digest_33 : decode cX8_digest 33 = .ok (.iload_n 3, 1) := by decide +kernel
theorem dX8_digest_34 : decode cX8_digest 34 = .ok (.aload_n 0, 1) := by decide +kernel
theorem dX8_digest_35 : decode cX8_digest 35 = .ok (.getfield 164, 3) := by decide +kernel
theorem dX8_digest_38 : decode cX8_digest 38 = .ok (.if_icmp .ge 23, 3) := by decide +kernel
theorem dX8_digest_41 : decode cX8_digest 41 = .ok (.ldc2_w 321, 3) := by decide +kernel
theorem dX8_digest_44 : decode cX8_digest 44 = .ok (.lload_n 1, 1) := by decide +kernel
theorem dX8_digest_45 : decode cX8_digest 45 = .ok (.lmul, 1) := by decide +kernel
theorem dX8_digest_46 : decode cX8_digest 46 = .ok (.aload_n 0, 1) := by decide +kernel
theorem dX8_digest_47 : decode cX8_digest 47 = .ok (.getfield 13, 3) := by decide +kernel
theorem dX8_digest_50 : decode cX8_digest 50 = .ok (.iload_n 3, 1) := by decide +kernel
theorem dX8_digest_51 : decode cX8_digest 51 = .ok (.iaload, 1) := by decide +kernel
theorem dX8_digest_52 : decode cX8_digest 52 = .ok (.i2l, 1) := by decide +kernel
theorem dX8_digest_53 : decode cX8_digest 53 = .ok (.ladd, 1) := by decide +kernel
theorem dX8_digest_54 : decode cX8_digest 54 = .ok (.lstore_n 1, 1) := by decide +kernel
theorem dX8_digest_55 : decode cX8_digest 55 = .ok (.iinc 3 1, 3) := by decide +kernel
theorem dX8_digest_58 : decode cX8_digest 58 = .ok (.goto (-25), 3) := by decide +kernel
theorem dX8_digest_61 : decode cX8_digest 61 = .ok (.iconst 0, 1) := by decide +kernel
theorem dX8_digest_62 : decode cX8_digest 62 = .ok (.istore_n 3, 1) := by decide +kernel
theorem dX8_digest_63 : decode cX8_digest 63 = .ok (.iload_n 3, 1) := by decide +kernel
theorem dX8_digest_64 : decode cX8_digest 64 = .ok (.iconst 5, 1) := by decide +kernel
theorem dX8_digest_65 : decode cX8_digest 65 = .ok (.aload_n 0, 1) := by decide +kernel
theorem dX8_digest_66 : decode cX8_digest 66 = .ok (.getfield 167, 3) := by decide +kernel
theorem dX8_digest_69 : decode cX8_digest 69 = .ok (.imul, 1) := by decide +kernel
theorem dX8_digest_70 : decode cX8_digest 70 = .ok (.if_icmp .ge 27, 3) := by decide +kernel
theorem dX8_digest_73 : decode cX8_digest 73 = .ok (.ldc2_w 321, 3) := by decide +kernel
theorem dX8_digest_76 : decode cX8_digest 76 = .ok (.lload_n 1, 1) := by decide +kernel
theorem dX8_digest_77 : decode cX8_digest 77 = .ok (.lmul, 1) := by decide +kernel
theorem dX8_digest_78 : decode cX8_digest 78 = .ok (.aload_n 0, 1) := by decide +kernel
theorem dX8_digest_79 : decode cX8_digest 79 = .ok (.iload_n 3, 1) := by decide +kernel
theorem dX8_digest_80 : decode cX8_digest 80 = .ok (.iconst 5, 1) := by decide +kernel
theorem dX8_digest_81 : decode cX8_digest 81 = .ok (.idiv, 1) := by decide +kernel
theorem dX8_digest_82 : decode cX8_digest 82 = .ok (.iload_n 3, 1) := by decide +kernel
theorem dX8_digest_83 : decode cX8_digest 83 = .ok (.iconst 5, 1) := by decide +kernel
theorem dX8_digest_84 : decode cX8_digest 84 = .ok (.irem, 1) := by decide +kernel
theorem dX8_digest_85 : decode cX8_digest 85 = .ok (.invokevirtual 191, 3) := by decide +kernel
theorem dX8_digest_88 : decode cX8_digest 88 = .ok (.i2l, 1) := by decide +kernel
theorem dX8_digest_89 : decode cX8_digest 89 = .ok (.ladd, 1) := by decide +kernel
theorem dX8_digest_90 : decode cX8_digest 90 = .ok (.lstore_n 1, 1) := by decide +kernel
theorem dX8_digest_91 : decode cX8_digest 91 = .ok (.iinc 3 1, 3) := by decide +kernel
theorem dX8_digest_94 : decode cX8_digest 94 = .ok (.goto (-31), 3) := by decide +kernel
theorem dX8_digest_97 : decode cX8_digest 97 = .ok (.ldc2_w 321, 3) := by decide +kernel
theorem dX8_digest_100 : decode cX8_digest 100 = .ok (.lload_n 1, 1) := by decide +kernel
theorem dX8_digest_101 : decode cX8_digest 101 = .ok (.lmul, 1) := by decide +kernel
theorem dX8_digest_102 : decode cX8_digest 102 = .ok (.aload_n 0, 1) := by decide +kernel
theorem dX8_digest_103 : decode cX8_digest 103 = .ok (.getfield 170, 3) := by decide +kernel
theorem dX8_digest_106 : decode cX8_digest 106 = .ok (.i2l, 1) := by decide +kernel
theorem dX8_digest_107 : decode cX8_digest 107 = .ok (.ladd, 1) := by decide +kernel
theorem dX8_digest_108 : decode cX8_digest 108 = .ok (.lstore_n 1, 1) := by decide +kernel
theorem dX8_digest_109 : decode cX8_digest 109 = .ok (.iconst 1, 1) := by decide +kernel
theorem dX8_digest_110 : decode cX8_digest 110 = .ok (.istore_n 3, 1) := by decide +kernel
theorem dX8_digest_111 : decode cX8_digest 111 = .ok (.iload_n 3, 1) := by decide +kernel
theorem dX8_digest_112 : decode cX8_digest 112 = .ok (.iconst 4, 1) := by decide +kernel
theorem dX8_digest_113 : decode cX8_digest 113 = .ok (.if_icmp .ge 29, 3) := by decide +kernel
theorem dX8_digest_116 : decode cX8_digest 116 = .ok (.ldc2_w 321, 3) := by decide +kernel
theorem dX8_digest_119 : decode cX8_digest 119 = .ok (.lload_n 1, 1) := by decide +kernel
theorem dX8_digest_120 : decode cX8_digest 120 = .ok (.lmul, 1) := by decide +kernel
theorem dX8_digest_121 : decode cX8_digest 121 = .ok (.aload_n 0, 1) := by decide +kernel
theorem dX8_digest_122 : decode cX8_digest 122 = .ok (.getfield 7, 3) := by decide +kernel
theorem dX8_digest_125 : decode cX8_digest 125 = .ok (.sipush 411, 3) := by decide +kernel
theorem dX8_digest_128 : decode cX8_digest 128 = .ok (.iload_n 3, 1) := by decide +kernel
theorem dX8_digest_129 : decode cX8_digest 129 = .ok (.imul, 1) := by decide +kernel
theorem dX8_digest_130 : decode cX8_digest 130 = .ok (.iconst 0, 1) := by decide +kernel
theorem dX8_digest_131 : decode cX8_digest 131 = .ok (.iadd, 1) := by decide +kernel
theorem dX8_digest_132 : decode cX8_digest 132 = .ok (.iaload, 1) := by decide +kernel
theorem dX8_digest_133 : decode cX8_digest 133 = .ok (.i2l, 1) := by decide +kernel
theorem dX8_digest_134 : decode cX8_digest 134 = .ok (.ladd, 1) := by decide +kernel
theorem dX8_digest_135 : decode cX8_digest 135 = .ok (.lstore_n 1, 1) := by decide +kernel
theorem dX8_digest_136 : decode cX8_digest 136 = .ok (.iinc 3 1, 3) := by decide +kernel
theorem dX8_digest_139 : decode cX8_digest 139 = .ok (.goto (-28), 3) := by decide +kernel
theorem dX8_digest_142 : decode cX8_digest 142 = .ok (.iconst 0, 1) := by decide +kernel
theorem dX8_digest_143 : decode cX8_digest 143 = .ok (.istore_n 3, 1) := by decide +kernel
theorem dX8_digest_144 : decode cX8_digest 144 = .ok (.iload_n 3, 1) := by decide +kernel
theorem dX8_digest_145 : decode cX8_digest 145 = .ok (.bipush 6, 2) := by decide +kernel
theorem dX8_digest_147 : decode cX8_digest 147 = .ok (.if_icmp .ge 63, 3) := by decide +kernel
theorem dX8_digest_150 : decode cX8_digest 150 = .ok (.ldc2_w 321, 3) := by decide +kernel
theorem dX8_digest_153 : decode cX8_digest 153 = .ok (.lload_n 1, 1) := by decide +kernel
theorem dX8_digest_154 : decode cX8_digest 154 = .ok (.lmul, 1) := by decide +kernel
theorem dX8_digest_155 : decode cX8_digest 155 = .ok (.aload_n 0, 1) := by decide +kernel
theorem dX8_digest_156 : decode cX8_digest 156 = .ok (.getfield 25, 3) := by decide +kernel
theorem dX8_digest_159 : decode cX8_digest 159 = .ok (.iload_n 3, 1) := by decide +kernel
theorem dX8_digest_160 : decode cX8_digest 160 = .ok (.iaload, 1) := by decide +kernel
theorem dX8_digest_161 : decode cX8_digest 161 = .ok (.i2l, 1) := by decide +kernel
theorem dX8_digest_162 : decode cX8_digest 162 = .ok (.ladd, 1) := by decide +kernel
theorem dX8_digest_163 : decode cX8_digest 163 = .ok (.lstore_n 1, 1) := by decide +kernel
theorem dX8_digest_164 : decode cX8_digest 164 = .ok (.iconst 0, 1) := by decide +kernel
theorem dX8_digest_165 : decode cX8_digest 165 = .ok (.istore 4, 2) := by decide +kernel
theorem dX8_digest_167 : decode cX8_digest 167 = .ok (.iload 4, 2) := by decide +kernel
theorem dX8_digest_169 : decode cX8_digest 169 = .ok (.aload_n 0, 1) := by decide +kernel
theorem dX8_digest_170 : decode cX8_digest 170 = .ok (.getfield 25, 3) := by decide +kernel
theorem dX8_digest_173 : decode cX8_digest 173 = .ok (.iload_n 3, 1) := by decide +kernel
theorem dX8_digest_174 : decode cX8_digest 174 = .ok (.iaload, 1) := by decide +kernel
theorem dX8_digest_175 : decode cX8_digest 175 = .ok (.if_icmp .ge 29, 3) := by decide +kernel
theorem dX8_digest_178 : decode cX8_digest 178 = .ok (.ldc2_w 321, 3) := by decide +kernel
theorem dX8_digest_181 : decode cX8_digest 181 = .ok (.lload_n 1, 1) := by decide +kernel
theorem dX8_digest_182 : decode cX8_digest 182 = .ok (.lmul, 1) := by decide +kernel
theorem dX8_digest_183 : decode cX8_digest 183 = .ok (.aload_n 0, 1) := by decide +kernel
theorem dX8_digest_184 : decode cX8_digest 184 = .ok (.getfield 28, 3) := by decide +kernel
theorem dX8_digest_187 : decode cX8_digest 187 = .ok (.bipush 40, 2) := by decide +kernel
theorem dX8_digest_189 : decode cX8_digest 189 = .ok (.iload_n 3, 1) := by decide +kernel
theorem dX8_digest_190 : decode cX8_digest 190 = .ok (.imul, 1) := by decide +kernel
theorem dX8_digest_191 : decode cX8_digest 191 = .ok (.iload 4, 2) := by decide +kernel
theorem dX8_digest_193 : decode cX8_digest 193 = .ok (.iadd, 1) := by decide +kernel
theorem dX8_digest_194 : decode cX8_digest 194 = .ok (.iaload, 1) := by decide +kernel
theorem dX8_digest_195 : decode cX8_digest 195 = .ok (.i2l, 1) := by decide +kernel
theorem dX8_digest_196 : decode cX8_digest 196 = .ok (.ladd, 1) := by decide +kernel
theorem dX8_digest_197 : decode cX8_digest 197 = .ok (.lstore_n 1, 1) := by decide +kernel
theorem dX8_digest_198 : decode cX8_digest 198 = .ok (.iinc 4 1, 3) := by decide +kernel
theorem dX8_digest_201 : decode cX8_digest 201 = .ok (.goto (-34), 3) := by decide +kernel
theorem dX8_digest_204 : decode cX8_digest 204 = .ok (.iinc 3 1, 3) := by decide +kernel
theorem dX8_digest_207 : decode cX8_digest 207 = .ok (.goto (-63), 3) := by decide +kernel
theorem dX8_digest_210 : decode cX8_digest 210 = .ok (.iconst 0, 1) := by decide +kernel
theorem dX8_digest_211 : decode cX8_digest 211 = .ok (.istore_n 3, 1) := by decide +kernel
theorem dX8_digest_212 : decode cX8_digest 212 = .ok (.iload_n 3, 1) := by decide +kernel
theorem dX8_digest_213 : decode cX8_digest 213 = .ok (.iconst 4, 1) := by decide +kernel
theorem dX8_digest_214 : decode cX8_digest 214 = .ok (.if_icmp .ge 63, 3) := by decide +kernel
theorem dX8_digest_217 : decode cX8_digest 217 = .ok (.ldc2_w 321, 3) := by decide +kernel
theorem dX8_digest_220 : decode cX8_digest 220 = .ok (.lload_n 1, 1) := by decide +kernel
theorem dX8_digest_221 : decode cX8_digest 221 = .ok (.lmul, 1) := by decide +kernel
theorem dX8_digest_222 : decode cX8_digest 222 = .ok (.aload_n 0, 1) := by decide +kernel
theorem dX8_digest_223 : decode cX8_digest 223 = .ok (.getfield 31, 3) := by decide +kernel
theorem dX8_digest_226 : decode cX8_digest 226 = .ok (.iload_n 3, 1) := by decide +kernel
theorem dX8_digest_227 : decode cX8_digest 227 = .ok (.iaload, 1) := by decide +kernel
theorem dX8_digest_228 : decode cX8_digest 228 = .ok (.i2l, 1) := by decide +kernel
theorem dX8_digest_229 : decode cX8_digest 229 = .ok (.ladd, 1) := by decide +kernel
theorem dX8_digest_230 : decode cX8_digest 230 = .ok (.lstore_n 1, 1) := by decide +kernel
theorem dX8_digest_231 : decode cX8_digest 231 = .ok (.iconst 0, 1) := by decide +kernel
theorem dX8_digest_232 : decode cX8_digest 232 = .ok (.istore 4, 2) := by decide +kernel
theorem dX8_digest_234 : decode cX8_digest 234 = .ok (.iload 4, 2) := by decide +kernel
theorem dX8_digest_236 : decode cX8_digest 236 = .ok (.aload_n 0, 1) := by decide +kernel
theorem dX8_digest_237 : decode cX8_digest 237 = .ok (.getfield 31, 3) := by decide +kernel
theorem dX8_digest_240 : decode cX8_digest 240 = .ok (.iload_n 3, 1) := by decide +kernel
theorem dX8_digest_241 : decode cX8_digest 241 = .ok (.iaload, 1) := by decide +kernel
theorem dX8_digest_242 : decode cX8_digest 242 = .ok (.if_icmp .ge 29, 3) := by decide +kernel
theorem dX8_digest_245 : decode cX8_digest 245 = .ok (.ldc2_w 321, 3) := by decide +kernel
theorem dX8_digest_248 : decode cX8_digest 248 = .ok (.lload_n 1, 1) := by decide +kernel
theorem dX8_digest_249 : decode cX8_digest 249 = .ok (.lmul, 1) := by decide +kernel
theorem dX8_digest_250 : decode cX8_digest 250 = .ok (.aload_n 0, 1) := by decide +kernel
theorem dX8_digest_251 : decode cX8_digest 251 = .ok (.getfield 34, 3) := by decide +kernel
theorem dX8_digest_254 : decode cX8_digest 254 = .ok (.bipush 60, 2) := by decide +kernel
theorem dX8_digest_256 : decode cX8_digest 256 = .ok (.iload_n 3, 1) := by decide +kernel
theorem dX8_digest_257 : decode cX8_digest 257 = .ok (.imul, 1) := by decide +kernel
theorem dX8_digest_258 : decode cX8_digest 258 = .ok (.iload 4, 2) := by decide +kernel
theorem dX8_digest_260 : decode cX8_digest 260 = .ok (.iadd, 1) := by decide +kernel
theorem dX8_digest_261 : decode cX8_digest 261 = .ok (.iaload, 1) := by decide +kernel
theorem dX8_digest_262 : decode cX8_digest 262 = .ok (.i2l, 1) := by decide +kernel
theorem dX8_digest_263 : decode cX8_digest 263 = .ok (.ladd, 1) := by decide +kernel
theorem dX8_digest_264 : decode cX8_digest 264 = .ok (.lstore_n 1, 1) := by decide +kernel
theorem dX8_digest_265 : decode cX8_digest 265 = .ok (.iinc 4 1, 3) := by decide +kernel
theorem dX8_digest_268 : decode cX8_digest 268 = .ok (.goto (-34), 3) := by decide +kernel
theorem dX8_digest_271 : decode cX8_digest 271 = .ok (.iinc 3 1, 3) := by decide +kernel
theorem dX8_digest_274 : decode cX8_digest 274 = .ok (.goto (-62), 3) := by decide +kernel
theorem dX8_digest_277 : decode cX8_digest 277 = .ok (.lload_n 1, 1) := by decide +kernel
theorem dX8_digest_278 : decode cX8_digest 278 = .ok (.lreturn, 1) := by decide +kernel
theorem dJ6_bitCount_0f7a4_0 : decode cJ6_bitCount_0f7a4 0 = .ok (.iload_n 0, 1) := by decide +kernel
theorem dJ6_bitCount_0f7a4_1 : decode cJ6_bitCount_0f7a4 1 = .ok (.iload_n 0, 1) := by decide +kernel
theorem dJ6_bitCount_0f7a4_2 : decode cJ6_bitCount_0f7a4 2 = .ok (.iconst 1, 1) := by decide +kernel
theorem dJ6_bitCount_0f7a4_3 : decode cJ6_bitCount_0f7a4 3 = .ok (.iushr, 1) := by decide +kernel
theorem dJ6_bitCount_0f7a4_4 : decode cJ6_bitCount_0f7a4 4 = .ok (.ldc_w 265, 3) := by decide +kernel
theorem dJ6_bitCount_0f7a4_7 : decode cJ6_bitCount_0f7a4 7 = .ok (.iand, 1) := by decide +kernel
theorem dJ6_bitCount_0f7a4_8 : decode cJ6_bitCount_0f7a4 8 = .ok (.isub, 1) := by decide +kernel
theorem dJ6_bitCount_0f7a4_9 : decode cJ6_bitCount_0f7a4 9 = .ok (.istore_n 0, 1) := by decide +kernel
theorem dJ6_bitCount_0f7a4_10 : decode cJ6_bitCount_0f7a4 10 = .ok (.iload_n 0, 1) := by decide +kernel
theorem dJ6_bitCount_0f7a4_11 : decode cJ6_bitCount_0f7a4 11 = .ok (.ldc_w 266, 3) := by decide +kernel
theorem dJ6_bitCount_0f7a4_14 : decode cJ6_bitCount_0f7a4 14 = .ok (.iand, 1) := by decide +kernel
theorem dJ6_bitCount_0f7a4_15 : decode cJ6_bitCount_0f7a4 15 = .ok (.iload_n 0, 1) := by decide +kernel
theorem dJ6_bitCount_0f7a4_16 : decode cJ6_bitCount_0f7a4 16 = .ok (.iconst 2, 1) := by decide +kernel
theorem dJ6_bitCount_0f7a4_17 : decode cJ6_bitCount_0f7a4 17 = .ok (.iushr, 1) := by decide +kernel
theorem dJ6_bitCount_0f7a4_18 : decode cJ6_bitCount_0f7a4 18 = .ok (.ldc_w 266, 3) := by decide +kernel
theorem dJ6_bitCount_0f7a4_21 : decode cJ6_bitCount_0f7a4 21 = .ok (.iand, 1) := by decide +kernel
theorem dJ6_bitCount_0f7a4_22 : decode cJ6_bitCount_0f7a4 22 = .ok (.iadd, 1) := by decide +kernel
theorem dJ6_bitCount_0f7a4_23 : decode cJ6_bitCount_0f7a4 23 = .ok (.istore_n 0, 1) := by decide +kernel
theorem dJ6_bitCount_0f7a4_24 : decode cJ6_bitCount_0f7a4 24 = .ok (.iload_n 0, 1) := by decide +kernel
theorem dJ6_bitCount_0f7a4_25 : decode cJ6_bitCount_0f7a4 25 = .ok (.iload_n 0, 1) := by decide +kernel
theorem dJ6_bitCount_0f7a4_26 : decode cJ6_bitCount_0f7a4 26 = .ok (.iconst 4, 1) := by decide +kernel
theorem dJ6_bitCount_0f7a4_27 : decode cJ6_bitCount_0f7a4 27 = .ok (.iushr, 1) := by decide +kernel
theorem dJ6_bitCount_0f7a4_28 : decode cJ6_bitCount_0f7a4 28 = .ok (.iadd, 1) := by decide +kernel
theorem dJ6_bitCount_0f7a4_29 : decode cJ6_bitCount_0f7a4 29 = .ok (.ldc_w 267, 3) := by decide +kernel
theorem dJ6_bitCount_0f7a4_32 : decode cJ6_bitCount_0f7a4 32 = .ok (.iand, 1) := by decide +kernel
theorem dJ6_bitCount_0f7a4_33 : decode cJ6_bitCount_0f7a4 33 = .ok (.istore_n 0, 1) := by decide +kernel
theorem dJ6_bitCount_0f7a4_34 : decode cJ6_bitCount_0f7a4 34 = .ok (.iload_n 0, 1) := by decide +kernel
theorem dJ6_bitCount_0f7a4_35 : decode cJ6_bitCount_0f7a4 35 = .ok (.iload_n 0, 1) := by decide +kernel
theorem dJ6_bitCount_0f7a4_36 : decode cJ6_bitCount_0f7a4 36 = .ok (.bipush 8, 2) := by decide +kernel
theorem dJ6_bitCount_0f7a4_38 : decode cJ6_bitCount_0f7a4 38 = .ok (.iushr, 1) := by decide +kernel
theorem dJ6_bitCount_0f7a4_39 : decode cJ6_bitCount_0f7a4 39 = .ok (.iadd, 1) := by decide +kernel
theorem dJ6_bitCount_0f7a4_40 : decode cJ6_bitCount_0f7a4 40 = .ok (.istore_n 0, 1) := by decide +kernel
theorem dJ6_bitCount_0f7a4_41 : decode cJ6_bitCount_0f7a4 41 = .ok (.iload_n 0, 1) := by decide +kernel
theorem dJ6_bitCount_0f7a4_42 : decode cJ6_bitCount_0f7a4 42 = .ok (.iload_n 0, 1) := by decide +kernel
theorem dJ6_bitCount_0f7a4_43 : decode cJ6_bitCount_0f7a4 43 = .ok (.bipush 16, 2) := by decide +kernel
theorem dJ6_bitCount_0f7a4_45 : decode cJ6_bitCount_0f7a4 45 = .ok (.iushr, 1) := by decide +kernel
theorem dJ6_bitCount_0f7a4_46 : decode cJ6_bitCount_0f7a4 46 = .ok (.iadd, 1) := by decide +kernel
theorem dJ6_bitCount_0f7a4_47 : decode cJ6_bitCount_0f7a4 47 = .ok (.istore_n 0, 1) := by decide +kernel
theorem dJ6_bitCount_0f7a4_48 : decode cJ6_bitCount_0f7a4 48 = .ok (.iload_n 0, 1) := by decide +kernel
theorem dJ6_bitCount_0f7a4_49 : decode cJ6_bitCount_0f7a4 49 = .ok (.bipush 63, 2) := by decide +kernel
theorem dJ6_bitCount_0f7a4_51 : decode cJ6_bitCount_0f7a4 51 = .ok (.iand, 1) := by decide +kernel
theorem dJ6_bitCount_0f7a4_52 : decode cJ6_bitCount_0f7a4 52 = .ok (.ireturn, 1) := by decide +kernel
theorem dJ9_max_7cf53_0 : decode cJ9_max_7cf53 0 = .ok (.iload_n 0, 1) := by decide +kernel
theorem dJ9_max_7cf53_1 : decode cJ9_max_7cf53 1 = .ok (.iload_n 1, 1) := by decide +kernel
theorem dJ9_max_7cf53_2 : decode cJ9_max_7cf53 2 = .ok (.if_icmp .lt 7, 3) := by decide +kernel
theorem dJ9_max_7cf53_5 : decode cJ9_max_7cf53 5 = .ok (.iload_n 0, 1) := by decide +kernel
theorem dJ9_max_7cf53_6 : decode cJ9_max_7cf53 6 = .ok (.goto 4, 3) := by decide +kernel
theorem dJ9_max_7cf53_9 : decode cJ9_max_7cf53 9 = .ok (.iload_n 1, 1) := by decide +kernel
theorem dJ9_max_7cf53_10 : decode cJ9_max_7cf53 10 = .ok (.ireturn, 1) := by decide +kernel
theorem dJ9_min_7cf53_0 : decode cJ9_min_7cf53 0 = .ok (.iload_n 0, 1) := by decide +kernel
theorem dJ9_min_7cf53_1 : decode cJ9_min_7cf53 1 = .ok (.iload_n 1, 1) := by decide +kernel
theorem dJ9_min_7cf53_2 : decode cJ9_min_7cf53 2 = .ok (.if_icmp .gt 7, 3) := by decide +kernel
theorem dJ9_min_7cf53_5 : decode cJ9_min_7cf53 5 = .ok (.iload_n 0, 1) := by decide +kernel
theorem dJ9_min_7cf53_6 : decode cJ9_min_7cf53 6 = .ok (.goto 4, 3) := by decide +kernel
theorem dJ9_min_7cf53_9 : decode cJ9_min_7cf53 9 = .ok (.iload_n 1, 1) := by decide +kernel
theorem dJ9_min_7cf53_10 : decode cJ9_min_7cf53 10 = .ok (.ireturn, 1) := by decide +kernel
theorem dJ7_fill_d0a16_0 : decode cJ7_fill_d0a16 0 = .ok (.iconst 0, 1) := by decide +kernel
theorem dJ7_fill_d0a16_1 : decode cJ7_fill_d0a16 1 = .ok (.istore_n 3, 1) := by decide +kernel
theorem dJ7_fill_d0a16_2 : decode cJ7_fill_d0a16 2 = .ok (.aload_n 0, 1) := by decide +kernel
theorem dJ7_fill_d0a16_3 : decode cJ7_fill_d0a16 3 = .ok (.arraylength, 1) := by decide +kernel
theorem dJ7_fill_d0a16_4 : decode cJ7_fill_d0a16 4 = .ok (.istore 4, 2) := by decide +kernel
theorem dJ7_fill_d0a16_6 : decode cJ7_fill_d0a16 6 = .ok (.iload_n 3, 1) := by decide +kernel
theorem dJ7_fill_d0a16_7 : decode cJ7_fill_d0a16 7 = .ok (.iload 4, 2) := by decide +kernel
theorem dJ7_fill_d0a16_9 : decode cJ7_fill_d0a16 9 = .ok (.if_icmp .ge 13, 3) := by decide +kernel
theorem dJ7_fill_d0a16_12 : decode cJ7_fill_d0a16 12 = .ok (.aload_n 0, 1) := by decide +kernel
theorem dJ7_fill_d0a16_13 : decode cJ7_fill_d0a16 13 = .ok (.iload_n 3, 1) := by decide +kernel
theorem dJ7_fill_d0a16_14 : decode cJ7_fill_d0a16 14 = .ok (.lload_n 1, 1) := by decide +kernel
theorem dJ7_fill_d0a16_15 : decode cJ7_fill_d0a16 15 = .ok (.lastore, 1) := by decide +kernel
theorem dJ7_fill_d0a16_16 : decode cJ7_fill_d0a16 16 = .ok (.iinc 3 1, 3) := by decide +kernel
theorem dJ7_fill_d0a16_19 : decode cJ7_fill_d0a16 19 = .ok (.goto (-13), 3) := by decide +kernel
theorem dJ7_fill_d0a16_22 : decode cJ7_fill_d0a16 22 = .ok (.return_, 1) := by decide +kernel
theorem dJ7_fill_53178_0 : decode cJ7_fill_53178 0 = .ok (.iconst 0, 1) := by decide +kernel
theorem dJ7_fill_53178_1 : decode cJ7_fill_53178 1 = .ok (.istore_n 2, 1) := by decide +kernel
theorem dJ7_fill_53178_2 : decode cJ7_fill_53178 2 = .ok (.aload_n 0, 1) := by decide +kernel
theorem dJ7_fill_53178_3 : decode cJ7_fill_53178 3 = .ok (.arraylength, 1) := by decide +kernel
theorem dJ7_fill_53178_4 : decode cJ7_fill_53178 4 = .ok (.istore_n 3, 1) := by decide +kernel
theorem dJ7_fill_53178_5 : decode cJ7_fill_53178 5 = .ok (.iload_n 2, 1) := by decide +kernel
theorem dJ7_fill_53178_6 : decode cJ7_fill_53178 6 = .ok (.iload_n 3, 1) := by decide +kernel
theorem dJ7_fill_53178_7 : decode cJ7_fill_53178 7 = .ok (.if_icmp .ge 13, 3) := by decide +kernel
theorem dJ7_fill_53178_10 : decode cJ7_fill_53178 10 = .ok (.aload_n 0, 1) := by decide +kernel
theorem dJ7_fill_53178_11 : decode cJ7_fill_53178 11 = .ok (.iload_n 2, 1) := by decide +kernel
theorem dJ7_fill_53178_12 : decode cJ7_fill_53178 12 = .ok (.iload_n 1, 1) := by decide +kernel
theorem dJ7_fill_53178_13 : decode cJ7_fill_53178 13 = .ok (.iastore, 1) := by decide +kernel
theorem dJ7_fill_53178_14 : decode cJ7_fill_53178 14 = .ok (.iinc 2 1, 3) := by decide +kernel
theorem dJ7_fill_53178_17 : decode cJ7_fill_53178 17 = .ok (.goto (-12), 3) := by decide +kernel
theorem dJ7_fill_53178_20 : decode cJ7_fill_53178 20 = .ok (.return_, 1) := by decide +kernel
set_option maxRecDepth 20000 in
theorem ggL_law_X7_init : GoodIn wsL_law wsX7_init := goodIn_r _ [8, 9, 10, 11, 12, 13, 14, 15, 16, 17, 18, 19, 20, 21, 22, 23, 24, 25, 26, 27, 28, 29, 30, 31, 32, 33, 34, 35, 36, 37, 38, 39, 40, 41, 42, 43, 44, 45, 46, 47, 48, 49, 50, 51, 52, 53, 54, 55, 56, 57, 58, 59, 60, 61, 62, 63, 64, 65, 66, 67, 68, 69, 70, 71, 72, 73, 74, 75, 76, 77, 78, 79, 80, 81, 82, 83, 84, 85, 86, 1079, 1080, 1034, 1035, 1036, 1037, 1038, 1039, 1040, 1041, 1042, 1043, 1044, 1045, 1081, 1082, 1083, 1084, 1085, 1086, 1087, 1088, 1089, 1090, 1091, 1092, 1093, 1094, 1095, 1096, 1097, 1098, 1099, 1100, 1101, 1102] (by decide +kernel) (by decide +kernel)
set_option maxRecDepth 20000 in
theorem gL_law_X7_init : GoodIn wsL_law (wsX7_init) := ggL_law_X7_init
set_option maxRecDepth 20000 in
theorem ggL_law_X8_init : GoodIn wsL_law wsX8_init := goodIn_r _ [89, 90, 10, 11, 34, 91, 92, 93, 94, 95, 96, 97, 98, 99, 100, 101, 102, 103, 104, 105, 106, 107, 108, 109, 84, 110, 1046, 1047, 1048, 1049, 1050, 1051, 1052, 1053, 1054, 1055, 1056, 1057, 1058, 1059, 1060, 1061, 1062, 1063, 1064, 1065, 1066, 1067, 1068, 1069, 1070, 1071, 1072, 1073, 1074, 1075, 1076, 1077, 1078] (by decide +kernel) (by decide +kernel)
set_option maxRecDepth 20000 in
theorem gL_law_X8_init : GoodIn wsL_law (wsX8_init) := ggL_law_X8_init
set_option maxRecDepth 20000 in
theorem ggL_law_X7_row : GoodIn wsL_law wsX7_row := goodIn_r _ [114, 15, 115, 116, 117, 14, 118, 46, 119, 120, 121, 2, 122, 36, 35, 123, 124, 125, 126, 45, 127, 47, 48, 49, 50, 1034, 1035, 1036, 1037, 1038, 1039, 1040, 1041, 1042, 1043, 1044, 1045, 1079, 1080] (by decide +kernel) (by decide +kernel)
set_option maxRecDepth 20000 in
theorem gL_law_X7_row : GoodIn wsL_law (wsV RL 13 RX7 yX7_row wsX7_row) := goodIn_app (goodIn_of _ (by decide +kernel)) ggL_law_X7_row
set_option maxRecDepth 20000 in
theorem ggL_law_X8_row : GoodIn wsL_law wsX8_row := goodIn_r _ [131, 132, 133, 5, 134, 135, 136, 137, 138, 139, 140, 141, 142, 143, 101, 144, 145, 146, 147, 96, 97, 1046, 1047, 1048, 1049, 1050, 1051, 1052, 1053, 1054, 1055, 1056, 1057, 1058, 1059, 1060, 1061, 1062, 1063, 1064, 1065, 1066, 1067, 1068, 1069, 1070, 1071, 1072, 1073, 1074, 1075, 1076, 1077, 1078] (by decide +kernel) (by decide +kernel)
set_option maxRecDepth 20000 in
theorem gL_law_X8_row : GoodIn wsL_law (wsV RL 17 RX8 yX8_row wsX8_row) := goodIn_app (goodIn_of _ (by decide +kernel)) ggL_law_X8_row
set_option maxRecDepth 20000 in
theorem ggL_law_X7_lay : GoodIn wsL_law wsX7_lay := goodIn_r _ [151, 15, 152, 37, 153, 154, 155, 2, 156, 157, 158, 159, 160, 115, 116, 117, 14, 118, 46, 161, 162, 163, 164, 127, 119, 120, 121, 122, 36, 35, 165, 166, 167, 168, 169, 1034, 1035, 1036, 1037, 1038, 1039, 1040, 1041, 1042, 1043, 1044, 1045, 1079, 1080] (by decide +kernel) (by decide +kernel)
set_option maxRecDepth 20000 in
theorem gL_law_X7_lay : GoodIn wsL_law (wsV RL 18 RX7 yX7_lay wsX7_lay) := goodIn_app (goodIn_of _ (by decide +kernel)) ggL_law_X7_lay
set_option maxRecDepth 20000 in
theorem ggL_law_X8_lay : GoodIn wsL_law wsX8_lay := goodIn_r _ [173, 97, 174, 175, 176, 5, 177, 96, 132, 133, 134, 135, 136, 137, 138, 139, 140, 141, 142, 143, 101, 178, 179, 180, 181, 182, 1046, 1047, 1048, 1049, 1050, 1051, 1052, 1053, 1054, 1055, 1056, 1057, 1058, 1059, 1060, 1061, 1062, 1063, 1064, 1065, 1066, 1067, 1068, 1069, 1070, 1071, 1072, 1073, 1074, 1075, 1076, 1077, 1078] (by decide +kernel) (by decide +kernel)
set_option maxRecDepth 20000 in
theorem gL_law_X8_lay : GoodIn wsL_law (wsV RL 22 RX8 yX8_lay wsX8_lay) := goodIn_app (goodIn_of _ (by decide +kernel)) ggL_law_X8_lay
set_option maxRecDepth 20000 in
theorem ggL_law_X7_at : GoodIn wsL_law wsX7_at := goodIn_r _ [186, 15, 152, 37, 153, 154, 155, 2, 156, 157, 158, 159, 160, 115, 116, 117, 14, 118, 46, 161, 162, 163, 164, 127, 119, 120, 121, 122, 36, 35, 165, 166, 167, 168, 169, 1034, 1035, 1036, 1037, 1038, 1039, 1040, 1041, 1042, 1043, 1044, 1045, 1079, 1080] (by decide +kernel) (by decide +kernel)
set_option maxRecDepth 20000 in
theorem gL_law_X7_at : GoodIn wsL_law (wsV RL 23 RX7 yX7_at wsX7_at) := goodIn_app (goodIn_of _ (by decide +kernel)) ggL_law_X7_at
set_option maxRecDepth 20000 in
theorem ggL_law_X8_at : GoodIn wsL_law wsX8_at := goodIn_r _ [190, 97, 174, 175, 176, 5, 177, 96, 132, 133, 134, 135, 136, 137, 138, 139, 140, 141, 142, 143, 101, 178, 179, 180, 181, 182, 1046, 1047, 1048, 1049, 1050, 1051, 1052, 1053, 1054, 1055, 1056, 1057, 1058, 1059, 1060, 1061, 1062, 1063, 1064, 1065, 1066, 1067, 1068, 1069, 1070, 1071, 1072, 1073, 1074, 1075, 1076, 1077, 1078] (by decide +kernel) (by decide +kernel)
set_option maxRecDepth 20000 in
theorem gL_law_X8_at : GoodIn wsL_law (wsV RL 26 RX8 yX8_at wsX8_at) := goodIn_app (goodIn_of _ (by decide +kernel)) ggL_law_X8_at
set_option maxRecDepth 20000 in
theorem ggL_law_X7_tear : GoodIn wsL_law wsX7_tear := goodIn_r _ [194, 15, 195, 157, 158, 159, 2, 160, 115, 116, 117, 14, 118, 46, 161, 162, 163, 164, 127, 119, 120, 121, 122, 36, 35, 1034, 1035, 1036, 1037, 1038, 1039, 1040, 1041, 1042, 1043, 1044, 1045, 1079, 1080] (by decide +kernel) (by decide +kernel)
set_option maxRecDepth 20000 in
theorem gL_law_X7_tear : GoodIn wsL_law (wsV RL 27 RX7 yX7_tear wsX7_tear) := goodIn_app (goodIn_of _ (by decide +kernel)) ggL_law_X7_tear
set_option maxRecDepth 20000 in
theorem ggL_law_X8_tear : GoodIn wsL_law wsX8_tear := goodIn_r _ [199, 96, 132, 133, 5, 134, 135, 136, 137, 138, 139, 140, 141, 142, 143, 101, 1046, 1047, 1048, 1049, 1050, 1051, 1052, 1053, 1054, 1055, 1056, 1057, 1058, 1059, 1060, 1061, 1062, 1063, 1064, 1065, 1066, 1067, 1068, 1069, 1070, 1071, 1072, 1073, 1074, 1075, 1076, 1077, 1078] (by decide +kernel) (by decide +kernel)
set_option maxRecDepth 20000 in
theorem gL_law_X8_tear : GoodIn wsL_law (wsV RL 31 RX8 yX8_tear wsX8_tear) := goodIn_app (goodIn_of _ (by decide +kernel)) ggL_law_X8_tear
set_option maxRecDepth 20000 in
theorem ggL_law_X7_copy : GoodIn wsL_law wsX7_copy := goodIn_r _ [203, 15, 152, 204, 205, 206, 207, 115, 116, 117, 14, 118, 46, 119, 120, 121, 2, 122, 36, 35, 161, 162, 163, 164, 127, 208, 209, 210, 211, 169, 1034, 1035, 1036, 1037, 1038, 1039, 1040, 1041, 1042, 1043, 1044, 1045, 1079, 1080] (by decide +kernel) (by decide +kernel)
set_option maxRecDepth 20000 in
theorem gL_law_X7_copy : GoodIn wsL_law (wsV RL 32 RX7 yX7_copy wsX7_copy) := goodIn_app (goodIn_of _ (by decide +kernel)) ggL_law_X7_copy
set_option maxRecDepth 20000 in
theorem ggL_law_X8_copy : GoodIn wsL_law wsX8_copy := goodIn_r _ [215, 96, 97, 132, 133, 5, 134, 135, 136, 137, 138, 139, 140, 141, 142, 143, 101, 216, 217, 218, 219, 1046, 1047, 1048, 1049, 1050, 1051, 1052, 1053, 1054, 1055, 1056, 1057, 1058, 1059, 1060, 1061, 1062, 1063, 1064, 1065, 1066, 1067, 1068, 1069, 1070, 1071, 1072, 1073, 1074, 1075, 1076, 1077, 1078] (by decide +kernel) (by decide +kernel)
set_option maxRecDepth 20000 in
theorem gL_law_X8_copy : GoodIn wsL_law (wsV RL 36 RX8 yX8_copy wsX8_copy) := goodIn_app (goodIn_of _ (by decide +kernel)) ggL_law_X8_copy
set_option maxRecDepth 20000 in
theorem ggL_law_X7_mean : GoodIn wsL_law wsX7_mean := goodIn_r _ [223, 15, 195, 152, 37, 157, 158, 159, 2, 160, 115, 116, 117, 14, 118, 46, 161, 162, 163, 164, 127, 119, 120, 121, 122, 36, 35, 1034, 1035, 1036, 1037, 1038, 1039, 1040, 1041, 1042, 1043, 1044, 1045, 1079, 1080] (by decide +kernel) (by decide +kernel)
set_option maxRecDepth 20000 in
theorem gL_law_X7_mean : GoodIn wsL_law (wsV RL 37 RX7 yX7_mean wsX7_mean) := goodIn_app (goodIn_of _ (by decide +kernel)) ggL_law_X7_mean
set_option maxRecDepth 20000 in
theorem ggL_law_X8_mean : GoodIn wsL_law wsX8_mean := goodIn_r _ [227, 96, 97, 132, 133, 5, 134, 135, 136, 137, 138, 139, 140, 141, 142, 143, 101, 178, 179, 180, 181, 182, 1046, 1047, 1048, 1049, 1050, 1051, 1052, 1053, 1054, 1055, 1056, 1057, 1058, 1059, 1060, 1061, 1062, 1063, 1064, 1065, 1066, 1067, 1068, 1069, 1070, 1071, 1072, 1073, 1074, 1075, 1076, 1077, 1078] (by decide +kernel) (by decide +kernel)
set_option maxRecDepth 20000 in
theorem gL_law_X8_mean : GoodIn wsL_law (wsV RL 40 RX8 yX8_mean wsX8_mean) := goodIn_app (goodIn_of _ (by decide +kernel)) ggL_law_X8_mean
set_option maxRecDepth 20000 in
theorem ggL_law_X7_text : GoodIn wsL_law wsX7_text := goodIn_r _ [231, 16, 115, 116, 117, 14, 118, 46, 119, 120, 121, 2, 122, 36, 35, 123, 124, 125, 126, 45, 127, 47, 48, 49, 50, 1034, 1035, 1036, 1037, 1038, 1039, 1040, 1041, 1042, 1043, 1044, 1045, 1079, 1080] (by decide +kernel) (by decide +kernel)
set_option maxRecDepth 20000 in
theorem gL_law_X7_text : GoodIn wsL_law (wsV RL 41 RX7 yX7_text wsX7_text) := goodIn_app (goodIn_of _ (by decide +kernel)) ggL_law_X7_text
set_option maxRecDepth 20000 in
theorem ggL_law_X8_text : GoodIn wsL_law wsX8_text := goodIn_r _ [235, 98, 99, 236, 237, 5, 238, 239, 136, 137, 138, 139, 140, 141, 142, 143, 101, 1046, 1047, 1048, 1049, 1050, 1051, 1052, 1053, 1054, 1055, 1056, 1057, 1058, 1059, 1060, 1061, 1062, 1063, 1064, 1065, 1066, 1067, 1068, 1069, 1070, 1071, 1072, 1073, 1074, 1075, 1076, 1077, 1078] (by decide +kernel) (by decide +kernel)
set_option maxRecDepth 20000 in
theorem gL_law_X8_text : GoodIn wsL_law (wsV RL 44 RX8 yX8_text wsX8_text) := goodIn_app (goodIn_of _ (by decide +kernel)) ggL_law_X8_text
set_option maxRecDepth 20000 in
theorem ggL_law_X7_put : GoodIn wsL_law wsX7_put := goodIn_r _ [243, 16, 152, 153, 154, 155, 2, 156, 157, 158, 159, 160, 115, 116, 117, 14, 118, 46, 161, 162, 163, 164, 127, 119, 120, 121, 122, 36, 35, 165, 166, 167, 168, 169, 1034, 1035, 1036, 1037, 1038, 1039, 1040, 1041, 1042, 1043, 1044, 1045, 1079, 1080] (by decide +kernel) (by decide +kernel)
set_option maxRecDepth 20000 in
theorem gL_law_X7_put : GoodIn wsL_law (wsV RL 45 RX7 yX7_put wsX7_put) := goodIn_app (goodIn_of _ (by decide +kernel)) ggL_law_X7_put
set_option maxRecDepth 20000 in
theorem ggL_law_X8_put : GoodIn wsL_law wsX8_put := goodIn_r _ [247, 98, 99, 236, 237, 5, 238, 239, 136, 137, 138, 139, 140, 141, 142, 143, 101, 1046, 1047, 1048, 1049, 1050, 1051, 1052, 1053, 1054, 1055, 1056, 1057, 1058, 1059, 1060, 1061, 1062, 1063, 1064, 1065, 1066, 1067, 1068, 1069, 1070, 1071, 1072, 1073, 1074, 1075, 1076, 1077, 1078] (by decide +kernel) (by decide +kernel)
set_option maxRecDepth 20000 in
theorem gL_law_X8_put : GoodIn wsL_law (wsV RL 48 RX8 yX8_put wsX8_put) := goodIn_app (goodIn_of _ (by decide +kernel)) ggL_law_X8_put
set_option maxRecDepth 20000 in
theorem ggL_law_X7_fault : GoodIn wsL_law wsX7_fault := goodIn_r _ [251, 16, 25, 152, 195, 157, 158, 159, 2, 160, 115, 116, 117, 14, 118, 46, 161, 162, 163, 164, 127, 119, 120, 121, 122, 36, 35, 252, 253, 254, 24, 255, 72, 256, 257, 258, 259, 73, 71, 260, 261, 262, 263, 20, 264, 54, 56, 60, 265, 266, 267, 268, 61, 62, 63, 64, 65, 66, 269, 48, 49, 50, 270, 271, 272, 273, 274, 275, 276, 277, 278, 279, 280, 281, 282, 283, 284, 285, 286, 287, 288, 289, 290, 291, 292, 59, 55, 293, 294, 295, 296, 57, 58, 297, 298, 299, 300, 301, 302, 303, 304, 305, 306, 307, 308, 309, 310, 311, 312, 313, 314, 315, 316, 317, 318, 319, 320, 321, 322, 323, 324, 325, 326, 327, 328, 329, 330, 331, 332, 333, 334, 335, 336, 337, 338, 339, 340, 341, 342, 343, 344, 345, 346, 1034, 1035, 1036, 1037, 1038, 1039, 1040, 1041, 1042, 1043, 1044, 1045, 1079, 1080, 1094, 1095, 1096, 1081, 1082, 1083, 1084, 1085, 1086, 1087, 1088, 1089, 1090, 1091, 1092, 1093] (by decide +kernel) (by decide +kernel)
set_option maxRecDepth 20000 in
theorem gL_law_X7_fault : GoodIn wsL_law (wsV RL 49 RX7 yX7_fault wsX7_fault) := goodIn_app (goodIn_of _ (by decide +kernel)) ggL_law_X7_fault
set_option maxRecDepth 20000 in
theorem ggL_law_X8_fault : GoodIn wsL_law wsX8_fault := goodIn_r _ [350, 98, 236, 237, 5, 238, 239, 136, 137, 138, 139, 140, 141, 142, 143, 101, 351, 352, 353, 354, 355, 356, 357, 358, 359, 360, 361, 362, 363, 364, 102, 365, 366, 367, 368, 369, 370, 371, 372, 99, 373, 374, 375, 376, 377, 378, 379, 380, 381, 382, 383, 384, 385, 386, 387, 388, 389, 390, 391, 103, 392, 393, 394, 1046, 1047, 1048, 1049, 1050, 1051, 1052, 1053, 1054, 1055, 1056, 1057, 1058, 1059, 1060, 1061, 1062, 1063, 1064, 1065, 1066, 1067, 1068, 1069, 1070, 1071, 1072, 1073, 1074, 1075, 1076, 1077, 1078] (by decide +kernel) (by decide +kernel)
set_option maxRecDepth 20000 in
theorem gL_law_X8_fault : GoodIn wsL_law (wsV RL 52 RX8 yX8_fault wsX8_fault) := goodIn_app (goodIn_of _ (by decide +kernel)) ggL_law_X8_fault
set_option maxRecDepth 20000 in
theorem ggL_law_X7_family : GoodIn wsL_law wsX7_family := goodIn_r _ [398, 16, 25, 152, 195, 21, 399, 17, 400, 157, 158, 159, 2, 160, 115, 116, 117, 14, 118, 46, 161, 162, 163, 164, 127, 119, 120, 121, 122, 36, 35, 252, 253, 254, 24, 255, 72, 256, 257, 258, 259, 73, 71, 260, 261, 262, 263, 20, 264, 54, 56, 60, 265, 266, 267, 268, 61, 62, 63, 64, 65, 66, 269, 48, 49, 50, 270, 271, 272, 273, 274, 275, 276, 277, 278, 279, 280, 281, 282, 283, 284, 285, 286, 287, 288, 289, 290, 291, 292, 59, 55, 293, 294, 295, 296, 57, 58, 297, 298, 299, 300, 301, 302, 303, 304, 305, 306, 307, 308, 309, 310, 311, 312, 313, 314, 315, 316, 317, 318, 319, 320, 321, 322, 323, 324, 325, 326, 327, 328, 329, 330, 331, 332, 333, 334, 335, 336, 337, 338, 339, 340, 341, 342, 343, 344, 345, 346, 401, 402, 403, 404, 405, 205, 206, 207, 1034, 1035, 1036, 1037, 1038, 1039, 1040, 1041, 1042, 1043, 1044, 1045, 1079, 1080, 1094, 1095, 1096, 1081, 1082, 1083, 1084, 1085, 1086, 1087, 1088, 1089, 1090, 1091, 1092, 1093] (by decide +kernel) (by decide +kernel)
set_option maxRecDepth 20000 in
theorem gL_law_X7_family : GoodIn wsL_law (wsV RL 53 RX7 yX7_family wsX7_family) := goodIn_app (goodIn_of _ (by decide +kernel)) ggL_law_X7_family
set_option maxRecDepth 20000 in
theorem ggL_law_X8_family : GoodIn wsL_law wsX8_family := goodIn_r _ [409, 98, 358, 410, 359, 411, 360, 412, 92, 102, 93, 103, 94, 95, 91, 236, 237, 5, 238, 239, 136, 137, 138, 139, 140, 141, 142, 143, 101, 351, 352, 353, 354, 355, 356, 357, 361, 362, 363, 364, 365, 366, 367, 368, 369, 370, 371, 372, 99, 373, 374, 375, 376, 377, 378, 379, 380, 381, 382, 383, 384, 385, 386, 387, 388, 389, 390, 391, 392, 393, 394, 1046, 1047, 1048, 1049, 1050, 1051, 1052, 1053, 1054, 1055, 1056, 1057, 1058, 1059, 1060, 1061, 1062, 1063, 1064, 1065, 1066, 1067, 1068, 1069, 1070, 1071, 1072, 1073, 1074, 1075, 1076, 1077, 1078] (by decide +kernel) (by decide +kernel)
set_option maxRecDepth 20000 in
theorem gL_law_X8_family : GoodIn wsL_law (wsV RL 56 RX8 yX8_family wsX8_family) := goodIn_app (goodIn_of _ (by decide +kernel)) ggL_law_X8_family
set_option maxRecDepth 20000 in
theorem ggL_law_X7_saying : GoodIn wsL_law wsX7_saying := goodIn_r _ [416, 21, 37, 417, 286, 287, 20, 288, 56, 418, 419, 420, 421, 57, 58, 59, 64, 293, 294, 295, 296, 297, 298, 299, 300, 62, 301, 302, 303, 304, 305, 306, 307, 308, 309, 310, 278, 279, 258, 280, 1034, 1035, 1036, 1037, 1038, 1039, 1040, 1041, 1042, 1043, 1044, 1045, 1081, 1082, 1083, 1084, 1085, 1086, 1087, 1088, 1089, 1090, 1091, 1092, 1093] (by decide +kernel) (by decide +kernel)
set_option maxRecDepth 20000 in
theorem gL_law_X7_saying : GoodIn wsL_law (wsV RL 57 RX7 yX7_saying wsX7_saying) := goodIn_app (goodIn_of _ (by decide +kernel)) ggL_law_X7_saying
set_option maxRecDepth 20000 in
theorem ggL_law_X8_saying : GoodIn wsL_law wsX8_saying := goodIn_r _ [425, 426, 427, 428, 429, 5, 430, 411, 136, 137, 138, 431, 432, 433, 434, 93, 94, 95, 91, 435, 436, 437, 438, 439, 440, 441, 442, 443, 444, 445, 446, 447, 178, 179, 180, 181, 182, 1046, 1047, 1048, 1049, 1050, 1051, 1052, 1053, 1054, 1055, 1056, 1057, 1058, 1059, 1060, 1061, 1062, 1063, 1064, 1065, 1066, 1067, 1068, 1069, 1070, 1071, 1072, 1073, 1074, 1075, 1076, 1077, 1078] (by decide +kernel) (by decide +kernel)
set_option maxRecDepth 20000 in
theorem gL_law_X8_saying : GoodIn wsL_law (wsV RL 60 RX8 yX8_saying wsX8_saying) := goodIn_app (goodIn_of _ (by decide +kernel)) ggL_law_X8_saying
set_option maxRecDepth 20000 in
theorem ggL_law_X7_mark : GoodIn wsL_law wsX7_mark := goodIn_r _ [451, 21, 452, 453, 454, 279, 258, 280, 417, 286, 287, 20, 288, 56, 455, 456, 457, 458, 57, 119, 120, 121, 2, 122, 36, 35, 459, 298, 299, 300, 62, 301, 302, 303, 304, 305, 306, 307, 460, 461, 462, 463, 54, 464, 465, 466, 467, 63, 468, 469, 470, 471, 61, 55, 293, 294, 295, 296, 58, 64, 297, 308, 309, 310, 278, 472, 1034, 1035, 1036, 1037, 1038, 1039, 1040, 1041, 1042, 1043, 1044, 1045, 1081, 1082, 1083, 1084, 1085, 1086, 1087, 1088, 1089, 1090, 1091, 1092, 1093] (by decide +kernel) (by decide +kernel)
set_option maxRecDepth 20000 in
theorem gL_law_X7_mark : GoodIn wsL_law (wsV RL 61 RX7 yX7_mark wsX7_mark) := goodIn_app (goodIn_of _ (by decide +kernel)) ggL_law_X7_mark
set_option maxRecDepth 20000 in
theorem ggL_law_X8_mark : GoodIn wsL_law wsX8_mark := goodIn_r _ [476, 135, 91, 94, 427, 428, 429, 5, 430, 411, 136, 137, 138, 477, 478, 479, 480, 93, 139, 140, 141, 142, 143, 101, 439, 440, 441, 442, 443, 444, 481, 482, 483, 484, 410, 485, 486, 487, 488, 489, 490, 491, 492, 92, 435, 436, 437, 438, 445, 446, 447, 1046, 1047, 1048, 1049, 1050, 1051, 1052, 1053, 1054, 1055, 1056, 1057, 1058, 1059, 1060, 1061, 1062, 1063, 1064, 1065, 1066, 1067, 1068, 1069, 1070, 1071, 1072, 1073, 1074, 1075, 1076, 1077, 1078] (by decide +kernel) (by decide +kernel)
set_option maxRecDepth 20000 in
theorem gL_law_X8_mark : GoodIn wsL_law (wsV RL 64 RX8 yX8_mark wsX8_mark) := goodIn_app (goodIn_of _ (by decide +kernel)) ggL_law_X8_mark
set_option maxRecDepth 20000 in
theorem ggL_law_X7_bears : GoodIn wsL_law wsX7_bears := goodIn_r _ [496, 21, 497, 498, 282, 283, 20, 284, 54, 1034, 1035, 1036, 1037, 1038, 1039, 1040, 1041, 1042, 1043, 1044, 1045, 1081, 1082, 1083, 1084, 1085, 1086, 1087, 1088, 1089, 1090, 1091, 1092, 1093] (by decide +kernel) (by decide +kernel)
set_option maxRecDepth 20000 in
theorem gL_law_X7_bears : GoodIn wsL_law (wsV RL 65 RX7 yX7_bears wsX7_bears) := goodIn_app (goodIn_of _ (by decide +kernel)) ggL_law_X7_bears
set_option maxRecDepth 20000 in
theorem ggL_law_X8_bears : GoodIn wsL_law wsX8_bears := goodIn_r _ [502, 92, 503, 504, 505, 5, 506, 410, 136, 137, 138, 1046, 1047, 1048, 1049, 1050, 1051, 1052, 1053, 1054, 1055, 1056, 1057, 1058, 1059, 1060, 1061, 1062, 1063, 1064, 1065, 1066, 1067, 1068, 1069, 1070, 1071, 1072, 1073, 1074, 1075, 1076, 1077, 1078] (by decide +kernel) (by decide +kernel)
set_option maxRecDepth 20000 in
theorem gL_law_X8_bears : GoodIn wsL_law (wsV RL 68 RX8 yX8_bears wsX8_bears) := goodIn_app (goodIn_of _ (by decide +kernel)) ggL_law_X8_bears
set_option maxRecDepth 20000 in
theorem ggL_law_X7_say : GoodIn wsL_law wsX7_say := goodIn_r _ [510, 21, 511, 512, 498, 282, 283, 20, 284, 54, 417, 286, 287, 288, 56, 513, 465, 466, 467, 63, 514, 515, 516, 517, 518, 519, 520, 65, 66, 270, 271, 272, 273, 274, 275, 276, 277, 61, 278, 279, 258, 280, 281, 285, 289, 290, 291, 292, 62, 59, 64, 55, 293, 294, 295, 296, 57, 58, 297, 298, 299, 300, 301, 302, 303, 304, 305, 306, 307, 308, 309, 310, 1034, 1035, 1036, 1037, 1038, 1039, 1040, 1041, 1042, 1043, 1044, 1045, 1081, 1082, 1083, 1084, 1085, 1086, 1087, 1088, 1089, 1090, 1091, 1092, 1093] (by decide +kernel) (by decide +kernel)
set_option maxRecDepth 20000 in
theorem gL_law_X7_say : GoodIn wsL_law (wsV RL 69 RX7 yX7_say wsX7_say) := goodIn_app (goodIn_of _ (by decide +kernel)) ggL_law_X7_say
set_option maxRecDepth 20000 in
theorem ggL_law_X8_say : GoodIn wsL_law wsX8_say := goodIn_r _ [524, 91, 503, 504, 505, 5, 506, 410, 136, 137, 138, 427, 428, 429, 430, 411, 485, 486, 487, 488, 525, 526, 527, 528, 529, 530, 531, 532, 95, 92, 435, 436, 437, 438, 93, 94, 439, 440, 441, 442, 443, 444, 445, 446, 447, 1046, 1047, 1048, 1049, 1050, 1051, 1052, 1053, 1054, 1055, 1056, 1057, 1058, 1059, 1060, 1061, 1062, 1063, 1064, 1065, 1066, 1067, 1068, 1069, 1070, 1071, 1072, 1073, 1074, 1075, 1076, 1077, 1078] (by decide +kernel) (by decide +kernel)
set_option maxRecDepth 20000 in
theorem gL_law_X8_say : GoodIn wsL_law (wsV RL 72 RX8 yX8_say wsX8_say) := goodIn_app (goodIn_of _ (by decide +kernel)) ggL_law_X8_say
set_option maxRecDepth 20000 in
theorem ggL_law_X7_day : GoodIn wsL_law wsX7_day := goodIn_r _ [536, 21, 511, 512, 537, 538, 539, 20, 540, 56, 54, 517, 518, 519, 520, 65, 66, 270, 271, 272, 273, 274, 275, 276, 277, 61, 278, 279, 258, 280, 281, 282, 283, 284, 285, 286, 287, 288, 289, 290, 291, 292, 62, 59, 64, 55, 63, 293, 294, 295, 296, 57, 58, 297, 298, 299, 300, 301, 302, 303, 304, 305, 306, 307, 308, 309, 310, 1034, 1035, 1036, 1037, 1038, 1039, 1040, 1041, 1042, 1043, 1044, 1045, 1081, 1082, 1083, 1084, 1085, 1086, 1087, 1088, 1089, 1090, 1091, 1092, 1093] (by decide +kernel) (by decide +kernel)
set_option maxRecDepth 20000 in
theorem gL_law_X7_day : GoodIn wsL_law (wsV RL 73 RX7 yX7_day wsX7_day) := goodIn_app (goodIn_of _ (by decide +kernel)) ggL_law_X7_day
set_option maxRecDepth 20000 in
theorem ggL_law_X8_day : GoodIn wsL_law wsX8_day := goodIn_r _ [544, 411, 91, 545, 546, 547, 5, 548, 525, 526, 527, 528, 549, 550, 551, 552, 1046, 1047, 1048, 1049, 1050, 1051, 1052, 1053, 1054, 1055, 1056, 1057, 1058, 1059, 1060, 1061, 1062, 1063, 1064, 1065, 1066, 1067, 1068, 1069, 1070, 1071, 1072, 1073, 1074, 1075, 1076, 1077, 1078] (by decide +kernel) (by decide +kernel)
set_option maxRecDepth 20000 in
theorem gL_law_X8_day : GoodIn wsL_law (wsV RL 77 RX8 yX8_day wsX8_day) := goodIn_app (goodIn_of _ (by decide +kernel)) ggL_law_X8_day
set_option maxRecDepth 20000 in
theorem ggL_law_X7_undo : GoodIn wsL_law wsX7_undo := goodIn_r _ [556, 21, 511, 557, 266, 267, 20, 268, 61, 62, 63, 64, 65, 66, 269, 48, 49, 50, 270, 271, 272, 273, 274, 275, 276, 277, 278, 279, 258, 280, 281, 282, 283, 284, 54, 285, 286, 287, 288, 56, 289, 290, 291, 292, 59, 55, 293, 294, 295, 296, 57, 58, 297, 298, 299, 300, 301, 302, 303, 304, 305, 306, 307, 308, 309, 310, 1034, 1035, 1036, 1037, 1038, 1039, 1040, 1041, 1042, 1043, 1044, 1045, 1081, 1082, 1083, 1084, 1085, 1086, 1087, 1088, 1089, 1090, 1091, 1092, 1093] (by decide +kernel) (by decide +kernel)
set_option maxRecDepth 20000 in
theorem gL_law_X7_undo : GoodIn wsL_law (wsV RL 78 RX7 yX7_undo wsX7_undo) := goodIn_app (goodIn_of _ (by decide +kernel)) ggL_law_X7_undo
set_option maxRecDepth 20000 in
theorem ggL_law_X8_undo : GoodIn wsL_law wsX8_undo := goodIn_r _ [561, 91, 136, 137, 5, 138, 1046, 1047, 1048, 1049, 1050, 1051, 1052, 1053, 1054, 1055, 1056, 1057, 1058, 1059, 1060, 1061, 1062, 1063, 1064, 1065, 1066, 1067, 1068, 1069, 1070, 1071, 1072, 1073, 1074, 1075, 1076, 1077, 1078] (by decide +kernel) (by decide +kernel)
set_option maxRecDepth 20000 in
theorem gL_law_X8_undo : GoodIn wsL_law (wsV RL 81 RX8 yX8_undo wsX8_undo) := goodIn_app (goodIn_of _ (by decide +kernel)) ggL_law_X8_undo
set_option maxRecDepth 20000 in
theorem ggL_law_X7_keep : GoodIn wsL_law wsX7_keep := goodIn_r _ [565, 17, 21, 566, 152, 511, 204, 205, 206, 207, 195, 115, 116, 117, 14, 118, 46, 537, 538, 539, 20, 540, 56, 54, 1034, 1035, 1036, 1037, 1038, 1039, 1040, 1041, 1042, 1043, 1044, 1045, 1081, 1082, 1083, 1084, 1085, 1086, 1087, 1088, 1089, 1090, 1091, 1092, 1093, 1079, 1080] (by decide +kernel) (by decide +kernel)
set_option maxRecDepth 20000 in
theorem gL_law_X7_keep : GoodIn wsL_law (wsV RL 82 RX7 yX7_keep wsX7_keep) := goodIn_app (goodIn_of _ (by decide +kernel)) ggL_law_X7_keep
set_option maxRecDepth 20000 in
theorem ggL_law_X8_keep : GoodIn wsL_law wsX8_keep := goodIn_r _ [570, 571, 411, 91, 136, 137, 5, 138, 572, 573, 574, 575, 1046, 1047, 1048, 1049, 1050, 1051, 1052, 1053, 1054, 1055, 1056, 1057, 1058, 1059, 1060, 1061, 1062, 1063, 1064, 1065, 1066, 1067, 1068, 1069, 1070, 1071, 1072, 1073, 1074, 1075, 1076, 1077, 1078] (by decide +kernel) (by decide +kernel)
set_option maxRecDepth 20000 in
theorem gL_law_X8_keep : GoodIn wsL_law (wsV RL 85 RX8 yX8_keep wsX8_keep) := goodIn_app (goodIn_of _ (by decide +kernel)) ggL_law_X8_keep
set_option maxRecDepth 20000 in
theorem ggL_law_X7_on : GoodIn wsL_law wsX7_on := goodIn_r _ [579, 17, 152, 21, 566, 195, 204, 205, 206, 207, 511, 157, 158, 159, 2, 160, 115, 116, 117, 14, 118, 46, 161, 162, 163, 164, 127, 119, 120, 121, 122, 36, 35, 557, 266, 267, 20, 268, 61, 62, 63, 64, 65, 66, 269, 48, 49, 50, 270, 271, 272, 273, 274, 275, 276, 277, 278, 279, 258, 280, 281, 282, 283, 284, 54, 285, 286, 287, 288, 56, 289, 290, 291, 292, 59, 55, 293, 294, 295, 296, 57, 58, 297, 298, 299, 300, 301, 302, 303, 304, 305, 306, 307, 308, 309, 310, 1034, 1035, 1036, 1037, 1038, 1039, 1040, 1041, 1042, 1043, 1044, 1045, 1079, 1080, 1081, 1082, 1083, 1084, 1085, 1086, 1087, 1088, 1089, 1090, 1091, 1092, 1093] (by decide +kernel) (by decide +kernel)
set_option maxRecDepth 20000 in
theorem gL_law_X7_on : GoodIn wsL_law (wsV RL 86 RX7 yX7_on wsX7_on) := goodIn_app (goodIn_of _ (by decide +kernel)) ggL_law_X7_on
set_option maxRecDepth 20000 in
theorem ggL_law_X8_on : GoodIn wsL_law wsX8_on := goodIn_r _ [583, 571, 91, 136, 137, 5, 138, 139, 140, 141, 142, 143, 101, 572, 573, 574, 575, 1046, 1047, 1048, 1049, 1050, 1051, 1052, 1053, 1054, 1055, 1056, 1057, 1058, 1059, 1060, 1061, 1062, 1063, 1064, 1065, 1066, 1067, 1068, 1069, 1070, 1071, 1072, 1073, 1074, 1075, 1076, 1077, 1078] (by decide +kernel) (by decide +kernel)
set_option maxRecDepth 20000 in
theorem gL_law_X8_on : GoodIn wsL_law (wsV RL 89 RX8 yX8_on wsX8_on) := goodIn_app (goodIn_of _ (by decide +kernel)) ggL_law_X8_on
set_option maxRecDepth 20000 in
theorem ggL_law_X7_can : GoodIn wsL_law wsX7_can := goodIn_r _ [587, 21, 498, 282, 283, 20, 284, 54, 588, 589, 590, 591, 56, 464, 465, 466, 467, 63, 468, 469, 470, 471, 61, 55, 293, 294, 295, 296, 57, 58, 64, 297, 298, 299, 300, 62, 301, 302, 303, 304, 305, 306, 307, 308, 309, 310, 278, 279, 258, 280, 1034, 1035, 1036, 1037, 1038, 1039, 1040, 1041, 1042, 1043, 1044, 1045, 1081, 1082, 1083, 1084, 1085, 1086, 1087, 1088, 1089, 1090, 1091, 1092, 1093] (by decide +kernel) (by decide +kernel)
set_option maxRecDepth 20000 in
theorem gL_law_X7_can : GoodIn wsL_law (wsV RL 90 RX7 yX7_can wsX7_can) := goodIn_app (goodIn_of _ (by decide +kernel)) ggL_law_X7_can
set_option maxRecDepth 20000 in
theorem ggL_law_X8_can : GoodIn wsL_law wsX8_can := goodIn_r _ [595, 411, 503, 504, 505, 5, 506, 410, 136, 137, 138, 485, 486, 487, 488, 91, 489, 490, 491, 492, 92, 435, 436, 437, 438, 93, 94, 439, 440, 441, 442, 443, 444, 445, 446, 447, 1046, 1047, 1048, 1049, 1050, 1051, 1052, 1053, 1054, 1055, 1056, 1057, 1058, 1059, 1060, 1061, 1062, 1063, 1064, 1065, 1066, 1067, 1068, 1069, 1070, 1071, 1072, 1073, 1074, 1075, 1076, 1077, 1078] (by decide +kernel) (by decide +kernel)
set_option maxRecDepth 20000 in
theorem gL_law_X8_can : GoodIn wsL_law (wsV RL 93 RX8 yX8_can wsX8_can) := goodIn_app (goodIn_of _ (by decide +kernel)) ggL_law_X8_can
set_option maxRecDepth 20000 in
theorem ggL_law_X7_over : GoodIn wsL_law wsX7_over := goodIn_r _ [599, 21, 417, 286, 287, 20, 288, 56, 460, 461, 462, 463, 54, 464, 465, 466, 467, 63, 468, 469, 470, 471, 61, 55, 293, 294, 295, 296, 57, 58, 64, 297, 298, 299, 300, 62, 301, 302, 303, 304, 305, 306, 307, 308, 309, 310, 278, 279, 258, 280, 1034, 1035, 1036, 1037, 1038, 1039, 1040, 1041, 1042, 1043, 1044, 1045, 1081, 1082, 1083, 1084, 1085, 1086, 1087, 1088, 1089, 1090, 1091, 1092, 1093] (by decide +kernel) (by decide +kernel)
set_option maxRecDepth 20000 in
theorem gL_law_X7_over : GoodIn wsL_law (wsV RL 94 RX7 yX7_over wsX7_over) := goodIn_app (goodIn_of _ (by decide +kernel)) ggL_law_X7_over
set_option maxRecDepth 20000 in
theorem ggL_law_X8_over : GoodIn wsL_law wsX8_over := goodIn_r _ [603, 427, 428, 429, 5, 430, 411, 136, 137, 138, 481, 482, 483, 484, 410, 485, 486, 487, 488, 91, 489, 490, 491, 492, 92, 435, 436, 437, 438, 93, 94, 439, 440, 441, 442, 443, 444, 445, 446, 447, 1046, 1047, 1048, 1049, 1050, 1051, 1052, 1053, 1054, 1055, 1056, 1057, 1058, 1059, 1060, 1061, 1062, 1063, 1064, 1065, 1066, 1067, 1068, 1069, 1070, 1071, 1072, 1073, 1074, 1075, 1076, 1077, 1078] (by decide +kernel) (by decide +kernel)
set_option maxRecDepth 20000 in
theorem gL_law_X8_over : GoodIn wsL_law (wsV RL 97 RX8 yX8_over wsX8_over) := goodIn_app (goodIn_of _ (by decide +kernel)) ggL_law_X8_over
set_option maxRecDepth 20000 in
theorem ggL_law_X7_talk : GoodIn wsL_law wsX7_talk := goodIn_r _ [607, 15, 21, 195, 152, 512, 37, 511, 115, 116, 117, 14, 118, 46, 513, 465, 466, 20, 467, 63, 537, 538, 539, 540, 56, 54, 161, 162, 163, 164, 127, 119, 120, 121, 2, 122, 36, 35, 498, 282, 283, 284, 417, 286, 287, 288, 608, 290, 291, 292, 61, 62, 59, 64, 55, 293, 294, 295, 296, 57, 58, 297, 298, 299, 300, 301, 302, 303, 304, 305, 306, 307, 308, 309, 310, 278, 279, 258, 280, 557, 266, 267, 268, 65, 66, 269, 48, 49, 50, 270, 271, 272, 273, 274, 275, 276, 277, 281, 285, 289, 1034, 1035, 1036, 1037, 1038, 1039, 1040, 1041, 1042, 1043, 1044, 1045, 1079, 1080, 1081, 1082, 1083, 1084, 1085, 1086, 1087, 1088, 1089, 1090, 1091, 1092, 1093] (by decide +kernel) (by decide +kernel)
set_option maxRecDepth 20000 in
theorem gL_law_X7_talk : GoodIn wsL_law (wsV RL 98 RX7 yX7_talk wsX7_talk) := goodIn_app (goodIn_of _ (by decide +kernel)) ggL_law_X7_talk
set_option maxRecDepth 20000 in
theorem ggL_law_X8_talk : GoodIn wsL_law wsX8_talk := goodIn_r _ [612, 411, 96, 97, 91, 182, 132, 133, 5, 134, 135, 136, 137, 138, 485, 486, 487, 488, 139, 140, 141, 142, 143, 101, 503, 504, 505, 506, 410, 427, 428, 429, 430, 613, 614, 615, 616, 529, 530, 531, 532, 95, 92, 435, 436, 437, 438, 93, 94, 439, 440, 441, 442, 443, 444, 445, 446, 447, 1046, 1047, 1048, 1049, 1050, 1051, 1052, 1053, 1054, 1055, 1056, 1057, 1058, 1059, 1060, 1061, 1062, 1063, 1064, 1065, 1066, 1067, 1068, 1069, 1070, 1071, 1072, 1073, 1074, 1075, 1076, 1077, 1078] (by decide +kernel) (by decide +kernel)
set_option maxRecDepth 20000 in
theorem gL_law_X8_talk : GoodIn wsL_law (wsV RL 101 RX8 yX8_talk wsX8_talk) := goodIn_app (goodIn_of _ (by decide +kernel)) ggL_law_X8_talk
set_option maxRecDepth 20000 in
theorem ggL_law_X7_waits : GoodIn wsL_law wsX7_waits := goodIn_r _ [620, 21, 497, 512, 454, 279, 258, 280, 498, 282, 283, 20, 284, 54, 417, 286, 287, 288, 56, 513, 465, 466, 467, 63, 621, 294, 295, 296, 57, 58, 64, 297, 298, 299, 300, 62, 301, 302, 303, 304, 305, 306, 307, 308, 309, 310, 278, 1034, 1035, 1036, 1037, 1038, 1039, 1040, 1041, 1042, 1043, 1044, 1045, 1081, 1082, 1083, 1084, 1085, 1086, 1087, 1088, 1089, 1090, 1091, 1092, 1093] (by decide +kernel) (by decide +kernel)
set_option maxRecDepth 20000 in
theorem gL_law_X7_waits : GoodIn wsL_law (wsV RL 102 RX7 yX7_waits wsX7_waits) := goodIn_app (goodIn_of _ (by decide +kernel)) ggL_law_X7_waits
set_option maxRecDepth 20000 in
theorem ggL_law_X8_waits : GoodIn wsL_law wsX8_waits := goodIn_r _ [625, 91, 92, 503, 504, 505, 5, 506, 410, 136, 137, 138, 427, 428, 429, 430, 411, 485, 486, 487, 488, 435, 436, 437, 438, 93, 94, 439, 440, 441, 442, 443, 444, 445, 446, 447, 1046, 1047, 1048, 1049, 1050, 1051, 1052, 1053, 1054, 1055, 1056, 1057, 1058, 1059, 1060, 1061, 1062, 1063, 1064, 1065, 1066, 1067, 1068, 1069, 1070, 1071, 1072, 1073, 1074, 1075, 1076, 1077, 1078] (by decide +kernel) (by decide +kernel)
set_option maxRecDepth 20000 in
theorem gL_law_X8_waits : GoodIn wsL_law (wsV RL 105 RX8 yX8_waits wsX8_waits) := goodIn_app (goodIn_of _ (by decide +kernel)) ggL_law_X8_waits
set_option maxRecDepth 20000 in
theorem ggL_law_X7_settle : GoodIn wsL_law wsX7_settle := goodIn_r _ [629, 21, 15, 29, 152, 630, 498, 282, 283, 20, 284, 54, 115, 116, 117, 14, 118, 46, 513, 465, 466, 467, 63, 537, 538, 539, 540, 56, 631, 632, 633, 28, 634, 635, 636, 637, 638, 639, 640, 641, 642, 77, 643, 644, 645, 646, 78, 79, 80, 647, 469, 470, 471, 61, 55, 293, 294, 295, 296, 57, 58, 64, 297, 298, 299, 300, 62, 301, 302, 303, 304, 305, 306, 307, 308, 309, 310, 278, 279, 258, 280, 648, 649, 650, 651, 274, 275, 276, 277, 289, 290, 291, 292, 59, 652, 653, 654, 655, 123, 124, 125, 126, 45, 127, 47, 48, 49, 50, 1034, 1035, 1036, 1037, 1038, 1039, 1040, 1041, 1042, 1043, 1044, 1045, 1079, 1080, 1097, 1098, 1099, 1100, 1081, 1082, 1083, 1084, 1085, 1086, 1087, 1088, 1089, 1090, 1091, 1092, 1093] (by decide +kernel) (by decide +kernel)
set_option maxRecDepth 20000 in
theorem gL_law_X7_settle : GoodIn wsL_law (wsV RL 106 RX7 yX7_settle wsX7_settle) := goodIn_app (goodIn_of _ (by decide +kernel)) ggL_law_X7_settle
set_option maxRecDepth 20000 in
theorem ggL_law_X8_settle : GoodIn wsL_law wsX8_settle := goodIn_r _ [659, 411, 97, 503, 504, 505, 5, 506, 410, 136, 137, 138, 132, 133, 134, 135, 485, 486, 487, 488, 91, 660, 661, 662, 663, 664, 665, 666, 667, 668, 669, 670, 671, 613, 614, 615, 616, 549, 550, 551, 552, 529, 530, 531, 532, 95, 92, 435, 436, 437, 438, 93, 94, 439, 440, 441, 442, 443, 444, 445, 446, 447, 144, 145, 146, 147, 96, 1046, 1047, 1048, 1049, 1050, 1051, 1052, 1053, 1054, 1055, 1056, 1057, 1058, 1059, 1060, 1061, 1062, 1063, 1064, 1065, 1066, 1067, 1068, 1069, 1070, 1071, 1072, 1073, 1074, 1075, 1076, 1077, 1078] (by decide +kernel) (by decide +kernel)
set_option maxRecDepth 20000 in
theorem gL_law_X8_settle : GoodIn wsL_law (wsV RL 109 RX8 yX8_settle wsX8_settle) := goodIn_app (goodIn_of _ (by decide +kernel)) ggL_law_X8_settle
set_option maxRecDepth 20000 in
theorem ggL_law_X7_least : GoodIn wsL_law wsX7_least := goodIn_r _ [675, 29, 21, 676, 677, 678, 679, 2, 680, 498, 282, 283, 20, 284, 54, 513, 465, 466, 467, 63, 537, 538, 539, 540, 56, 681, 682, 683, 28, 684, 78, 79, 80, 635, 636, 637, 638, 639, 640, 641, 642, 77, 643, 644, 645, 646, 647, 469, 470, 471, 61, 55, 293, 294, 295, 296, 57, 58, 64, 297, 298, 299, 300, 62, 301, 302, 303, 304, 305, 306, 307, 308, 309, 310, 278, 279, 258, 280, 648, 649, 650, 651, 274, 275, 276, 277, 289, 290, 291, 292, 59, 652, 653, 654, 655, 1034, 1035, 1036, 1037, 1038, 1039, 1040, 1041, 1042, 1043, 1044, 1045, 1097, 1098, 1099, 1100, 1081, 1082, 1083, 1084, 1085, 1086, 1087, 1088, 1089, 1090, 1091, 1092, 1093] (by decide +kernel) (by decide +kernel)
set_option maxRecDepth 20000 in
theorem gL_law_X7_least : GoodIn wsL_law (wsV RL 110 RX7 yX7_least wsX7_least) := goodIn_app (goodIn_of _ (by decide +kernel)) ggL_law_X7_least
set_option maxRecDepth 20000 in
theorem ggL_law_X8_least : GoodIn wsL_law wsX8_least := goodIn_r _ [688, 135, 411, 91, 503, 504, 505, 5, 506, 410, 136, 137, 138, 485, 486, 487, 488, 660, 661, 662, 663, 664, 665, 666, 667, 668, 669, 670, 671, 613, 614, 615, 616, 549, 550, 551, 552, 529, 530, 531, 532, 95, 92, 435, 436, 437, 438, 93, 94, 439, 440, 441, 442, 443, 444, 445, 446, 447, 1046, 1047, 1048, 1049, 1050, 1051, 1052, 1053, 1054, 1055, 1056, 1057, 1058, 1059, 1060, 1061, 1062, 1063, 1064, 1065, 1066, 1067, 1068, 1069, 1070, 1071, 1072, 1073, 1074, 1075, 1076, 1077, 1078] (by decide +kernel) (by decide +kernel)
set_option maxRecDepth 20000 in
theorem gL_law_X8_least : GoodIn wsL_law (wsV RL 113 RX8 yX8_least wsX8_least) := goodIn_app (goodIn_of _ (by decide +kernel)) ggL_law_X8_least
set_option maxRecDepth 20000 in
theorem ggL_law_X7_rows : GoodIn wsL_law wsX7_rows := goodIn_r _ [692, 29, 21, 693, 37, 694, 677, 678, 679, 2, 680, 498, 282, 283, 20, 284, 54, 513, 465, 466, 467, 63, 537, 538, 539, 540, 56, 681, 682, 683, 28, 684, 78, 79, 80, 635, 636, 637, 638, 639, 640, 641, 642, 77, 643, 644, 645, 646, 647, 469, 470, 471, 61, 55, 293, 294, 295, 296, 57, 58, 64, 297, 298, 299, 300, 62, 301, 302, 303, 304, 305, 306, 307, 308, 309, 310, 278, 279, 258, 280, 648, 649, 650, 651, 274, 275, 276, 277, 289, 290, 291, 292, 59, 652, 653, 654, 655, 695, 696, 697, 698, 38, 39, 1034, 1035, 1036, 1037, 1038, 1039, 1040, 1041, 1042, 1043, 1044, 1045, 1097, 1098, 1099, 1100, 1081, 1082, 1083, 1084, 1085, 1086, 1087, 1088, 1089, 1090, 1091, 1092, 1093] (by decide +kernel) (by decide +kernel)
set_option maxRecDepth 20000 in
theorem gL_law_X7_rows : GoodIn wsL_law (wsV RL 114 RX7 yX7_rows wsX7_rows) := goodIn_app (goodIn_of _ (by decide +kernel)) ggL_law_X7_rows
set_option maxRecDepth 20000 in
theorem ggL_law_X8_rows : GoodIn wsL_law wsX8_rows := goodIn_r _ [702, 135, 411, 703, 100, 182, 91, 503, 504, 505, 5, 506, 410, 136, 137, 138, 485, 486, 487, 488, 660, 661, 662, 663, 668, 669, 670, 671, 613, 614, 615, 616, 549, 550, 551, 552, 529, 530, 531, 532, 95, 92, 435, 436, 437, 438, 93, 94, 439, 440, 441, 442, 443, 444, 445, 446, 447, 1046, 1047, 1048, 1049, 1050, 1051, 1052, 1053, 1054, 1055, 1056, 1057, 1058, 1059, 1060, 1061, 1062, 1063, 1064, 1065, 1066, 1067, 1068, 1069, 1070, 1071, 1072, 1073, 1074, 1075, 1076, 1077, 1078] (by decide +kernel) (by decide +kernel)
set_option maxRecDepth 20000 in
theorem gL_law_X8_rows : GoodIn wsL_law (wsV RL 117 RX8 yX8_rows wsX8_rows) := goodIn_app (goodIn_of _ (by decide +kernel)) ggL_law_X8_rows
set_option maxRecDepth 20000 in
theorem ggL_law_X7_stuck : GoodIn wsL_law wsX7_stuck := goodIn_r _ [707, 21, 708, 1034, 1035, 1036, 1037, 1038, 1039, 1040, 1041, 1042, 1043, 1044, 1045, 1081, 1082, 1083, 1084, 1085, 1086, 1087, 1088, 1089, 1090, 1091, 1092, 1093] (by decide +kernel) (by decide +kernel)
set_option maxRecDepth 20000 in
theorem gL_law_X7_stuck : GoodIn wsL_law (wsV RL 118 RX7 yX7_stuck wsX7_stuck) := goodIn_app (goodIn_of _ (by decide +kernel)) ggL_law_X7_stuck
set_option maxRecDepth 20000 in
theorem ggL_law_X8_stuck : GoodIn wsL_law wsX8_stuck := goodIn_r _ [712, 412, 1046, 1047, 1048, 1049, 1050, 1051, 1052, 1053, 1054, 1055, 1056, 1057, 1058, 1059, 1060, 1061, 1062, 1063, 1064, 1065, 1066, 1067, 1068, 1069, 1070, 1071, 1072, 1073, 1074, 1075, 1076, 1077, 1078] (by decide +kernel) (by decide +kernel)
set_option maxRecDepth 20000 in
theorem gL_law_X8_stuck : GoodIn wsL_law (wsV RL 121 RX8 yX8_stuck wsX8_stuck) := goodIn_app (goodIn_of _ (by decide +kernel)) ggL_law_X8_stuck
set_option maxRecDepth 20000 in
theorem ggL_law_X7_way : GoodIn wsL_law wsX7_way := goodIn_r _ [716, 21, 708, 717, 718, 719, 720, 721, 722, 723, 724, 725, 726, 1034, 1035, 1036, 1037, 1038, 1039, 1040, 1041, 1042, 1043, 1044, 1045, 1081, 1082, 1083, 1084, 1085, 1086, 1087, 1088, 1089, 1090, 1091, 1092, 1093] (by decide +kernel) (by decide +kernel)
set_option maxRecDepth 20000 in
theorem gL_law_X7_way : GoodIn wsL_law (wsV RL 122 RX7 yX7_way wsX7_way) := goodIn_app (goodIn_of _ (by decide +kernel)) ggL_law_X7_way
set_option maxRecDepth 20000 in
theorem ggL_law_X8_way : GoodIn wsL_law wsX8_way := goodIn_r _ [730, 412, 731, 732, 5, 733, 734, 136, 137, 138, 735, 736, 737, 738, 104, 385, 386, 387, 739, 740, 741, 1046, 1047, 1048, 1049, 1050, 1051, 1052, 1053, 1054, 1055, 1056, 1057, 1058, 1059, 1060, 1061, 1062, 1063, 1064, 1065, 1066, 1067, 1068, 1069, 1070, 1071, 1072, 1073, 1074, 1075, 1076, 1077, 1078] (by decide +kernel) (by decide +kernel)
set_option maxRecDepth 20000 in
theorem gL_law_X8_way : GoodIn wsL_law (wsV RL 125 RX8 yX8_way wsX8_way) := goodIn_app (goodIn_of _ (by decide +kernel)) ggL_law_X8_way
set_option maxRecDepth 20000 in
theorem ggL_law_X7_cuts : GoodIn wsL_law wsX7_cuts := goodIn_r _ [745, 21, 708, 717, 718, 719, 720, 746, 747, 748, 749, 722, 723, 724, 725, 726, 1034, 1035, 1036, 1037, 1038, 1039, 1040, 1041, 1042, 1043, 1044, 1045, 1081, 1082, 1083, 1084, 1085, 1086, 1087, 1088, 1089, 1090, 1091, 1092, 1093] (by decide +kernel) (by decide +kernel)
set_option maxRecDepth 20000 in
theorem gL_law_X7_cuts : GoodIn wsL_law (wsV RL 126 RX7 yX7_cuts wsX7_cuts) := goodIn_app (goodIn_of _ (by decide +kernel)) ggL_law_X7_cuts
set_option maxRecDepth 20000 in
theorem ggL_law_X8_cuts : GoodIn wsL_law wsX8_cuts := goodIn_r _ [753, 412, 731, 732, 5, 733, 734, 136, 137, 138, 735, 736, 737, 738, 104, 385, 386, 387, 739, 740, 741, 1046, 1047, 1048, 1049, 1050, 1051, 1052, 1053, 1054, 1055, 1056, 1057, 1058, 1059, 1060, 1061, 1062, 1063, 1064, 1065, 1066, 1067, 1068, 1069, 1070, 1071, 1072, 1073, 1074, 1075, 1076, 1077, 1078] (by decide +kernel) (by decide +kernel)
set_option maxRecDepth 20000 in
theorem gL_law_X8_cuts : GoodIn wsL_law (wsV RL 129 RX8 yX8_cuts wsX8_cuts) := goodIn_app (goodIn_of _ (by decide +kernel)) ggL_law_X8_cuts
set_option maxRecDepth 20000 in
theorem ggL_law_X7_round : GoodIn wsL_law wsX7_round := goodIn_r _ [757, 21, 708, 717, 718, 719, 720, 721, 722, 723, 724, 725, 726, 1034, 1035, 1036, 1037, 1038, 1039, 1040, 1041, 1042, 1043, 1044, 1045, 1081, 1082, 1083, 1084, 1085, 1086, 1087, 1088, 1089, 1090, 1091, 1092, 1093] (by decide +kernel) (by decide +kernel)
set_option maxRecDepth 20000 in
theorem gL_law_X7_round : GoodIn wsL_law (wsV RL 130 RX7 yX7_round wsX7_round) := goodIn_app (goodIn_of _ (by decide +kernel)) ggL_law_X7_round
set_option maxRecDepth 20000 in
theorem ggL_law_X8_round : GoodIn wsL_law wsX8_round := goodIn_r _ [761, 412, 731, 732, 5, 733, 734, 136, 137, 138, 735, 736, 737, 738, 104, 385, 386, 387, 739, 740, 741, 1046, 1047, 1048, 1049, 1050, 1051, 1052, 1053, 1054, 1055, 1056, 1057, 1058, 1059, 1060, 1061, 1062, 1063, 1064, 1065, 1066, 1067, 1068, 1069, 1070, 1071, 1072, 1073, 1074, 1075, 1076, 1077, 1078] (by decide +kernel) (by decide +kernel)
set_option maxRecDepth 20000 in
theorem gL_law_X8_round : GoodIn wsL_law (wsV RL 133 RX8 yX8_round wsX8_round) := goodIn_app (goodIn_of _ (by decide +kernel)) ggL_law_X8_round
set_option maxRecDepth 20000 in
theorem ggL_law_X7_never : GoodIn wsL_law wsX7_never := goodIn_r _ [765, 766, 767, 768, 2, 769, 15, 195, 21, 152, 157, 158, 159, 160, 115, 116, 117, 14, 118, 46, 161, 162, 163, 164, 127, 119, 120, 121, 122, 36, 35, 417, 286, 287, 20, 288, 56, 770, 771, 772, 773, 774, 1034, 1035, 1036, 1037, 1038, 1039, 1040, 1041, 1042, 1043, 1044, 1045, 1079, 1080, 1081, 1082, 1083, 1084, 1085, 1086, 1087, 1088, 1089, 1090, 1091, 1092, 1093] (by decide +kernel) (by decide +kernel)
set_option maxRecDepth 20000 in
theorem gL_law_X7_never : GoodIn wsL_law (wsV RL 134 RX7 yX7_never wsX7_never) := goodIn_app (goodIn_of _ (by decide +kernel)) ggL_law_X7_never
set_option maxRecDepth 20000 in
theorem ggL_law_X8_never : GoodIn wsL_law wsX8_never := goodIn_r _ [778, 132, 133, 5, 134, 135, 136, 137, 138, 779, 780, 781, 782, 96, 97, 139, 140, 141, 142, 143, 101, 427, 428, 429, 430, 411, 783, 784, 785, 786, 95, 1046, 1047, 1048, 1049, 1050, 1051, 1052, 1053, 1054, 1055, 1056, 1057, 1058, 1059, 1060, 1061, 1062, 1063, 1064, 1065, 1066, 1067, 1068, 1069, 1070, 1071, 1072, 1073, 1074, 1075, 1076, 1077, 1078] (by decide +kernel) (by decide +kernel)
set_option maxRecDepth 20000 in
theorem gL_law_X8_never : GoodIn wsL_law (wsV RL 137 RX8 yX8_never wsX8_never) := goodIn_app (goodIn_of _ (by decide +kernel)) ggL_law_X8_never
set_option maxRecDepth 20000 in
theorem ggL_law_X7_next : GoodIn wsL_law wsX7_next := goodIn_r _ [790, 15, 21, 400, 774, 37, 115, 116, 117, 14, 118, 46, 537, 538, 539, 20, 540, 56, 54, 766, 767, 768, 2, 769, 195, 152, 157, 158, 159, 160, 161, 162, 163, 164, 127, 119, 120, 121, 122, 36, 35, 417, 286, 287, 288, 770, 771, 772, 773, 472, 302, 303, 304, 305, 306, 307, 621, 294, 295, 296, 57, 58, 64, 297, 298, 299, 300, 62, 301, 308, 309, 310, 278, 279, 258, 280, 1034, 1035, 1036, 1037, 1038, 1039, 1040, 1041, 1042, 1043, 1044, 1045, 1081, 1082, 1083, 1084, 1085, 1086, 1087, 1088, 1089, 1090, 1091, 1092, 1093, 1079, 1080] (by decide +kernel) (by decide +kernel)
set_option maxRecDepth 20000 in
theorem gL_law_X7_next : GoodIn wsL_law (wsV RL 138 RX7 yX7_next wsX7_next) := goodIn_app (goodIn_of _ (by decide +kernel)) ggL_law_X7_next
set_option maxRecDepth 20000 in
theorem ggL_law_X8_next : GoodIn wsL_law wsX8_next := goodIn_r _ [794, 411, 95, 182, 132, 133, 5, 134, 135, 136, 137, 138, 779, 780, 781, 782, 96, 97, 139, 140, 141, 142, 143, 101, 427, 428, 429, 430, 783, 784, 785, 786, 442, 443, 444, 435, 436, 437, 438, 93, 94, 91, 439, 440, 441, 445, 446, 447, 1046, 1047, 1048, 1049, 1050, 1051, 1052, 1053, 1054, 1055, 1056, 1057, 1058, 1059, 1060, 1061, 1062, 1063, 1064, 1065, 1066, 1067, 1068, 1069, 1070, 1071, 1072, 1073, 1074, 1075, 1076, 1077, 1078] (by decide +kernel) (by decide +kernel)
set_option maxRecDepth 20000 in
theorem gL_law_X8_next : GoodIn wsL_law (wsV RL 141 RX8 yX8_next wsX8_next) := goodIn_app (goodIn_of _ (by decide +kernel)) ggL_law_X8_next
set_option maxRecDepth 20000 in
theorem ggL_law_X7_kinds : GoodIn wsL_law wsX7_kinds := goodIn_r _ [798, 21, 453, 417, 286, 287, 20, 288, 56, 799, 309, 310, 278, 279, 258, 280, 1034, 1035, 1036, 1037, 1038, 1039, 1040, 1041, 1042, 1043, 1044, 1045, 1081, 1082, 1083, 1084, 1085, 1086, 1087, 1088, 1089, 1090, 1091, 1092, 1093] (by decide +kernel) (by decide +kernel)
set_option maxRecDepth 20000 in
theorem gL_law_X7_kinds : GoodIn wsL_law (wsV RL 142 RX7 yX7_kinds wsX7_kinds) := goodIn_app (goodIn_of _ (by decide +kernel)) ggL_law_X7_kinds
set_option maxRecDepth 20000 in
theorem ggL_law_X8_kinds : GoodIn wsL_law wsX8_kinds := goodIn_r _ [803, 804, 805, 239, 94, 427, 428, 429, 5, 430, 411, 136, 137, 138, 445, 446, 447, 1046, 1047, 1048, 1049, 1050, 1051, 1052, 1053, 1054, 1055, 1056, 1057, 1058, 1059, 1060, 1061, 1062, 1063, 1064, 1065, 1066, 1067, 1068, 1069, 1070, 1071, 1072, 1073, 1074, 1075, 1076, 1077, 1078] (by decide +kernel) (by decide +kernel)
set_option maxRecDepth 20000 in
theorem gL_law_X8_kinds : GoodIn wsL_law (wsV RL 146 RX8 yX8_kinds wsX8_kinds) := goodIn_app (goodIn_of _ (by decide +kernel)) ggL_law_X8_kinds
set_option maxRecDepth 20000 in
theorem ggL_law_X7_duel : GoodIn wsL_law wsX7_duel := goodIn_r _ [809, 21, 810, 811, 812, 2, 813, 498, 282, 283, 20, 284, 54, 513, 465, 466, 467, 63, 537, 538, 539, 540, 56, 814, 815, 816, 817, 818, 279, 258, 280, 819, 820, 821, 822, 823, 824, 469, 470, 471, 61, 55, 293, 294, 295, 296, 57, 58, 64, 297, 298, 299, 300, 62, 301, 302, 303, 304, 305, 306, 307, 308, 309, 310, 278, 825, 649, 650, 651, 274, 275, 276, 277, 289, 290, 291, 292, 59, 826, 827, 653, 654, 655, 1034, 1035, 1036, 1037, 1038, 1039, 1040, 1041, 1042, 1043, 1044, 1045, 1081, 1082, 1083, 1084, 1085, 1086, 1087, 1088, 1089, 1090, 1091, 1092, 1093] (by decide +kernel) (by decide +kernel)
set_option maxRecDepth 20000 in
theorem gL_law_X7_duel : GoodIn wsL_law (wsV RL 147 RX7 yX7_duel wsX7_duel) := goodIn_app (goodIn_of _ (by decide +kernel)) ggL_law_X7_duel
set_option maxRecDepth 20000 in
theorem ggL_law_X8_duel : GoodIn wsL_law wsX8_duel := goodIn_r _ [831, 832, 833, 834, 5, 835, 411, 503, 504, 505, 506, 410, 136, 137, 138, 485, 486, 487, 488, 91, 836, 837, 838, 839, 105, 109, 108, 106, 93, 94, 107, 92, 95, 840, 841, 842, 843, 844, 845, 846, 847, 848, 849, 850, 851, 852, 385, 386, 387, 439, 440, 441, 442, 443, 444, 445, 446, 447, 1046, 1047, 1048, 1049, 1050, 1051, 1052, 1053, 1054, 1055, 1056, 1057, 1058, 1059, 1060, 1061, 1062, 1063, 1064, 1065, 1066, 1067, 1068, 1069, 1070, 1071, 1072, 1073, 1074, 1075, 1076, 1077, 1078] (by decide +kernel) (by decide +kernel)
set_option maxRecDepth 20000 in
theorem gL_law_X8_duel : GoodIn wsL_law (wsV RL 150 RX8 yX8_duel wsX8_duel) := goodIn_app (goodIn_of _ (by decide +kernel)) ggL_law_X8_duel
set_option maxRecDepth 20000 in
theorem ggL_law_X7_opens : GoodIn wsL_law wsX7_opens := goodIn_r _ [856, 21, 810, 811, 812, 2, 813, 498, 282, 283, 20, 284, 54, 513, 465, 466, 467, 63, 537, 538, 539, 540, 56, 857, 858, 815, 859, 817, 819, 820, 821, 822, 823, 824, 469, 470, 471, 61, 55, 293, 294, 295, 296, 57, 58, 64, 297, 298, 299, 300, 62, 301, 302, 303, 304, 305, 306, 307, 308, 309, 310, 278, 279, 258, 280, 825, 649, 650, 651, 274, 275, 276, 277, 289, 290, 291, 292, 59, 826, 814, 827, 653, 654, 655, 816, 818, 1034, 1035, 1036, 1037, 1038, 1039, 1040, 1041, 1042, 1043, 1044, 1045, 1081, 1082, 1083, 1084, 1085, 1086, 1087, 1088, 1089, 1090, 1091, 1092, 1093] (by decide +kernel) (by decide +kernel)
set_option maxRecDepth 20000 in
theorem gL_law_X7_opens : GoodIn wsL_law (wsV RL 151 RX7 yX7_opens wsX7_opens) := goodIn_app (goodIn_of _ (by decide +kernel)) ggL_law_X7_opens
set_option maxRecDepth 20000 in
theorem ggL_law_X8_opens : GoodIn wsL_law wsX8_opens := goodIn_r _ [863, 848, 832, 833, 834, 5, 835, 411, 503, 504, 505, 506, 410, 136, 137, 138, 485, 486, 487, 488, 91, 836, 837, 838, 839, 105, 109, 108, 106, 93, 94, 107, 92, 95, 840, 841, 842, 843, 844, 845, 846, 847, 849, 850, 851, 852, 385, 386, 387, 439, 440, 441, 442, 443, 444, 445, 446, 447, 1046, 1047, 1048, 1049, 1050, 1051, 1052, 1053, 1054, 1055, 1056, 1057, 1058, 1059, 1060, 1061, 1062, 1063, 1064, 1065, 1066, 1067, 1068, 1069, 1070, 1071, 1072, 1073, 1074, 1075, 1076, 1077, 1078] (by decide +kernel) (by decide +kernel)
set_option maxRecDepth 20000 in
theorem gL_law_X8_opens : GoodIn wsL_law (wsV RL 154 RX8 yX8_opens wsX8_opens) := goodIn_app (goodIn_of _ (by decide +kernel)) ggL_law_X8_opens
set_option maxRecDepth 20000 in
theorem ggL_law_X7_mid : GoodIn wsL_law wsX7_mid := goodIn_r _ [867, 21, 33, 512, 868, 869, 870, 32, 871, 537, 538, 539, 20, 540, 56, 54, 872, 873, 874, 875, 85, 86, 876, 877, 878, 49, 879, 880, 881, 882, 883, 884, 279, 258, 280, 695, 696, 697, 2, 698, 38, 39, 1034, 1035, 1036, 1037, 1038, 1039, 1040, 1041, 1042, 1043, 1044, 1045, 1081, 1082, 1083, 1084, 1085, 1086, 1087, 1088, 1089, 1090, 1091, 1092, 1093, 1101, 1102] (by decide +kernel) (by decide +kernel)
set_option maxRecDepth 20000 in
theorem gL_law_X7_mid : GoodIn wsL_law (wsV RL 155 RX7 yX7_mid wsX7_mid) := goodIn_app (goodIn_of _ (by decide +kernel)) ggL_law_X7_mid
set_option maxRecDepth 20000 in
theorem ggL_law_X8_mid : GoodIn wsL_law wsX8_mid := goodIn_r _ [888, 889, 411, 110, 136, 137, 5, 138, 890, 891, 892, 893, 894, 895, 896, 897, 91, 898, 899, 900, 901, 703, 100, 1046, 1047, 1048, 1049, 1050, 1051, 1052, 1053, 1054, 1055, 1056, 1057, 1058, 1059, 1060, 1061, 1062, 1063, 1064, 1065, 1066, 1067, 1068, 1069, 1070, 1071, 1072, 1073, 1074, 1075, 1076, 1077, 1078] (by decide +kernel) (by decide +kernel)
set_option maxRecDepth 20000 in
theorem gL_law_X8_mid : GoodIn wsL_law (wsV RL 158 RX8 yX8_mid wsX8_mid) := goodIn_app (goodIn_of _ (by decide +kernel)) ggL_law_X8_mid
set_option maxRecDepth 20000 in
theorem ggL_law_X7_odds : GoodIn wsL_law wsX7_odds := goodIn_r _ [905, 21, 33, 497, 512, 868, 498, 282, 283, 20, 284, 54, 417, 286, 287, 288, 56, 869, 870, 32, 871, 513, 465, 466, 467, 63, 537, 538, 539, 540, 872, 873, 874, 875, 85, 86, 876, 877, 878, 49, 879, 621, 294, 295, 296, 57, 58, 64, 297, 298, 299, 300, 62, 301, 302, 303, 304, 305, 306, 307, 308, 309, 310, 278, 279, 258, 280, 906, 907, 908, 909, 884, 695, 696, 697, 2, 698, 38, 39, 1034, 1035, 1036, 1037, 1038, 1039, 1040, 1041, 1042, 1043, 1044, 1045, 1081, 1082, 1083, 1084, 1085, 1086, 1087, 1088, 1089, 1090, 1091, 1092, 1093, 1101, 1102] (by decide +kernel) (by decide +kernel)
set_option maxRecDepth 20000 in
theorem gL_law_X7_odds : GoodIn wsL_law (wsV RL 159 RX7 yX7_odds wsX7_odds) := goodIn_app (goodIn_of _ (by decide +kernel)) ggL_law_X7_odds
set_option maxRecDepth 20000 in
theorem ggL_law_X8_odds : GoodIn wsL_law wsX8_odds := goodIn_r _ [913, 889, 92, 110, 503, 504, 505, 5, 506, 410, 136, 137, 138, 427, 428, 429, 430, 411, 485, 486, 487, 488, 91, 890, 891, 892, 893, 894, 895, 896, 897, 435, 436, 437, 438, 93, 94, 439, 440, 441, 442, 443, 444, 445, 446, 447, 898, 899, 900, 901, 703, 100, 1046, 1047, 1048, 1049, 1050, 1051, 1052, 1053, 1054, 1055, 1056, 1057, 1058, 1059, 1060, 1061, 1062, 1063, 1064, 1065, 1066, 1067, 1068, 1069, 1070, 1071, 1072, 1073, 1074, 1075, 1076, 1077, 1078] (by decide +kernel) (by decide +kernel)
set_option maxRecDepth 20000 in
theorem gL_law_X8_odds : GoodIn wsL_law (wsV RL 162 RX8 yX8_odds wsX8_odds) := goodIn_app (goodIn_of _ (by decide +kernel)) ggL_law_X8_odds
set_option maxRecDepth 20000 in
theorem ggL_law_X7_lots : GoodIn wsL_law wsX7_lots := goodIn_r _ [917, 918, 21, 511, 919, 512, 537, 538, 539, 20, 540, 56, 54, 920, 921, 922, 923, 924, 925, 926, 927, 464, 465, 466, 467, 63, 468, 469, 470, 471, 61, 55, 293, 294, 295, 296, 57, 58, 64, 297, 298, 299, 300, 62, 301, 302, 303, 304, 305, 306, 307, 308, 309, 310, 278, 279, 258, 280, 928, 515, 516, 517, 518, 519, 520, 65, 66, 270, 271, 272, 273, 274, 275, 276, 277, 281, 282, 283, 284, 285, 286, 287, 288, 289, 290, 291, 292, 59, 1034, 1035, 1036, 1037, 1038, 1039, 1040, 1041, 1042, 1043, 1044, 1045, 1081, 1082, 1083, 1084, 1085, 1086, 1087, 1088, 1089, 1090, 1091, 1092, 1093] (by decide +kernel) (by decide +kernel)
set_option maxRecDepth 20000 in
theorem gL_law_X7_lots : GoodIn wsL_law (wsV RL 163 RX7 yX7_lots wsX7_lots) := goodIn_app (goodIn_of _ (by decide +kernel)) ggL_law_X7_lots
set_option maxRecDepth 20000 in
theorem ggL_law_X8_lots : GoodIn wsL_law wsX8_lots := goodIn_r _ [932, 933, 934, 411, 91, 935, 936, 937, 410, 938, 426, 136, 137, 5, 138, 485, 486, 487, 488, 489, 490, 491, 492, 92, 435, 436, 437, 438, 93, 94, 439, 440, 441, 442, 443, 444, 445, 446, 447, 545, 546, 547, 548, 525, 526, 527, 528, 549, 550, 551, 552, 529, 530, 531, 532, 95, 1046, 1047, 1048, 1049, 1050, 1051, 1052, 1053, 1054, 1055, 1056, 1057, 1058, 1059, 1060, 1061, 1062, 1063, 1064, 1065, 1066, 1067, 1068, 1069, 1070, 1071, 1072, 1073, 1074, 1075, 1076, 1077, 1078] (by decide +kernel) (by decide +kernel)
set_option maxRecDepth 20000 in
theorem gL_law_X8_lots : GoodIn wsL_law (wsV RL 166 RX8 yX8_lots wsX8_lots) := goodIn_app (goodIn_of _ (by decide +kernel)) ggL_law_X8_lots
set_option maxRecDepth 20000 in
theorem ggL_law_X7_asked : GoodIn wsL_law wsX7_asked := goodIn_r _ [942, 37, 1034, 1035, 1036, 1037, 1038, 1039, 1040, 1041, 1042, 1043, 1044, 1045] (by decide +kernel) (by decide +kernel)
set_option maxRecDepth 20000 in
theorem gL_law_X7_asked : GoodIn wsL_law (wsV RL 167 RX7 yX7_asked wsX7_asked) := goodIn_app (goodIn_of _ (by decide +kernel)) ggL_law_X7_asked
set_option maxRecDepth 20000 in
theorem ggL_law_X8_asked : GoodIn wsL_law wsX8_asked := goodIn_r _ [946, 182, 1046, 1047, 1048, 1049, 1050, 1051, 1052, 1053, 1054, 1055, 1056, 1057, 1058, 1059, 1060, 1061, 1062, 1063, 1064, 1065, 1066, 1067, 1068, 1069, 1070, 1071, 1072, 1073, 1074, 1075, 1076, 1077, 1078] (by decide +kernel) (by decide +kernel)
set_option maxRecDepth 20000 in
theorem gL_law_X8_asked : GoodIn wsL_law (wsV RL 170 RX8 yX8_asked wsX8_asked) := goodIn_app (goodIn_of _ (by decide +kernel)) ggL_law_X8_asked
set_option maxRecDepth 20000 in
theorem ggL_law_X7_upper : GoodIn wsL_law wsX7_upper := goodIn_r _ [950, 38, 1034, 1035, 1036, 1037, 1038, 1039, 1040, 1041, 1042, 1043, 1044, 1045] (by decide +kernel) (by decide +kernel)
set_option maxRecDepth 20000 in
theorem gL_law_X7_upper : GoodIn wsL_law (wsV RL 171 RX7 yX7_upper wsX7_upper) := goodIn_app (goodIn_of _ (by decide +kernel)) ggL_law_X7_upper
set_option maxRecDepth 20000 in
theorem ggL_law_X8_upper : GoodIn wsL_law wsX8_upper := goodIn_r _ [954, 703, 1046, 1047, 1048, 1049, 1050, 1051, 1052, 1053, 1054, 1055, 1056, 1057, 1058, 1059, 1060, 1061, 1062, 1063, 1064, 1065, 1066, 1067, 1068, 1069, 1070, 1071, 1072, 1073, 1074, 1075, 1076, 1077, 1078] (by decide +kernel) (by decide +kernel)
set_option maxRecDepth 20000 in
theorem gL_law_X8_upper : GoodIn wsL_law (wsV RL 175 RX8 yX8_upper wsX8_upper) := goodIn_app (goodIn_of _ (by decide +kernel)) ggL_law_X8_upper
set_option maxRecDepth 20000 in
theorem ggL_law_X7_lower : GoodIn wsL_law wsX7_lower := goodIn_r _ [958, 39, 1034, 1035, 1036, 1037, 1038, 1039, 1040, 1041, 1042, 1043, 1044, 1045] (by decide +kernel) (by decide +kernel)
set_option maxRecDepth 20000 in
theorem gL_law_X7_lower : GoodIn wsL_law (wsV RL 176 RX7 yX7_lower wsX7_lower) := goodIn_app (goodIn_of _ (by decide +kernel)) ggL_law_X7_lower
set_option maxRecDepth 20000 in
theorem ggL_law_X8_lower : GoodIn wsL_law wsX8_lower := goodIn_r _ [962, 100, 1046, 1047, 1048, 1049, 1050, 1051, 1052, 1053, 1054, 1055, 1056, 1057, 1058, 1059, 1060, 1061, 1062, 1063, 1064, 1065, 1066, 1067, 1068, 1069, 1070, 1071, 1072, 1073, 1074, 1075, 1076, 1077, 1078] (by decide +kernel) (by decide +kernel)
set_option maxRecDepth 20000 in
theorem gL_law_X8_lower : GoodIn wsL_law (wsV RL 179 RX8 yX8_lower wsX8_lower) := goodIn_app (goodIn_of _ (by decide +kernel)) ggL_law_X8_lower
set_option maxRecDepth 20000 in
theorem ggL_law_X7_count : GoodIn wsL_law wsX7_count := goodIn_r _ [966, 21, 400, 967, 511, 512, 968, 969, 15, 16, 17, 970, 971, 972, 20, 973, 65, 66, 974, 975, 976, 977, 56, 978, 456, 457, 458, 57, 979, 980, 981, 14, 982, 46, 1034, 1035, 1036, 1037, 1038, 1039, 1040, 1041, 1042, 1043, 1044, 1045, 1081, 1082, 1083, 1084, 1085, 1086, 1087, 1088, 1089, 1090, 1091, 1092, 1093, 1079, 1080] (by decide +kernel) (by decide +kernel)
set_option maxRecDepth 20000 in
theorem gL_law_X7_count : GoodIn wsL_law (wsV RL 180 RX7 yX7_count wsX7_count) := goodIn_app (goodIn_of _ (by decide +kernel)) ggL_law_X7_count
set_option maxRecDepth 20000 in
theorem ggL_law_X8_count : GoodIn wsL_law wsX8_count := goodIn_r _ [986, 987, 136, 137, 5, 138, 988, 989, 990, 991, 411, 410, 91, 992, 993, 994, 995, 477, 478, 479, 480, 93, 996, 997, 998, 999, 96, 98, 1046, 1047, 1048, 1049, 1050, 1051, 1052, 1053, 1054, 1055, 1056, 1057, 1058, 1059, 1060, 1061, 1062, 1063, 1064, 1065, 1066, 1067, 1068, 1069, 1070, 1071, 1072, 1073, 1074, 1075, 1076, 1077, 1078] (by decide +kernel) (by decide +kernel)
set_option maxRecDepth 20000 in
theorem gL_law_X8_count : GoodIn wsL_law (wsV RL 183 RX8 yX8_count wsX8_count) := goodIn_app (goodIn_of _ (by decide +kernel)) ggL_law_X8_count
set_option maxRecDepth 20000 in
theorem ggL_law_X7_finding : GoodIn wsL_law wsX7_finding := goodIn_r _ [1003, 36, 1034, 1035, 1036, 1037, 1038, 1039, 1040, 1041, 1042, 1043, 1044, 1045] (by decide +kernel) (by decide +kernel)
set_option maxRecDepth 20000 in
theorem gL_law_X7_finding : GoodIn wsL_law (wsV RL 184 RX7 yX7_finding wsX7_finding) := goodIn_app (goodIn_of _ (by decide +kernel)) ggL_law_X7_finding
set_option maxRecDepth 20000 in
theorem ggL_law_X8_finding : GoodIn wsL_law wsX8_finding := goodIn_r _ [1007, 143, 1046, 1047, 1048, 1049, 1050, 1051, 1052, 1053, 1054, 1055, 1056, 1057, 1058, 1059, 1060, 1061, 1062, 1063, 1064, 1065, 1066, 1067, 1068, 1069, 1070, 1071, 1072, 1073, 1074, 1075, 1076, 1077, 1078] (by decide +kernel) (by decide +kernel)
set_option maxRecDepth 20000 in
theorem gL_law_X8_finding : GoodIn wsL_law (wsV RL 187 RX8 yX8_finding wsX8_finding) := goodIn_app (goodIn_of _ (by decide +kernel)) ggL_law_X8_finding
set_option maxRecDepth 20000 in
theorem ggL_law_X7_findings : GoodIn wsL_law wsX7_findings := goodIn_r _ [1011, 35, 1034, 1035, 1036, 1037, 1038, 1039, 1040, 1041, 1042, 1043, 1044, 1045] (by decide +kernel) (by decide +kernel)
set_option maxRecDepth 20000 in
theorem gL_law_X7_findings : GoodIn wsL_law (wsV RL 188 RX7 yX7_findings wsX7_findings) := goodIn_app (goodIn_of _ (by decide +kernel)) ggL_law_X7_findings
set_option maxRecDepth 20000 in
theorem ggL_law_X8_findings : GoodIn wsL_law wsX8_findings := goodIn_r _ [1015, 135, 101, 136, 137, 5, 138, 1046, 1047, 1048, 1049, 1050, 1051, 1052, 1053, 1054, 1055, 1056, 1057, 1058, 1059, 1060, 1061, 1062, 1063, 1064, 1065, 1066, 1067, 1068, 1069, 1070, 1071, 1072, 1073, 1074, 1075, 1076, 1077, 1078] (by decide +kernel) (by decide +kernel)
set_option maxRecDepth 20000 in
theorem gL_law_X8_findings : GoodIn wsL_law (wsV RL 191 RX8 yX8_findings wsX8_findings) := goodIn_app (goodIn_of _ (by decide +kernel)) ggL_law_X8_findings
set_option maxRecDepth 20000 in
theorem ggL_law_X7_digest : GoodIn wsL_law wsX7_digest := goodIn_r _ [1019, 1020, 1021, 21, 967, 497, 400, 708, 17, 195, 16, 15, 1022, 964, 965, 2, 966, 511, 512, 968, 969, 970, 971, 972, 20, 973, 65, 66, 974, 975, 976, 977, 56, 978, 456, 457, 458, 57, 979, 980, 981, 14, 982, 46, 418, 419, 420, 421, 58, 59, 64, 293, 294, 295, 296, 297, 298, 299, 300, 62, 301, 302, 303, 304, 305, 306, 307, 308, 309, 310, 278, 279, 258, 280, 1023, 1024, 1025, 1026, 1027, 45, 1034, 1035, 1036, 1037, 1038, 1039, 1040, 1041, 1042, 1043, 1044, 1045, 1081, 1082, 1083, 1084, 1085, 1086, 1087, 1088, 1089, 1090, 1091, 1092, 1093, 1079, 1080] (by decide +kernel) (by decide +kernel)
set_option maxRecDepth 20000 in
theorem gL_law_X7_digest : GoodIn wsL_law (wsV RL 192 RX7 yX7_digest wsX7_digest) := goodIn_app (goodIn_of _ (by decide +kernel)) ggL_law_X7_digest
set_option maxRecDepth 20000 in
theorem ggL_law_X8_digest : GoodIn wsL_law wsX8_digest := goodIn_r _ [1031, 1032, 1033, 410, 92, 411, 412, 91, 96, 97, 98, 99, 988, 989, 990, 5, 991, 992, 993, 994, 995, 477, 478, 479, 480, 93, 996, 997, 998, 999, 431, 432, 433, 434, 94, 95, 435, 436, 437, 438, 439, 440, 441, 442, 443, 444, 445, 446, 447, 1046, 1047, 1048, 1049, 1050, 1051, 1052, 1053, 1054, 1055, 1056, 1057, 1058, 1059, 1060, 1061, 1062, 1063, 1064, 1065, 1066, 1067, 1068, 1069, 1070, 1071, 1072, 1073, 1074, 1075, 1076, 1077, 1078] (by decide +kernel) (by decide +kernel)
set_option maxRecDepth 20000 in
theorem gL_law_X8_digest : GoodIn wsL_law (wsV RL 195 RX8 yX8_digest wsX8_digest) := goodIn_app (goodIn_of _ (by decide +kernel)) ggL_law_X8_digest
