theorem dX8_lots_51 : decode cX8_lots 51 = .ok (.ireturn, 1) := by decide +kernel
theorem dX8_lots_52 : decode cX8_lots 52 = .ok (.iload_n 2, 1) := by decide +kernel
theorem dX8_lots_53 : decode cX8_lots 53 = .ok (.i2l, 1) := by decide +kernel
theorem dX8_lots_54 : decode cX8_lots 54 = .ok (.lstore_n 3, 1) := by decide +kernel
theorem dX8_lots_55 : decode cX8_lots 55 = .ok (.iconst 0, 1) := by decide +kernel
theorem dX8_lots_56 : decode cX8_lots 56 = .ok (.istore 5, 2) := by decide +kernel
theorem dX8_lots_58 : decode cX8_lots 58 = .ok (.iload 5, 2) := by decide +kernel
theorem dX8_lots_60 : decode cX8_lots 60 = .ok (.iload_n 1, 1) := by decide +kernel
theorem dX8_lots_61 : decode cX8_lots 61 = .ok (.if_icmp .ge 95, 3) := by decide +kernel
theorem dX8_lots_64 : decode cX8_lots 64 = .ok (.lload_n 3, 1) := by decide +kernel
theorem dX8_lots_65 : decode cX8_lots 65 = .ok (.ldc2_w 300, 3) := by decide +kernel
theorem dX8_lots_68 : decode cX8_lots 68 = .ok (.lmul, 1) := by decide +kernel
theorem dX8_lots_69 : decode cX8_lots 69 = .ok (.ldc2_w 302, 3) := by decide +kernel
theorem dX8_lots_72 : decode cX8_lots 72 = .ok (.lrem, 1) := by decide +kernel
theorem dX8_lots_73 : decode cX8_lots 73 = .ok (.lstore_n 3, 1) := by decide +kernel
theorem dX8_lots_74 : decode cX8_lots 74 = .ok (.lload_n 3, 1) := by decide +kernel
theorem dX8_lots_75 : decode cX8_lots 75 = .ok (.ldc2_w 304, 3) := by decide +kernel
theorem dX8_lots_78 : decode cX8_lots 78 = .ok (.ldiv, 1) := by decide +kernel
theorem dX8_lots_79 : decode cX8_lots 79 = .ok (.aload_n 0, 1) := by decide +kernel
theorem dX8_lots_80 : decode cX8_lots 80 = .ok (.getfield 164, 3) := by decide +kernel
theorem dX8_lots_83 : decode cX8_lots 83 = .ok (.i2l, 1) := by decide +kernel
theorem dX8_lots_84 : decode cX8_lots 84 = .ok (.lrem, 1) := by decide +kernel
theorem dX8_lots_85 : decode cX8_lots 85 = .ok (.l2i, 1) := by decide +kernel
theorem dX8_lots_86 : decode cX8_lots 86 = .ok (.istore 6, 2) := by decide +kernel
theorem dX8_lots_88 : decode cX8_lots 88 = .ok (.lload_n 3, 1) := by decide +kernel
theorem dX8_lots_89 : decode cX8_lots 89 = .ok (.aload_n 0, 1) := by decide +kernel
theorem dX8_lots_90 : decode cX8_lots 90 = .ok (.getfield 167, 3) := by decide +kernel
theorem dX8_lots_93 : decode cX8_lots 93 = .ok (.i2l, 1) := by decide +kernel
theorem dX8_lots_94 : decode cX8_lots 94 = .ok (.lrem, 1) := by decide +kernel
theorem dX8_lots_95 : decode cX8_lots 95 = .ok (.l2i, 1) := by decide +kernel
theorem dX8_lots_96 : decode cX8_lots 96 = .ok (.istore 7, 2) := by decide +kernel
theorem dX8_lots_98 : decode cX8_lots 98 = .ok (.lload_n 3, 1) := by decide +kernel
theorem dX8_lots_99 : decode cX8_lots 99 = .ok (.ldc2_w 306, 3) := by decide +kernel
theorem dX8_lots_102 : decode cX8_lots 102 = .ok (.ldiv, 1) := by decide +kernel
theorem dX8_lots_103 : decode cX8_lots 103 = .ok (.ldc2_w 189, 3) := by decide +kernel
theorem dX8_lots_106 : decode cX8_lots 106 = .ok (.lrem, 1) := by decide +kernel
theorem dX8_lots_107 : decode cX8_lots 107 = .ok (.lconst 0, 1) := by decide +kernel
theorem dX8_lots_108 : decode cX8_lots 108 = .ok (.lcmp, 1) := by decide +kernel
theorem dX8_lots_109 : decode cX8_lots 109 = .ok (.ifCond .eq 21, 3) := by decide +kernel
theorem dX8_lots_112 : decode cX8_lots 112 = .ok (.aload_n 0, 1) := by decide +kernel
theorem dX8_lots_113 : decode cX8_lots 113 = .ok (.invokevirtual 203, 3) := by decide +kernel
theorem dX8_lots_116 : decode cX8_lots 116 = .ok (.ifCond .ne 14, 3) := by decide +kernel
theorem dX8_lots_119 : decode cX8_lots 119 = .ok (.aload_n 0, 1) := by decide +kernel
theorem dX8_lots_120 : decode cX8_lots 120 = .ok (.iload 6, 2) := by decide +kernel
theorem dX8_lots_122 : decode cX8_lots 122 = .ok (.iload 7, 2) := by decide +kernel
theorem dX8_lots_124 : decode cX8_lots 124 = .ok (.invokevirtual 225, 3) := by decide +kernel
theorem dX8_lots_127 : decode cX8_lots 127 = .ok (.ifCond .ne 10, 3) := by decide +kernel
theorem dX8_lots_130 : decode cX8_lots 130 = .ok (.aload_n 0, 1) := by decide +kernel
theorem dX8_lots_131 : decode cX8_lots 131 = .ok (.invokevirtual 217, 3) := by decide +kernel
theorem dX8_lots_134 : decode cX8_lots 134 = .ok (.goto 16, 3) := by decide +kernel
theorem dX8_lots_137 : decode cX8_lots 137 = .ok (.aload_n 0, 1) := by decide +kernel
theorem dX8_lots_138 : decode cX8_lots 138 = .ok (.invokevirtual 206, 3) := by decide +kernel
theorem dX8_lots_141 : decode cX8_lots 141 = .ok (.aload_n 0, 1) := by decide +kernel
theorem dX8_lots_142 : decode cX8_lots 142 = .ok (.iconst 0, 1) := by decide +kernel
theorem dX8_lots_143 : decode cX8_lots 143 = .ok (.iload 6, 2) := by decide +kernel
theorem dX8_lots_145 : decode cX8_lots 145 = .ok (.iload 7, 2) := by decide +kernel
theorem dX8_lots_147 : decode cX8_lots 147 = .ok (.invokevirtual 209, 3) := by decide +kernel
theorem dX8_lots_150 : decode cX8_lots 150 = .ok (.iinc 5 1, 3) := by decide +kernel
theorem dX8_lots_153 : decode cX8_lots 153 = .ok (.goto (-95), 3) := by decide +kernel
theorem dX8_lots_156 : decode cX8_lots 156 = .ok (.aload_n 0, 1) := by decide +kernel
theorem dX8_lots_157 : decode cX8_lots 157 = .ok (.getfield 7, 3) := by decide +kernel
theorem dX8_lots_160 : decode cX8_lots 160 = .ok (.iconst 2, 1) := by decide +kernel
theorem dX8_lots_161 : decode cX8_lots 161 = .ok (.iaload, 1) := by decide +kernel
theorem dX8_lots_162 : decode cX8_lots 162 = .ok (.ireturn, 1) := by decide +kernel
theorem dX8_asked_0 : decode cX8_asked 0 = .ok (.aload_n 0, 1) := by decide +kernel
theorem dX8_asked_1 : decode cX8_asked 1 = .ok (.getfield 76, 3) := by decide +kernel
theorem dX8_asked_4 : decode cX8_asked 4 = .ok (.ireturn, 1) := by decide +kernel
theorem dX8_upper_0 : decode cX8_upper 0 = .ok (.aload_n 0, 1) := by decide +kernel
theorem dX8_upper_1 : decode cX8_upper 1 = .ok (.getfield 240, 3) := by decide +kernel
theorem dX8_upper_4 : decode cX8_upper 4 = .ok (.lreturn, 1) := by decide +kernel
theorem dX8_lower_0 : decode cX8_lower 0 = .ok (.aload_n 0, 1) := by decide +kernel
theorem dX8_lower_1 : decode cX8_lower 1 = .ok (.getfield 37, 3) := by decide +kernel
theorem dX8_lower_4 : decode cX8_lower 4 = .ok (.lreturn, 1) := by decide +kernel
set_option maxRecDepth 20000 in
theorem ggX8_hints_X8_isOf : GoodIn wsX8_hints wsX8_isOf := goodIn_r _ [6, 7, 8, 9, 10, 11, 12, 13, 14, 15, 16, 17, 18, 19, 20, 21, 22, 23, 24, 25, 26, 27, 28, 29, 30, 31, 32, 33, 34, 35, 36, 37, 38, 39, 40] (by decide +kernel) (by decide +kernel)
set_option maxRecDepth 20000 in
theorem gX8_hints_X8_isOf : GoodIn wsX8_hints (wsV RX8 194 RX8 yX8_isOf wsX8_isOf) := goodIn_app (goodIn_of _ (by decide +kernel)) ggX8_hints_X8_isOf
theorem dX8_hints_0 : decode cX8_hints 0 = .ok (.iconst 0, 1) := by decide +kernel
theorem dX8_hints_1 : decode cX8_hints 1 = .ok (.istore_n 1, 1) := by decide +kernel
theorem dX8_hints_2 : decode cX8_hints 2 = .ok (.iconst 0, 1) := by decide +kernel
theorem dX8_hints_3 : decode cX8_hints 3 = .ok (.istore_n 2, 1) := by decide +kernel
theorem dX8_hints_4 : decode cX8_hints 4 = .ok (.iload_n 2, 1) := by decide +kernel
theorem dX8_hints_5 : decode cX8_hints 5 = .ok (.aload_n 0, 1) := by decide +kernel
theorem dX8_hints_6 : decode cX8_hints 6 = .ok (.getfield 167, 3) := by decide +kernel
theorem dX8_hints_9 : decode cX8_hints 9 = .ok (.if_icmp .ge 26, 3) := by decide +kernel
theorem dX8_hints_12 : decode cX8_hints 12 = .ok (.iload_n 1, 1) := by decide +kernel
theorem dX8_hints_13 : decode cX8_hints 13 = .ok (.aload_n 0, 1) := by decide +kernel
theorem dX8_hints_14 : decode cX8_hints 14 = .ok (.iload_n 2, 1) := by decide +kernel
theorem dX8_hints_15 : decode cX8_hints 15 = .ok (.iconst 1, 1) := by decide +kernel
theorem dX8_hints_16 : decode cX8_hints 16 = .ok (.invokevirtual 194, 3) := by decide +kernel
theorem dX8_hints_19 : decode cX8_hints 19 = .ok (.ifCond .eq 7, 3) := by decide +kernel
theorem dX8_hints_22 : decode cX8_hints 22 = .ok (.iconst 1, 1) := by decide +kernel
theorem dX8_hints_23 : decode cX8_hints 23 = .ok (.goto 4, 3) := by decide +kernel
theorem dX8_hints_26 : decode cX8_hints 26 = .ok (.iconst 0, 1) := by decide +kernel
theorem dX8_hints_27 : decode cX8_hints 27 = .ok (.iadd, 1) := by decide +kernel
theorem dX8_hints_28 : decode cX8_hints 28 = .ok (.istore_n 1, 1) := by decide +kernel
theorem dX8_hints_29 : decode cX8_hints 29 = .ok (.iinc 2 1, 3) := by decide +kernel
theorem dX8_hints_32 : decode cX8_hints 32 = .ok (.goto (-28), 3) := by decide +kernel
theorem dX8_hints_35 : decode cX8_hints 35 = .ok (.iload_n 1, 1) := by decide +kernel
theorem dX8_hints_36 : decode cX8_hints 36 = .ok (.ireturn, 1) := by decide +kernel
theorem dX8_thereOf_0 : decode cX8_thereOf 0 = .ok (.iconst 0, 1) := by decide +kernel
theorem dX8_thereOf_1 : decode cX8_thereOf 1 = .ok (.istore_n 2, 1) := by decide +kernel
theorem dX8_thereOf_2 : decode cX8_thereOf 2 = .ok (.iconst 0, 1) := by decide +kernel
theorem dX8_thereOf_3 : decode cX8_thereOf 3 = .ok (.istore_n 3, 1) := by decide +kernel
theorem dX8_thereOf_4 : decode cX8_thereOf 4 = .ok (.iload_n 3, 1) := by decide +kernel
theorem dX8_thereOf_5 : decode cX8_thereOf 5 = .ok (.bipush 6, 2) := by decide +kernel
theorem dX8_thereOf_7 : decode cX8_thereOf 7 = .ok (.if_icmp .ge 90, 3) := by decide +kernel
theorem dX8_thereOf_10 : decode cX8_thereOf 10 = .ok (.iload_n 2, 1) := by decide +kernel
theorem dX8_thereOf_11 : decode cX8_thereOf 11 = .ok (.iload_n 1, 1) := by decide +kernel
theorem dX8_thereOf_12 : decode cX8_thereOf 12 = .ok (.bipush 8, 2) := by decide +kernel
theorem dX8_thereOf_14 : decode cX8_thereOf 14 = .ok (.if_icmp .ne 20, 3) := by decide +kernel
theorem dX8_thereOf_17 : decode cX8_thereOf 17 = .ok (.aload_n 0, 1) := by decide +kernel
theorem dX8_thereOf_18 : decode cX8_thereOf 18 = .ok (.getfield 25, 3) := by decide +kernel
theorem dX8_thereOf_21 : decode cX8_thereOf 21 = .ok (.iload_n 3, 1) := by decide +kernel
theorem dX8_thereOf_22 : decode cX8_thereOf 22 = .ok (.iaload, 1) := by decide +kernel
theorem dX8_thereOf_23 : decode cX8_thereOf 23 = .ok (.ifCond .ge 7, 3) := by decide +kernel
theorem dX8_thereOf_26 : decode cX8_thereOf 26 = .ok (.iconst 0, 1) := by decide +kernel
theorem dX8_thereOf_27 : decode cX8_thereOf 27 = .ok (.goto 62, 3) := by decide +kernel
theorem dX8_thereOf_30 : decode cX8_thereOf 30 = .ok (.iconst 1, 1) := by decide +kernel
theorem dX8_thereOf_31 : decode cX8_thereOf 31 = .ok (.goto 58, 3) := by decide +kernel
theorem dX8_thereOf_34 : decode cX8_thereOf 34 = .ok (.iload_n 1, 1) := by decide +kernel
theorem dX8_thereOf_35 : decode cX8_thereOf 35 = .ok (.bipush 9, 2) := by decide +kernel
theorem dX8_thereOf_37 : decode cX8_thereOf 37 = .ok (.if_icmp .ne 25, 3) := by decide +kernel
theorem dX8_thereOf_40 : decode cX8_thereOf 40 = .ok (.iload_n 3, 1) := by decide +kernel
theorem dX8_thereOf_41 : decode cX8_thereOf 41 = .ok (.iconst 4, 1) := by decide +kernel
theorem dX8_thereOf_42 : decode cX8_thereOf 42 = .ok (.if_icmp .ge 16, 3) := by decide +kernel
theorem dX8_thereOf_45 : decode cX8_thereOf 45 = .ok (.aload_n 0, 1) := by decide +kernel
theorem dX8_thereOf_46 : decode cX8_thereOf 46 = .ok (.getfield 31, 3) := by decide +kernel
theorem dX8_thereOf_49 : decode cX8_thereOf 49 = .ok (.iload_n 3, 1) := by decide +kernel
theorem dX8_thereOf_50 : decode cX8_thereOf 50 = .ok (.iaload, 1) := by decide +kernel
theorem dX8_thereOf_51 : decode cX8_thereOf 51 = .ok (.ifCond .lt 7, 3) := by decide +kernel
theorem dX8_thereOf_54 : decode cX8_thereOf 54 = .ok (.iconst 1, 1) := by decide +kernel
theorem dX8_thereOf_55 : decode cX8_thereOf 55 = .ok (.goto 34, 3) := by decide +kernel
theorem dX8_thereOf_58 : decode cX8_thereOf 58 = .ok (.iconst 0, 1) := by decide +kernel
theorem dX8_thereOf_59 : decode cX8_thereOf 59 = .ok (.goto 30, 3) := by decide +kernel
theorem dX8_thereOf_62 : decode cX8_thereOf 62 = .ok (.iload_n 3, 1) := by decide +kernel
theorem dX8_thereOf_63 : decode cX8_thereOf 63 = .ok (.iconst 3, 1) := by decide +kernel
theorem dX8_thereOf_64 : decode cX8_thereOf 64 = .ok (.if_icmp .ge 24, 3) := by decide +kernel
theorem dX8_thereOf_67 : decode cX8_thereOf 67 = .ok (.aload_n 0, 1) := by decide +kernel
theorem dX8_thereOf_68 : decode cX8_thereOf 68 = .ok (.getfield 7, 3) := by decide +kernel
theorem dX8_thereOf_71 : decode cX8_thereOf 71 = .ok (.sipush 411, 3) := by decide +kernel
theorem dX8_thereOf_74 : decode cX8_thereOf 74 = .ok (.iconst 1, 1) := by decide +kernel
theorem dX8_thereOf_75 : decode cX8_thereOf 75 = .ok (.iload_n 3, 1) := by decide +kernel
theorem dX8_thereOf_76 : decode cX8_thereOf 76 = .ok (.iadd, 1) := by decide +kernel
theorem dX8_thereOf_77 : decode cX8_thereOf 77 = .ok (.imul, 1) := by decide +kernel
theorem dX8_thereOf_78 : decode cX8_thereOf 78 = .ok (.iconst 0, 1) := by decide +kernel
theorem dX8_thereOf_79 : decode cX8_thereOf 79 = .ok (.iadd, 1) := by decide +kernel
theorem dX8_thereOf_80 : decode cX8_thereOf 80 = .ok (.iaload, 1) := by decide +kernel
theorem dX8_thereOf_81 : decode cX8_thereOf 81 = .ok (.ifCond .lt 7, 3) := by decide +kernel
theorem dX8_thereOf_84 : decode cX8_thereOf 84 = .ok (.iconst 1, 1) := by decide +kernel
theorem dX8_thereOf_85 : decode cX8_thereOf 85 = .ok (.goto 4, 3) := by decide +kernel
theorem dX8_thereOf_88 : decode cX8_thereOf 88 = .ok (.iconst 0, 1) := by decide +kernel
theorem dX8_thereOf_89 : decode cX8_thereOf 89 = .ok (.iadd, 1) := by decide +kernel
theorem dX8_thereOf_90 : decode cX8_thereOf 90 = .ok (.istore_n 2, 1) := by decide +kernel
theorem dX8_thereOf_91 : decode cX8_thereOf 91 = .ok (.iinc 3 1, 3) := by decide +kernel
theorem dX8_thereOf_94 : decode cX8_thereOf 94 = .ok (.goto (-90), 3) := by decide +kernel
theorem dX8_thereOf_97 : decode cX8_thereOf 97 = .ok (.iload_n 2, 1) := by decide +kernel
theorem dX8_thereOf_98 : decode cX8_thereOf 98 = .ok (.ireturn, 1) := by decide +kernel
set_option maxRecDepth 20000 in
theorem ggX8_countOf_X8_hints : GoodIn wsX8_countOf wsX8_hints := goodIn_r _ [8, 1, 9, 10, 11, 7, 12, 13, 20, 21, 22, 23, 24, 25, 26, 27, 28, 29, 30, 31, 32, 33, 34, 35, 36, 37, 38, 39, 40, 41, 42, 43, 44, 45, 46, 47, 48, 49, 50, 51, 52] (by decide +kernel) (by decide +kernel)
set_option maxRecDepth 20000 in
theorem gX8_countOf_X8_hints : GoodIn wsX8_countOf (wsV RX8 308 RX8 yX8_hints wsX8_hints) := goodIn_app (goodIn_of _ (by decide +kernel)) ggX8_countOf_X8_hints
set_option maxRecDepth 20000 in
theorem ggX8_countOf_X8_thereOf : GoodIn wsX8_countOf wsX8_thereOf := goodIn_r _ [17, 18, 19, 3, 20, 21, 22, 23, 24, 25, 26, 27, 28, 29, 30, 31, 32, 33, 34, 35, 36, 37, 38, 39, 40, 41, 42, 43, 44, 45, 46, 47, 48, 49, 50, 51, 52] (by decide +kernel) (by decide +kernel)
set_option maxRecDepth 20000 in
theorem gX8_countOf_X8_thereOf : GoodIn wsX8_countOf (wsV RX8 311 RX8 yX8_thereOf wsX8_thereOf) := goodIn_app (goodIn_of _ (by decide +kernel)) ggX8_countOf_X8_thereOf
theorem dX8_countOf_0 : decode cX8_countOf 0 = .ok (.iload_n 1, 1) := by decide +kernel
theorem dX8_countOf_1 : decode cX8_countOf 1 = .ok (.tableswitch 97 0 7 #[47, 52, 57, 64, 71, 78, 85, 92], 47) := by decide +kernel
theorem dX8_countOf_48 : decode cX8_countOf 48 = .ok (.aload_n 0, 1) := by decide +kernel
theorem dX8_countOf_49 : decode cX8_countOf 49 = .ok (.getfield 167, 3) := by decide +kernel
theorem dX8_countOf_52 : decode cX8_countOf 52 = .ok (.ireturn, 1) := by decide +kernel
theorem dX8_countOf_53 : decode cX8_countOf 53 = .ok (.aload_n 0, 1) := by decide +kernel
theorem dX8_countOf_54 : decode cX8_countOf 54 = .ok (.getfield 164, 3) := by decide +kernel
theorem dX8_countOf_57 : decode cX8_countOf 57 = .ok (.ireturn, 1) := by decide +kernel
theorem dX8_countOf_58 : decode cX8_countOf 58 = .ok (.aload_n 0, 1) := by decide +kernel
theorem dX8_countOf_59 : decode cX8_countOf 59 = .ok (.getfield 7, 3) := by decide +kernel
theorem dX8_countOf_62 : decode cX8_countOf 62 = .ok (.iconst 1, 1) := by decide +kernel
theorem dX8_countOf_63 : decode cX8_countOf 63 = .ok (.iaload, 1) := by decide +kernel
theorem dX8_countOf_64 : decode cX8_countOf 64 = .ok (.ireturn, 1) := by decide +kernel
theorem dX8_countOf_65 : decode cX8_countOf 65 = .ok (.aload_n 0, 1) := by decide +kernel
theorem dX8_countOf_66 : decode cX8_countOf 66 = .ok (.getfield 7, 3) := by decide +kernel
theorem dX8_countOf_69 : decode cX8_countOf 69 = .ok (.iconst 0, 1) := by decide +kernel
theorem dX8_countOf_70 : decode cX8_countOf 70 = .ok (.iaload, 1) := by decide +kernel
theorem dX8_countOf_71 : decode cX8_countOf 71 = .ok (.ireturn, 1) := by decide +kernel
theorem dX8_countOf_72 : decode cX8_countOf 72 = .ok (.aload_n 0, 1) := by decide +kernel
theorem dX8_countOf_73 : decode cX8_countOf 73 = .ok (.getfield 7, 3) := by decide +kernel
theorem dX8_countOf_76 : decode cX8_countOf 76 = .ok (.iconst 2, 1) := by decide +kernel
theorem dX8_countOf_77 : decode cX8_countOf 77 = .ok (.iaload, 1) := by decide +kernel
theorem dX8_countOf_78 : decode cX8_countOf 78 = .ok (.ireturn, 1) := by decide +kernel
theorem dX8_countOf_79 : decode cX8_countOf 79 = .ok (.aload_n 0, 1) := by decide +kernel
theorem dX8_countOf_80 : decode cX8_countOf 80 = .ok (.getfield 7, 3) := by decide +kernel
theorem dX8_countOf_83 : decode cX8_countOf 83 = .ok (.iconst 3, 1) := by decide +kernel
theorem dX8_countOf_84 : decode cX8_countOf 84 = .ok (.iaload, 1) := by decide +kernel
theorem dX8_countOf_85 : decode cX8_countOf 85 = .ok (.ireturn, 1) := by decide +kernel
theorem dX8_countOf_86 : decode cX8_countOf 86 = .ok (.aload_n 0, 1) := by decide +kernel
theorem dX8_countOf_87 : decode cX8_countOf 87 = .ok (.getfield 7, 3) := by decide +kernel
theorem dX8_countOf_90 : decode cX8_countOf 90 = .ok (.iconst 4, 1) := by decide +kernel
theorem dX8_countOf_91 : decode cX8_countOf 91 = .ok (.iaload, 1) := by decide +kernel
theorem dX8_countOf_92 : decode cX8_countOf 92 = .ok (.ireturn, 1) := by decide +kernel
theorem dX8_countOf_93 : decode cX8_countOf 93 = .ok (.aload_n 0, 1) := by decide +kernel
theorem dX8_countOf_94 : decode cX8_countOf 94 = .ok (.invokevirtual 308, 3) := by decide +kernel
theorem dX8_countOf_97 : decode cX8_countOf 97 = .ok (.ireturn, 1) := by decide +kernel
theorem dX8_countOf_98 : decode cX8_countOf 98 = .ok (.aload_n 0, 1) := by decide +kernel
theorem dX8_countOf_99 : decode cX8_countOf 99 = .ok (.iload_n 1, 1) := by decide +kernel
theorem dX8_countOf_100 : decode cX8_countOf 100 = .ok (.invokevirtual 311, 3) := by decide +kernel
theorem dX8_countOf_103 : decode cX8_countOf 103 = .ok (.ireturn, 1) := by decide +kernel
set_option maxRecDepth 20000 in
theorem ggX8_count_X8_in : GoodIn wsX8_count wsX8_in := goodIn_r _ [5] (by decide +kernel) (by decide +kernel)
set_option maxRecDepth 20000 in
theorem gX8_count_X8_in : GoodIn wsX8_count (va_wsS RX8 81 yX8_in wsX8_in) := goodIn_app (goodIn_of _ (by decide +kernel)) ggX8_count_X8_in
set_option maxRecDepth 20000 in
theorem ggX8_count_X8_countOf : GoodIn wsX8_count wsX8_countOf := goodIn_r _ [9, 10, 11, 12, 13, 14, 15, 4, 16, 17, 18, 19, 20, 21, 22, 23, 24, 25, 26, 27, 28, 29, 30, 31, 32, 33, 34, 35, 36, 37, 38, 39, 40, 41, 42, 43, 44, 45, 46, 47, 48, 49, 50, 51, 52, 53, 54, 55, 56, 57, 58, 59, 60] (by decide +kernel) (by decide +kernel)
set_option maxRecDepth 20000 in
theorem gX8_count_X8_countOf : GoodIn wsX8_count (wsV RX8 316 RX8 yX8_countOf wsX8_countOf) := goodIn_app (goodIn_of _ (by decide +kernel)) ggX8_count_X8_countOf
theorem dX8_count_0 : decode cX8_count 0 = .ok (.iload_n 1, 1) := by decide +kernel
theorem dX8_count_1 : decode cX8_count 1 = .ok (.i2l, 1) := by decide +kernel
theorem dX8_count_2 : decode cX8_count 2 = .ok (.lconst 0, 1) := by decide +kernel
theorem dX8_count_3 : decode cX8_count 3 = .ok (.ldc2_w 314, 3) := by decide +kernel
theorem dX8_count_6 : decode cX8_count 6 = .ok (.invokestatic 81, 3) := by decide +kernel
theorem dX8_count_9 : decode cX8_count 9 = .ok (.ifCond .eq 11, 3) := by decide +kernel
theorem dX8_count_12 : decode cX8_count 12 = .ok (.aload_n 0, 1) := by decide +kernel
theorem dX8_count_13 : decode cX8_count 13 = .ok (.iload_n 1, 1) := by decide +kernel
theorem dX8_count_14 : decode cX8_count 14 = .ok (.invokevirtual 316, 3) := by decide +kernel
theorem dX8_count_17 : decode cX8_count 17 = .ok (.goto 4, 3) := by decide +kernel
theorem dX8_count_20 : decode cX8_count 20 = .ok (.iconst (-1), 1) := by decide +kernel
theorem dX8_count_21 : decode cX8_count 21 = .ok (.ireturn, 1) := by decide +kernel
theorem dX8_finding_0 : decode cX8_finding 0 = .ok (.aload_n 0, 1) := by decide +kernel
theorem dX8_finding_1 : decode cX8_finding 1 = .ok (.getfield 72, 3) := by decide +kernel
theorem dX8_finding_4 : decode cX8_finding 4 = .ok (.ireturn, 1) := by decide +kernel
set_option maxRecDepth 20000 in
theorem ggX8_findings_X8_in : GoodIn wsX8_findings wsX8_in := goodIn_r _ [6] (by decide +kernel) (by decide +kernel)
set_option maxRecDepth 20000 in
theorem gX8_findings_X8_in : GoodIn wsX8_findings (va_wsS RX8 81 yX8_in wsX8_in) := goodIn_app (goodIn_of _ (by decide +kernel)) ggX8_findings_X8_in
theorem dX8_findings_0 : decode cX8_findings 0 = .ok (.iload_n 1, 1) := by decide +kernel
theorem dX8_findings_1 : decode cX8_findings 1 = .ok (.i2l, 1) := by decide +kernel
theorem dX8_findings_2 : decode cX8_findings 2 = .ok (.lconst 1, 1) := by decide +kernel
theorem dX8_findings_3 : decode cX8_findings 3 = .ok (.ldc2_w 79, 3) := by decide +kernel
theorem dX8_findings_6 : decode cX8_findings 6 = .ok (.invokestatic 81, 3) := by decide +kernel
theorem dX8_findings_9 : decode cX8_findings 9 = .ok (.ifCond .eq 12, 3) := by decide +kernel
theorem dX8_findings_12 : decode cX8_findings 12 = .ok (.aload_n 0, 1) := by decide +kernel
theorem dX8_findings_13 : decode cX8_findings 13 = .ok (.getfield 41, 3) := by decide +kernel
theorem dX8_findings_16 : decode cX8_findings 16 = .ok (.iload_n 1, 1) := by decide +kernel
theorem dX8_findings_17 : decode cX8_findings 17 = .ok (.iaload, 1) := by decide +kernel
theorem dX8_findings_18 : decode cX8_findings 18 = .ok (.goto 4, 3) := by decide +kernel
theorem dX8_findings_21 : decode cX8_findings 21 = .ok (.iconst (-1), 1) := by decide +kernel
theorem dX8_findings_22 : decode cX8_findings 22 = .ok (.ireturn, 1) := by decide +kernel
set_option maxRecDepth 20000 in
theorem ggX8_digest_X8_countOf : GoodIn wsX8_digest wsX8_countOf := goodIn_r _ [16, 5, 3, 7, 17, 18, 19, 15, 20, 21, 22, 23, 24, 25, 26, 27, 28, 29, 8, 10, 49, 50, 51, 52, 53, 54, 55, 56, 57, 58, 59, 60, 61, 62, 63, 64, 65, 66, 67, 68, 69, 70, 71, 72, 73, 74, 75, 76, 77, 78, 79, 80, 81] (by decide +kernel) (by decide +kernel)
set_option maxRecDepth 20000 in
theorem gX8_digest_X8_countOf : GoodIn wsX8_digest (wsV RX8 316 RX8 yX8_countOf wsX8_countOf) := goodIn_app (goodIn_of _ (by decide +kernel)) ggX8_digest_X8_countOf
set_option maxRecDepth 20000 in
theorem ggX8_digest_X8_toldOf : GoodIn wsX8_digest wsX8_toldOf := goodIn_r _ [33, 25, 34, 35, 7, 36, 37, 38, 15, 39, 40, 41, 42, 43, 44, 45, 46, 47, 48, 49, 50, 51, 52, 53, 54, 55, 56, 57, 58, 59, 60, 61, 62, 63, 64, 65, 66, 67, 68, 69, 70, 71, 72, 73, 74, 75, 76, 77, 78, 79, 80, 81] (by decide +kernel) (by decide +kernel)
set_option maxRecDepth 20000 in
theorem gX8_digest_X8_toldOf : GoodIn wsX8_digest (wsV RX8 191 RX8 yX8_toldOf wsX8_toldOf) := goodIn_app (goodIn_of _ (by decide +kernel)) ggX8_digest_X8_toldOf
theorem dX8_digest_0 : decode cX8_digest 0 = .ok (.ldc2_w 319, 3) := by decide +kernel
theorem dX8_digest_3 : decode cX8_digest 3 = .ok (.lstore_n 1, 1) := by decide +kernel
theorem dX8_digest_4 : decode cX8_digest 4 = .ok (.iconst 0, 1) := by decide +kernel
theorem dX8_digest_5 : decode cX8_digest 5 = .ok (.istore_n 3, 1) := by decide +kernel
theorem dX8_digest_6 : decode cX8_digest 6 = .ok (.iload_n 3, 1) := by decide +kernel
theorem dX8_digest_7 : decode cX8_digest 7 = .ok (.bipush 11, 2) := by decide +kernel
theorem dX8_digest_9 : decode cX8_digest 9 = .ok (.if_icmp .ge 22, 3) := by decide +kernel
theorem dX8_digest_12 : decode cX8_digest 12 = .ok (.ldc2_w 321, 3) := by decide +kernel
theorem dX8_digest_15 : decode cX8_digest 15 = .ok (.lload_n 1, 1) := by decide +kernel
theorem dX8_digest_16 : decode cX8_digest 16 = .ok (.lmul, 1) := by decide +kernel
theorem dX8_digest_17 : decode cX8_digest 17 = .ok (.aload_n 0, 1) := by decide +kernel
theorem dX8_digest_18 : decode cX8_digest 18 = .ok (.iload_n 3, 1) := by decide +kernel
theorem dX8_digest_19 : decode cX8_digest 19 = .ok (.invokevirtual 316, 3) := by decide +kernel
theorem dX8_digest_22 : decode cX8_digest 22 = .ok (.i2l, 1) := by decide +kernel
theorem dX8_digest_23 : decode cX8_digest 23 = .ok (.ladd, 1) := by decide +kernel
theorem dX8_digest_24 : decode cX8_digest 24 = .ok (.lstore_n 1, 1) := by decide +kernel
theorem dX8_digest_25 : decode cX8_digest 25 = .ok (.iinc 3 1, 3) := by decide +kernel
theorem dX8_digest_28 : decode cX8_digest 28 = .ok (.goto (-22), 3) := by decide +kernel
theorem dX8_digest_31 : decode cX8_digest 31 = .ok (.iconst 0, 1) := by decide +kernel
theorem dX8_digest_32 : decode cX8_digest 32 = .ok (.istore_n 3, 1) := by decide +kernel
theorem dX8_digest_33 : decode cX8_digest 33 = .ok (.iload_n 3, 1) := by decide +kernel
theorem dX8_digest_34 : decode cX8_digest 34 = .ok (.aload_n 0, 1) := by decide +kernel
theorem dX8_digest_35 : decode cX8_digest 35 = .ok (.getfield 164, 3) := by decide +kernel
theorem dX8_digest_38 : decode cX8_digest 38 = .ok (.if_icmp .ge 23, 3) := by decide +kernel
theorem dX8_digest_41 : decode cX8_digest 41 = .ok (.ldc2_w 321, 3) := by decide +kernel
theorem dX8_digest_44 : decode cX8_digest 44 = .ok (.lload_n 1, 1) := by decide +kernel
theorem dX8_digest_45 : decode cX8_digest 45 = .ok (.lmul, 1) := by decide +kernel
theorem dX8_digest_46 : decode cX8_digest 46 = .ok (.aload_n 0, 1) := by decide +kernel
theorem dX8_digest_47 : decode cX8_digest 47 = .ok (.getfield 13, 3) := by decide +kernel
theorem dX8_digest_50 : decode cX8_digest 50 = .ok (.iload_n 3, 1) := by decide +kernel
theorem dX8_digest_51 : decode cX8_digest 51 = .ok (.iaload, 1) := by decide +kernel
theorem dX8_digest_52 : decode cX8_digest 52 = .ok (.i2l, 1) := by decide +kernel
theorem dX8_digest_53 : decode cX8_digest 53 = .ok (.ladd, 1) := by decide +kernel
theorem dX8_digest_54 : decode cX8_digest 54 = .ok (.lstore_n 1, 1) := by decide +kernel
theorem dX8_digest_55 : decode cX8_digest 55 = .ok (.iinc 3 1, 3) := by decide +kernel
theorem dX8_digest_58 : decode cX8_digest 58 = .ok (.goto (-25), 3) := by decide +kernel
theorem dX8_digest_61 : decode cX8_digest 61 = .ok (.iconst 0, 1) := by decide +kernel
theorem dX8_digest_62 : decode cX8_digest 62 = .ok (.istore_n 3, 1) := by decide +kernel
theorem dX8_digest_63 : decode cX8_digest 63 = .ok (.iload_n 3, 1) := by decide +kernel
theorem dX8_digest_64 : decode cX8_digest 64 = .ok (.iconst 5, 1) := by decide +kernel
theorem dX8_digest_65 : decode cX8_digest 65 = .ok (.aload_n 0, 1) := by decide +kernel
theorem dX8_digest_66 : decode cX8_digest 66 = .ok (.getfield 167, 3) := by decide +kernel
theorem dX8_digest_69 : decode cX8_digest 69 = .ok (.imul, 1) := by decide +kernel
theorem dX8_digest_70 : decode cX8_digest 70 = .ok (.if_icmp .ge 27, 3) := by decide +kernel
theorem dX8_digest_73 : decode cX8_digest 73 = .ok (.ldc2_w 321, 3) := by decide +kernel
theorem dX8_digest_76 : decode cX8_digest 76 = .ok (.lload_n 1, 1) := by decide +kernel
theorem dX8_digest_77 : decode cX8_digest 77 = .ok (.lmul, 1) := by decide +kernel
theorem dX8_digest_78 : decode cX8_digest 78 = .ok (.aload_n 0, 1) := by decide +kernel
theorem dX8_digest_79 : decode cX8_digest 79 = .ok (.iload_n 3, 1) := by decide +kernel
theorem dX8_digest_80 : decode cX8_digest 80 = .ok (.iconst 5, 1) := by decide +kernel
theorem dX8_digest_81 : decode cX8_digest 81 = .ok (.idiv, 1) := by decide +kernel
theorem dX8_digest_82 : decode cX8_digest 82 = .ok (.iload_n 3, 1) := by decide +kernel
theorem dX8_digest_83 : decode cX8_digest 83 = .ok (.iconst 5, 1) := by decide +kernel
theorem dX8_digest_84 : decode cX8_digest 84 = .ok (.irem, 1) := by decide +kernel
theorem dX8_digest_85 : decode cX8_digest 85 = .ok (.invokevirtual 191, 3) := by decide +kernel
theorem dX8_digest_88 : decode cX8_digest 88 = .ok (.i2l, 1) := by decide +kernel
theorem dX8_digest_89 : decode cX8_digest 89 = .ok (.ladd, 1) := by decide +kernel
theorem dX8_digest_90 : decode cX8_digest 90 = .ok (.lstore_n 1, 1) := by decide +kernel
theorem dX8_digest_91 : decode cX8_digest 91 = .ok (.iinc 3 1, 3) := by decide +kernel
theorem dX8_digest_94 : decode cX8_digest 94 = .ok (.goto (-31), 3) := by decide +kernel
theorem dX8_digest_97 : decode cX8_digest 97 = .ok (.ldc2_w 321, 3) := by decide +kernel
theorem dX8_digest_100 : decode cX8_digest 100 = .ok (.lload_n 1, 1) := by decide +kernel
theorem dX8_digest_101 : decode cX8_digest 101 = .ok (.lmul, 1) := by decide +kernel
theorem dX8_digest_102 : decode cX8_digest 102 = .ok (.aload_n 0, 1) := by decide +kernel
theorem dX8_digest_103 : decode cX8_digest 103 = .ok (.getfield 170, 3) := by decide +kernel
theorem dX8_digest_106 : decode cX8_digest 106 = .ok (.i2l, 1) := by decide +kernel
theorem dX8_digest_107 : decode cX8_digest 107 = .ok (.ladd, 1) := by decide +kernel
theorem dX8_digest_108 : decode cX8_digest 108 = .ok (.lstore_n 1, 1) := by decide +kernel
theorem dX8_digest_109 : decode cX8_digest 109 = .ok (.iconst 1, 1) := by decide +kernel
theorem dX8_digest_110 : decode cX8_digest 110 = .ok (.istore_n 3, 1) := by decide +kernel
theorem dX8_digest_111 : decode cX8_digest 111 = .ok (.iload_n 3, 1) := by decide +kernel
theorem dX8_digest_112 : decode cX8_digest 112 = .ok (.iconst 4, 1) := by decide +kernel
theorem dX8_digest_113 : decode cX8_digest 113 = .ok (.if_icmp .ge 29, 3) := by decide +kernel
theorem dX8_digest_116 : decode cX8_digest 116 = .ok (.ldc2_w 321, 3) := by decide +kernel
theorem dX8_digest_119 : decode cX8_digest 119 = .ok (.lload_n 1, 1) := by decide +kernel
theorem dX8_digest_120 : decode cX8_digest 120 = .ok (.lmul, 1) := by decide +kernel
theorem dX8_digest_121 : decode cX8_digest 121 = .ok (.aload_n 0, 1) := by decide +kernel
theorem dX8_digest_122 : decode cX8_digest 122 = .ok (.getfield 7, 3) := by decide +kernel
theorem dX8_digest_125 : decode cX8_digest 125 = .ok (.sipush 411, 3) := by decide +kernel
theorem dX8_digest_128 : decode cX8_digest 128 = .ok (.iload_n 3, 1) := by decide +kernel
theorem dX8_digest_129 : decode cX8_digest 129 = .ok (.imul, 1) := by decide +kernel
theorem dX8_digest_130 : decode cX8_digest 130 = .ok (.iconst 0, 1) := by decide +kernel
theorem dX8_digest_131 : decode cX8_digest 131 = .ok (.iadd, 1) := by decide +kernel
theorem dX8_digest_132 : decode cX8_digest 132 = .ok (.iaload, 1) := by decide +kernel
theorem dX8_digest_133 : decode cX8_digest 133 = .ok (.i2l, 1) := by decide +kernel
theorem dX8_digest_134 : decode cX8_digest 134 = .ok (.ladd, 1) := by decide +kernel
theorem dX8_digest_135 : decode cX8_digest 135 = .ok (.lstore_n 1, 1) := by decide +kernel
theorem dX8_digest_136 : decode cX8_digest 136 = .ok (.iinc 3 1, 3) := by decide +kernel
theorem dX8_digest_139 : decode cX8_digest 139 = .ok (.goto (-28), 3) := by decide +kernel
theorem dX8_digest_142 : decode cX8_digest 142 = .ok (.iconst 0, 1) := by decide +kernel
theorem dX8_digest_143 : decode cX8_digest 143 = .ok (.istore_n 3, 1) := by decide +kernel
theorem dX8_digest_144 : decode cX8_digest 144 = .ok (.iload_n 3, 1) := by decide +kernel
theorem dX8_digest_145 : decode cX8_digest 145 = .ok (.bipush 6, 2) := by decide +kernel
theorem dX8_digest_147 : decode cX8_digest 147 = .ok (.if_icmp .ge 63, 3) := by decide +kernel
theorem dX8_digest_150 : decode cX8_digest 150 = .ok (.ldc2_w 321, 3) := by decide +kernel
theorem dX8_digest_153 : decode cX8_digest 153 = .ok (.lload_n 1, 1) := by decide +kernel
theorem dX8_digest_154 : decode cX8_digest 154 = .ok (.lmul, 1) := by decide +kernel
theorem dX8_digest_155 : decode cX8_digest 155 = .ok (.aload_n 0, 1) := by decide +kernel
theorem dX8_digest_156 : decode cX8_digest 156 = .ok (.getfield 25, 3) := by decide +kernel
theorem dX8_digest_159 : decode cX8_digest 159 = .ok (.iload_n 3, 1) := by decide +kernel
theorem dX8_digest_160 : decode cX8_digest 160 = .ok (.iaload, 1) := by decide +kernel
theorem dX8_digest_161 : decode cX8_digest 161 = .ok (.i2l, 1) := by decide +kernel
theorem dX8_digest_162 : decode cX8_digest 162 = .ok (.ladd, 1) := by decide +kernel
theorem dX8_digest_163 : decode cX8_digest 163 = .ok (.lstore_n 1, 1) := by decide +kernel
theorem dX8_digest_164 : decode cX8_digest 164 = .ok (.iconst 0, 1) := by decide +kernel
theorem dX8_digest_165 : decode cX8_digest 165 = .ok (.istore 4, 2) := by decide +kernel
theorem dX8_digest_167 : decode cX8_digest 167 = .ok (.iload 4, 2) := by decide +kernel
theorem dX8_digest_169 : decode cX8_digest 169 = .ok (.aload_n 0, 1) := by decide +kernel
theorem dX8_digest_170 : decode cX8_digest 170 = .ok (.getfield 25, 3) := by decide +kernel
theorem dX8_digest_173 : decode cX8_digest 173 = .ok (.iload_n 3, 1) := by decide +kernel
theorem dX8_digest_174 : decode cX8_digest 174 = .ok (.iaload, 1) := by decide +kernel
theorem dX8_digest_175 : decode cX8_digest 175 = .ok (.if_icmp .ge 29, 3) := by decide +kernel
theorem dX8_digest_178 : decode cX8_digest 178 = .ok (.ldc2_w 321, 3) := by decide +kernel
theorem dX8_digest_181 : decode cX8_digest 181 = .ok (.lload_n 1, 1) := by decide +kernel
theorem dX8_digest_182 : decode cX8_digest 182 = .ok (.lmul, 1) := by decide +kernel
theorem dX8_digest_183 : decode cX8_digest 183 = .ok (.aload_n 0, 1) := by decide +kernel
theorem dX8_digest_184 : decode cX8_digest 184 = .ok (.getfield 28, 3) := by decide +kernel
theorem dX8_digest_187 : decode cX8_digest 187 = .ok (.bipush 40, 2) := by decide +kernel
theorem dX8_digest_189 : decode cX8_digest 189 = .ok (.iload_n 3, 1) := by decide +kernel
theorem dX8_digest_190 : decode cX8_digest 190 = .ok (.imul, 1) := by decide +kernel
theorem dX8_digest_191 : decode cX8_digest 191 = .ok (.iload 4, 2) := by decide +kernel
theorem dX8_digest_193 : decode cX8_digest 193 = .ok (.iadd, 1) := by decide +kernel
theorem dX8_digest_194 : decode cX8_digest 194 = .ok (.iaload, 1) := by decide +kernel
theorem dX8_digest_195 : decode cX8_digest 195 = .ok (.i2l, 1) := by decide +kernel
theorem dX8_digest_196 : decode cX8_digest 196 = .ok (.ladd, 1) := by decide +kernel
theorem dX8_digest_197 : decode cX8_digest 197 = .ok (.lstore_n 1, 1) := by decide +kernel
theorem dX8_digest_198 : decode cX8_digest 198 = .ok (.iinc 4 1, 3) := by decide +kernel
theorem dX8_digest_201 : decode cX8_digest 201 = .ok (.goto (-34), 3) := by decide +kernel
theorem dX8_digest_204 : decode cX8_digest 204 = .ok (.iinc 3 1, 3) := by decide +kernel
theorem dX8_digest_207 : decode cX8_digest 207 = .ok (.goto (-63), 3) := by decide +kernel
theorem dX8_digest_210 : decode cX8_digest 210 = .ok (.iconst 0, 1) := by decide +kernel
theorem dX8_digest_211 : decode cX8_digest 211 = .ok (.istore_n 3, 1) := by decide +kernel
theorem dX8_digest_212 : decode cX8_digest 212 = .ok (.iload_n 3, 1) := by decide +kernel
theorem dX8_digest_213 : decode cX8_digest 213 = .ok (.iconst 4, 1) := by decide +kernel
theorem dX8_digest_214 : decode cX8_digest 214 = .ok (.if_icmp .ge 63, 3) := by decide +kernel
theorem dX8_digest_217 : decode cX8_digest 217 = .ok (.ldc2_w 321, 3) := by decide +kernel
theorem dX8_digest_220 : decode cX8_digest 220 = .ok (.lload_n 1, 1) := by decide +kernel
theorem dX8_digest_221 : decode cX8_digest 221 = .ok (.lmul, 1) := by decide +kernel
theorem dX8_digest_222 : decode cX8_digest 222 = .ok (.aload_n 0, 1) := by decide +kernel
theorem dX8_digest_223 : decode cX8_digest 223 = .ok (.getfield 31, 3) := by decide +kernel
theorem dX8_digest_226 : decode cX8_digest 226 = .ok (.iload_n 3, 1) := by decide +kernel
theorem dX8_digest_227 : decode cX8_digest 227 = .ok (.iaload, 1) := by decide +kernel
theorem dX8_digest_228 : decode cX8_digest 228 = .ok (.i2l, 1) := by decide +kernel
theorem dX8_digest_229 : decode cX8_digest 229 = .ok (.ladd, 1) := by decide +kernel
theorem dX8_digest_230 : decode cX8_digest 230 = .ok (.lstore_n 1, 1) := by decide +kernel
theorem dX8_digest_231 : decode cX8_digest 231 = .ok (.iconst 0, 1) := by decide +kernel
theorem dX8_digest_232 : decode cX8_digest 232 = .ok (.istore 4, 2) := by decide +kernel
theorem dX8_digest_234 : decode cX8_digest 234 = .ok (.iload 4, 2) := by decide +kernel
theorem dX8_digest_236 : decode cX8_digest 236 = .ok (.aload_n 0, 1) := by decide +kernel
theorem dX8_digest_237 : decode cX8_digest 237 = .ok (.getfield 31, 3) := by decide +kernel
theorem dX8_digest_240 : decode cX8_digest 240 = .ok (.iload_n 3, 1) := by decide +kernel
theorem dX8_digest_241 : decode cX8_digest 241 = .ok (.iaload, 1) := by decide +kernel
theorem dX8_digest_242 : decode cX8_digest 242 = .ok (.if_icmp .ge 29, 3) := by decide +kernel
theorem dX8_digest_245 : decode cX8_digest 245 = .ok (.ldc2_w 321, 3) := by decide +kernel
theorem dX8_digest_248 : decode cX8_digest 248 = .ok (.lload_n 1, 1) := by decide +kernel
theorem dX8_digest_249 : decode cX8_digest 249 = .ok (.lmul, 1) := by decide +kernel
theorem dX8_digest_250 : decode cX8_digest 250 = .ok (.aload_n 0, 1) := by decide +kernel
theorem dX8_digest_251 : decode cX8_digest 251 = .ok (.getfield 34, 3) := by decide +kernel
theorem dX8_digest_254 : decode cX8_digest 254 = .ok (.bipush 60, 2) := by decide +kernel
theorem dX8_digest_256 : decode cX8_digest 256 = .ok (.iload_n 3, 1) := by decide +kernel
theorem dX8_digest_257 : decode cX8_digest 257 = .ok (.imul, 1) := by decide +kernel
theorem dX8_digest_258 : decode cX8_digest 258 = .ok (.iload 4, 2) := by decide +kernel
theorem dX8_digest_260 : decode cX8_digest 260 = .ok (.iadd, 1) := by decide +kernel
theorem dX8_digest_261 : decode cX8_digest 261 = .ok (.iaload, 1) := by decide +kernel
theorem dX8_digest_262 : decode cX8_digest 262 = .ok (.i2l, 1) := by decide +kernel
theorem dX8_digest_263 : decode cX8_digest 263 = .ok (.ladd, 1) := by decide +kernel
theorem dX8_digest_264 : decode cX8_digest 264 = .ok (.lstore_n 1, 1) := by decide +kernel
theorem dX8_digest_265 : decode cX8_digest 265 = .ok (.iinc 4 1, 3) := by decide +kernel
theorem dX8_digest_268 : decode cX8_digest 268 = .ok (.goto (-34), 3) := by decide +kernel
theorem dX8_digest_271 : decode cX8_digest 271 = .ok (.iinc 3 1, 3) := by decide +kernel
theorem dX8_digest_274 : decode cX8_digest 274 = .ok (.goto (-62), 3) := by decide +kernel
theorem dX8_digest_277 : decode cX8_digest 277 = .ok (.lload_n 1, 1) := by decide +kernel
theorem dX8_digest_278 : decode cX8_digest 278 = .ok (.lreturn, 1) := by decide +kernel
theorem dJ6_bitCount_0f7a4_0 : decode cJ6_bitCount_0f7a4 0 = .ok (.iload_n 0, 1) := by decide +kernel
theorem dJ6_bitCount_0f7a4_1 : decode cJ6_bitCount_0f7a4 1 = .ok (.iload_n 0, 1) := by decide +kernel
theorem dJ6_bitCount_0f7a4_2 : decode cJ6_bitCount_0f7a4 2 = .ok (.iconst 1, 1) := by decide +kernel
theorem dJ6_bitCount_0f7a4_3 : decode cJ6_bitCount_0f7a4 3 = .ok (.iushr, 1) := by decide +kernel
theorem dJ6_bitCount_0f7a4_4 : decode cJ6_bitCount_0f7a4 4 = .ok (.ldc_w 265, 3) := by decide +kernel
theorem dJ6_bitCount_0f7a4_7 : decode cJ6_bitCount_0f7a4 7 = .ok (.iand, 1) := by decide +kernel
theorem dJ6_bitCount_0f7a4_8 : decode cJ6_bitCount_0f7a4 8 = .ok (.isub, 1) := by decide +kernel
theorem dJ6_bitCount_0f7a4_9 : decode cJ6_bitCount_0f7a4 9 = .ok (.istore_n 0, 1) := by decide +kernel
theorem dJ6_bitCount_0f7a4_10 : decode cJ6_bitCount_0f7a4 10 = .ok (.iload_n 0, 1) := by decide +kernel
theorem dJ6_bitCount_0f7a4_11 : decode cJ6_bitCount_0f7a4 11 = .ok (.ldc_w 266, 3) := by decide +kernel
theorem dJ6_bitCount_0f7a4_14 : decode cJ6_bitCount_0f7a4 14 = .ok (.iand, 1) := by decide +kernel
theorem dJ6_bitCount_0f7a4_15 : decode cJ6_bitCount_0f7a4 15 = .ok (.iload_n 0, 1) := by decide +kernel
theorem dJ6_bitCount_0f7a4_16 : decode cJ6_bitCount_0f7a4 16 = .ok (.iconst 2, 1) := by decide +kernel
theorem dJ6_bitCount_0f7a4_17 : decode cJ6_bitCount_0f7a4 17 = .ok (.iushr, 1) := by decide +kernel
theorem dJ6_bitCount_0f7a4_18 : decode cJ6_bitCount_0f7a4 18 = .ok (.ldc_w 266, 3) := by decide +kernel
theorem dJ6_bitCount_0f7a4_21 : decode cJ6_bitCount_0f7a4 21 = .ok (.iand, 1) := by decide +kernel
theorem dJ6_bitCount_0f7a4_22 : decode cJ6_bitCount_0f7a4 22 = .ok (.iadd, 1) := by decide +kernel
theorem dJ6_bitCount_0f7a4_23 : decode cJ6_bitCount_0f7a4 23 = .ok (.istore_n 0, 1) := by decide +kernel
theorem dJ6_bitCount_0f7a4_24 : decode cJ6_bitCount_0f7a4 24 = .ok (.iload_n 0, 1) := by decide +kernel
theorem dJ6_bitCount_0f7a4_25 : decode cJ6_bitCount_0f7a4 25 = .ok (.iload_n 0, 1) := by decide +kernel
theorem dJ6_bitCount_0f7a4_26 : decode cJ6_bitCount_0f7a4 26 = .ok (.iconst 4, 1) := by decide +kernel
theorem dJ6_bitCount_0f7a4_27 : decode cJ6_bitCount_0f7a4 27 = .ok (.iushr, 1) := by decide +kernel
theorem dJ6_bitCount_0f7a4_28 : decode cJ6_bitCount_0f7a4 28 = .ok (.iadd, 1) := by decide +kernel
theorem dJ6_bitCount_0f7a4_29 : decode cJ6_bitCount_0f7a4 29 = .ok (.ldc_w 267, 3) := by decide +kernel
theorem dJ6_bitCount_0f7a4_32 : decode cJ6_bitCount_0f7a4 32 = .ok (.iand, 1) := by decide +kernel
theorem dJ6_bitCount_0f7a4_33 : decode cJ6_bitCount_0f7a4 33 = .ok (.istore_n 0, 1) := by decide +kernel
theorem dJ6_bitCount_0f7a4_34 : decode cJ6_bitCount_0f7a4 34 = .ok (.iload_n 0, 1) := by decide +kernel
theorem dJ6_bitCount_0f7a4_35 : decode cJ6_bitCount_0f7a4 35 = .ok (.iload_n 0, 1) := by decide +kernel
theorem dJ6_bitCount_0f7a4_36 : decode cJ6_bitCount_0f7a4 36 = .ok (.bipush 8, 2) := by decide +kernel
theorem dJ6_bitCount_0f7a4_38 : decode cJ6_bitCount_0f7a4 38 = .ok (.iushr, 1) := by decide +kernel
theorem dJ6_bitCount_0f7a4_39 : decode cJ6_bitCount_0f7a4 39 = .ok (.iadd, 1) := by decide +kernel
theorem dJ6_bitCount_0f7a4_40 : decode cJ6_bitCount_0f7a4 40 = .ok (.istore_n 0, 1) := by decide +kernel
theorem dJ6_bitCount_0f7a4_41 : decode cJ6_bitCount_0f7a4 41 = .ok (.iload_n 0, 1) := by decide +kernel
theorem dJ6_bitCount_0f7a4_42 : decode cJ6_bitCount_0f7a4 42 = .ok (.iload_n 0, 1) := by decide +kernel
theorem dJ6_bitCount_0f7a4_43 : decode cJ6_bitCount_0f7a4 43 = .ok (.bipush 16, 2) := by decide +kernel
theorem dJ6_bitCount_0f7a4_45 : decode cJ6_bitCount_0f7a4 45 = .ok (.iushr, 1) := by decide +kernel
theorem dJ6_bitCount_0f7a4_46 : decode cJ6_bitCount_0f7a4 46 = .ok (.iadd, 1) := by decide +kernel
theorem dJ6_bitCount_0f7a4_47 : decode cJ6_bitCount_0f7a4 47 = .ok (.istore_n 0, 1) := by decide +kernel
theorem dJ6_bitCount_0f7a4_48 : decode cJ6_bitCount_0f7a4 48 = .ok (.iload_n 0, 1) := by decide +kernel
theorem dJ6_bitCount_0f7a4_49 : decode cJ6_bitCount_0f7a4 49 = .ok (.bipush 63, 2) := by decide +kernel
theorem dJ6_bitCount_0f7a4_51 : decode cJ6_bitCount_0f7a4 51 = .ok (.iand, 1) := by decide +kernel
theorem dJ6_bitCount_0f7a4_52 : decode cJ6_bitCount_0f7a4 52 = .ok (.ireturn, 1) := by decide +kernel
theorem dJ9_max_7cf53_0 : decode cJ9_max_7cf53 0 = .ok (.iload_n 0, 1) := by decide +kernel
theorem dJ9_max_7cf53_1 : decode cJ9_max_7cf53 1 = .ok (.iload_n 1, 1) := by decide +kernel
theorem dJ9_max_7cf53_2 : decode cJ9_max_7cf53 2 = .ok (.if_icmp .lt 7, 3) := by decide +kernel
theorem dJ9_max_7cf53_5 : decode cJ9_max_7cf53 5 = .ok (.iload_n 0, 1) := by decide +kernel
theorem dJ9_max_7cf53_6 : decode cJ9_max_7cf53 6 = .ok (.goto 4, 3) := by decide +kernel
theorem dJ9_max_7cf53_9 : decode cJ9_max_7cf53 9 = .ok (.iload_n 1, 1) := by decide +kernel
theorem dJ9_max_7cf53_10 : decode cJ9_max_7cf53 10 = .ok (.ireturn, 1) := by decide +kernel
theorem dJ9_min_7cf53_0 : decode cJ9_min_7cf53 0 = .ok (.iload_n 0, 1) := by decide +kernel
theorem dJ9_min_7cf53_1 : decode cJ9_min_7cf53 1 = .ok (.iload_n 1, 1) := by decide +kernel
theorem dJ9_min_7cf53_2 : decode cJ9_min_7cf53 2 = .ok (.if_icmp .gt 7, 3) := by decide +kernel
theorem dJ9_min_7cf53_5 : decode cJ9_min_7cf53 5 = .ok (.iload_n 0, 1) := by decide +kernel
theorem dJ9_min_7cf53_6 : decode cJ9_min_7cf53 6 = .ok (.goto 4, 3) := by decide +kernel
theorem dJ9_min_7cf53_9 : decode cJ9_min_7cf53 9 = .ok (.iload_n 1, 1) := by decide +kernel
theorem dJ9_min_7cf53_10 : decode cJ9_min_7cf53 10 = .ok (.ireturn, 1) := by decide +kernel
theorem dJ7_fill_d0a16_0 : decode cJ7_fill_d0a16 0 = .ok (.iconst 0, 1) := by decide +kernel
theorem dJ7_fill_d0a16_1 : decode cJ7_fill_d0a16 1 = .ok (.istore_n 3, 1) := by decide +kernel
theorem dJ7_fill_d0a16_2 : decode cJ7_fill_d0a16 2 = .ok (.aload_n 0, 1) := by decide +kernel
theorem dJ7_fill_d0a16_3 : decode cJ7_fill_d0a16 3 = .ok (.arraylength, 1) := by decide +kernel
theorem dJ7_fill_d0a16_4 : decode cJ7_fill_d0a16 4 = .ok (.istore 4, 2) := by decide +kernel
theorem dJ7_fill_d0a16_6 : decode cJ7_fill_d0a16 6 = .ok (.iload_n 3, 1) := by decide +kernel
theorem dJ7_fill_d0a16_7 : decode cJ7_fill_d0a16 7 = .ok (.iload 4, 2) := by decide +kernel
theorem dJ7_fill_d0a16_9 : decode cJ7_fill_d0a16 9 = .ok (.if_icmp .ge 13, 3) := by decide +kernel
theorem dJ7_fill_d0a16_12 : decode cJ7_fill_d0a16 12 = .ok (.aload_n 0, 1) := by decide +kernel
theorem dJ7_fill_d0a16_13 : decode cJ7_fill_d0a16 13 = .ok (.iload_n 3, 1) := by decide +kernel
theorem dJ7_fill_d0a16_14 : decode cJ7_fill_d0a16 14 = .ok (.lload_n 1, 1) := by decide +kernel
theorem dJ7_fill_d0a16_15 : decode cJ7_fill_d0a16 15 = .ok (.lastore, 1) := by decide +kernel
theorem dJ7_fill_d0a16_16 : decode cJ7_fill_d0a16 16 = .ok (.iinc 3 1, 3) := by decide +kernel
theorem dJ7_fill_d0a16_19 : decode cJ7_fill_d0a16 19 = .ok (.goto (-13), 3) := by decide +kernel
theorem dJ7_fill_d0a16_22 : decode cJ7_fill_d0a16 22 = .ok (.return_, 1) := by decide +kernel
theorem dJ7_fill_53178_0 : decode cJ7_fill_53178 0 = .ok (.iconst 0, 1) := by decide +kernel
theorem dJ7_fill_53178_1 : decode cJ7_fill_53178 1 = .ok (.istore_n 2, 1) := by decide +kernel
theorem dJ7_fill_53178_2 : decode cJ7_fill_53178 2 = .ok (.aload_n 0, 1) := by decide +kernel
theorem dJ7_fill_53178_3 : decode cJ7_fill_53178 3 = .ok (.arraylength, 1) := by decide +kernel
theorem dJ7_fill_53178_4 : decode cJ7_fill_53178 4 = .ok (.istore_n 3, 1) := by decide +kernel
theorem dJ7_fill_53178_5 : decode cJ7_fill_53178 5 = .ok (.iload_n 2, 1) := by decide +kernel
theorem dJ7_fill_53178_6 : decode cJ7_fill_53178 6 = .ok (.iload_n 3, 1) := by decide +kernel
theorem dJ7_fill_53178_7 : decode cJ7_fill_53178 7 = .ok (.if_icmp .ge 13, 3) := by decide +kernel
theorem dJ7_fill_53178_10 : decode cJ7_fill_53178 10 = .ok (.aload_n 0, 1) := by decide +kernel
theorem dJ7_fill_53178_11 : decode cJ7_fill_53178 11 = .ok (.iload_n 2, 1) := by decide +kernel
theorem dJ7_fill_53178_12 : decode cJ7_fill_53178 12 = .ok (.iload_n 1, 1) := by decide +kernel
theorem dJ7_fill_53178_13 : decode cJ7_fill_53178 13 = .ok (.iastore, 1) := by decide +kernel
theorem dJ7_fill_53178_14 : decode cJ7_fill_53178 14 = .ok (.iinc 2 1, 3) := by decide +kernel
theorem dJ7_fill_53178_17 : decode cJ7_fill_53178 17 = .ok (.goto (-12), 3) := by decide +kernel
theorem dJ7_fill_53178_20 : decode cJ7_fill_53178 20 = .ok (.return_, 1) := by decide +kernel
