theorem dX8_layTried_15 : decode cX8_layTried 15 = .ok (.iload_n 1, 1) := by decide +kernel
theorem dX8_layTried_16 : decode cX8_layTried 16 = .ok (.iadd, 1) := by decide +kernel
theorem dX8_layTried_17 : decode cX8_layTried 17 = .ok (.aload_n 0, 1) := by decide +kernel
theorem dX8_layTried_18 : decode cX8_layTried 18 = .ok (.getfield 7, 3) := by decide +kernel
theorem dX8_layTried_21 : decode cX8_layTried 21 = .ok (.iload_n 1, 1) := by decide +kernel
theorem dX8_layTried_22 : decode cX8_layTried 22 = .ok (.iaload, 1) := by decide +kernel
theorem dX8_layTried_23 : decode cX8_layTried 23 = .ok (.iastore, 1) := by decide +kernel
theorem dX8_layTried_24 : decode cX8_layTried 24 = .ok (.iinc 1 1, 3) := by decide +kernel
theorem dX8_layTried_27 : decode cX8_layTried 27 = .ok (.goto (-25), 3) := by decide +kernel
theorem dX8_layTried_30 : decode cX8_layTried 30 = .ok (.return_, 1) := by decide +kernel
set_option maxRecDepth 20000 in
theorem ggX8_talk_X8_isRow : GoodIn wsX8_talk wsX8_isRow := goodIn_r _ [9, 10, 11, 12, 8, 13] (by decide +kernel) (by decide +kernel)
set_option maxRecDepth 20000 in
theorem gX8_talk_X8_isRow : GoodIn wsX8_talk (va_wsS RX8 87 yX8_isRow wsX8_isRow) := goodIn_app (goodIn_of _ (by decide +kernel)) ggX8_talk_X8_isRow
set_option maxRecDepth 20000 in
theorem ggX8_talk_X8_isOver : GoodIn wsX8_talk wsX8_isOver := goodIn_r _ [17, 4, 58, 59, 60, 61, 62, 63, 64, 65, 66, 67, 68, 69, 70, 71, 72, 73, 74, 75, 76, 77, 78, 79, 80, 81, 82, 83, 84, 85, 86, 87, 88, 89, 90] (by decide +kernel) (by decide +kernel)
set_option maxRecDepth 20000 in
theorem gX8_talk_X8_isOver : GoodIn wsX8_talk (wsV RX8 203 RX8 yX8_isOver wsX8_isOver) := goodIn_app (goodIn_of _ (by decide +kernel)) ggX8_talk_X8_isOver
set_option maxRecDepth 20000 in
theorem ggX8_talk_X8_find : GoodIn wsX8_talk wsX8_find := goodIn_r _ [21, 22, 23, 58, 59, 60, 61, 62, 63, 64, 65, 66, 67, 68, 69, 70, 71, 72, 73, 74, 75, 76, 77, 78, 79, 80, 81, 82, 83, 84, 85, 86, 87, 88, 89, 90] (by decide +kernel) (by decide +kernel)
set_option maxRecDepth 20000 in
theorem gX8_talk_X8_find : GoodIn wsX8_talk (wsV RX8 91 RX8 yX8_find wsX8_find) := goodIn_app (goodIn_of _ (by decide +kernel)) ggX8_talk_X8_find
set_option maxRecDepth 20000 in
theorem ggX8_talk_X8_isOne : GoodIn wsX8_talk wsX8_isOne := goodIn_r _ [27, 28, 11, 12, 8, 13, 58, 59, 60, 61, 62, 63, 64, 65, 66, 67, 68, 69, 70, 71, 72, 73, 74, 75, 76, 77, 78, 79, 80, 81, 82, 83, 84, 85, 86, 87, 88, 89, 90] (by decide +kernel) (by decide +kernel)
set_option maxRecDepth 20000 in
theorem gX8_talk_X8_isOne : GoodIn wsX8_talk (wsV RX8 200 RX8 yX8_isOne wsX8_isOne) := goodIn_app (goodIn_of _ (by decide +kernel)) ggX8_talk_X8_isOne
set_option maxRecDepth 20000 in
theorem ggX8_talk_X8_isSaying : GoodIn wsX8_talk wsX8_isSaying := goodIn_r _ [32, 1, 11, 12, 8, 13, 58, 59, 60, 61, 62, 63, 64, 65, 66, 67, 68, 69, 70, 71, 72, 73, 74, 75, 76, 77, 78, 79, 80, 81, 82, 83, 84, 85, 86, 87, 88, 89, 90] (by decide +kernel) (by decide +kernel)
set_option maxRecDepth 20000 in
theorem gX8_talk_X8_isSaying : GoodIn wsX8_talk (wsV RX8 186 RX8 yX8_isSaying wsX8_isSaying) := goodIn_app (goodIn_of _ (by decide +kernel)) ggX8_talk_X8_isSaying
set_option maxRecDepth 20000 in
theorem ggX8_talk_X8_layTried : GoodIn wsX8_talk wsX8_layTried := goodIn_r _ [36, 4, 58, 59, 60, 61, 62, 63, 64, 65, 66, 67, 68, 69, 70, 71, 72, 73, 74, 75, 76, 77, 78, 79, 80, 81, 82, 83, 84, 85, 86, 87, 88, 89, 90] (by decide +kernel) (by decide +kernel)
set_option maxRecDepth 20000 in
theorem gX8_talk_X8_layTried : GoodIn wsX8_talk (wsV RX8 228 RX8 yX8_layTried wsX8_layTried) := goodIn_app (goodIn_of _ (by decide +kernel)) ggX8_talk_X8_layTried
set_option maxRecDepth 20000 in
theorem ggX8_talk_X8_says : GoodIn wsX8_talk wsX8_says := goodIn_r _ [40, 4, 41, 42, 43, 44, 45, 8, 46, 47, 48, 49, 50, 51, 52, 53, 54, 55, 56, 57, 58, 59, 60, 61, 62, 63, 64, 65, 66, 67, 68, 69, 70, 71, 72, 73, 74, 75, 76, 77, 78, 79, 80, 81, 82, 83, 84, 85, 86, 87, 88, 89, 90] (by decide +kernel) (by decide +kernel)
set_option maxRecDepth 20000 in
theorem gX8_talk_X8_says : GoodIn wsX8_talk (wsV RX8 209 RX8 yX8_says wsX8_says) := goodIn_app (goodIn_of _ (by decide +kernel)) ggX8_talk_X8_says
theorem dX8_talk_0 : decode cX8_talk 0 = .ok (.iload_n 1, 1) := by decide +kernel
theorem dX8_talk_1 : decode cX8_talk 1 = .ok (.invokestatic 87, 3) := by decide +kernel
theorem dX8_talk_4 : decode cX8_talk 4 = .ok (.ifCond .ne 5, 3) := by decide +kernel
theorem dX8_talk_7 : decode cX8_talk 7 = .ok (.iconst (-1), 1) := by decide +kernel
theorem dX8_talk_8 : decode cX8_talk 8 = .ok (.ireturn, 1) := by decide +kernel
theorem dX8_talk_9 : decode cX8_talk 9 = .ok (.aload_n 0, 1) := by decide +kernel
theorem dX8_talk_10 : decode cX8_talk 10 = .ok (.invokevirtual 203, 3) := by decide +kernel
theorem dX8_talk_13 : decode cX8_talk 13 = .ok (.ifCond .ne 10, 3) := by decide +kernel
theorem dX8_talk_16 : decode cX8_talk 16 = .ok (.aload_n 0, 1) := by decide +kernel
theorem dX8_talk_17 : decode cX8_talk 17 = .ok (.getfield 167, 3) := by decide +kernel
theorem dX8_talk_20 : decode cX8_talk 20 = .ok (.ifCond .ne 6, 3) := by decide +kernel
theorem dX8_talk_23 : decode cX8_talk 23 = .ok (.bipush (-4), 2) := by decide +kernel
theorem dX8_talk_25 : decode cX8_talk 25 = .ok (.ireturn, 1) := by decide +kernel
theorem dX8_talk_26 : decode cX8_talk 26 = .ok (.aload_n 0, 1) := by decide +kernel
theorem dX8_talk_27 : decode cX8_talk 27 = .ok (.getfield 25, 3) := by decide +kernel
theorem dX8_talk_30 : decode cX8_talk 30 = .ok (.iload_n 1, 1) := by decide +kernel
theorem dX8_talk_31 : decode cX8_talk 31 = .ok (.iaload, 1) := by decide +kernel
theorem dX8_talk_32 : decode cX8_talk 32 = .ok (.ifCond .ge 9, 3) := by decide +kernel
theorem dX8_talk_35 : decode cX8_talk 35 = .ok (.aload_n 0, 1) := by decide +kernel
theorem dX8_talk_36 : decode cX8_talk 36 = .ok (.iconst 1, 1) := by decide +kernel
theorem dX8_talk_37 : decode cX8_talk 37 = .ok (.invokevirtual 91, 3) := by decide +kernel
theorem dX8_talk_40 : decode cX8_talk 40 = .ok (.ireturn, 1) := by decide +kernel
theorem dX8_talk_41 : decode cX8_talk 41 = .ok (.aload_n 0, 1) := by decide +kernel
theorem dX8_talk_42 : decode cX8_talk 42 = .ok (.getfield 25, 3) := by decide +kernel
theorem dX8_talk_45 : decode cX8_talk 45 = .ok (.iload_n 1, 1) := by decide +kernel
theorem dX8_talk_46 : decode cX8_talk 46 = .ok (.iaload, 1) := by decide +kernel
theorem dX8_talk_47 : decode cX8_talk 47 = .ok (.iconst 2, 1) := by decide +kernel
theorem dX8_talk_48 : decode cX8_talk 48 = .ok (.irem, 1) := by decide +kernel
theorem dX8_talk_49 : decode cX8_talk 49 = .ok (.ifCond .ne 14, 3) := by decide +kernel
theorem dX8_talk_52 : decode cX8_talk 52 = .ok (.aload_n 0, 1) := by decide +kernel
theorem dX8_talk_53 : decode cX8_talk 53 = .ok (.getfield 25, 3) := by decide +kernel
theorem dX8_talk_56 : decode cX8_talk 56 = .ok (.iload_n 1, 1) := by decide +kernel
theorem dX8_talk_57 : decode cX8_talk 57 = .ok (.iaload, 1) := by decide +kernel
theorem dX8_talk_58 : decode cX8_talk 58 = .ok (.bipush 20, 2) := by decide +kernel
theorem dX8_talk_60 : decode cX8_talk 60 = .ok (.if_icmp .le 9, 3) := by decide +kernel
theorem dX8_talk_63 : decode cX8_talk 63 = .ok (.aload_n 0, 1) := by decide +kernel
theorem dX8_talk_64 : decode cX8_talk 64 = .ok (.iconst 5, 1) := by decide +kernel
theorem dX8_talk_65 : decode cX8_talk 65 = .ok (.invokevirtual 91, 3) := by decide +kernel
theorem dX8_talk_68 : decode cX8_talk 68 = .ok (.ireturn, 1) := by decide +kernel
theorem dX8_talk_69 : decode cX8_talk 69 = .ok (.bipush 40, 2) := by decide +kernel
theorem dX8_talk_71 : decode cX8_talk 71 = .ok (.iload_n 1, 1) := by decide +kernel
theorem dX8_talk_72 : decode cX8_talk 72 = .ok (.imul, 1) := by decide +kernel
theorem dX8_talk_73 : decode cX8_talk 73 = .ok (.istore_n 2, 1) := by decide +kernel
theorem dX8_talk_74 : decode cX8_talk 74 = .ok (.iload_n 2, 1) := by decide +kernel
theorem dX8_talk_75 : decode cX8_talk 75 = .ok (.bipush 40, 2) := by decide +kernel
theorem dX8_talk_77 : decode cX8_talk 77 = .ok (.iload_n 1, 1) := by decide +kernel
theorem dX8_talk_78 : decode cX8_talk 78 = .ok (.imul, 1) := by decide +kernel
theorem dX8_talk_79 : decode cX8_talk 79 = .ok (.aload_n 0, 1) := by decide +kernel
theorem dX8_talk_80 : decode cX8_talk 80 = .ok (.getfield 25, 3) := by decide +kernel
theorem dX8_talk_83 : decode cX8_talk 83 = .ok (.iload_n 1, 1) := by decide +kernel
theorem dX8_talk_84 : decode cX8_talk 84 = .ok (.iaload, 1) := by decide +kernel
theorem dX8_talk_85 : decode cX8_talk 85 = .ok (.iadd, 1) := by decide +kernel
theorem dX8_talk_86 : decode cX8_talk 86 = .ok (.if_icmp .ge 43, 3) := by decide +kernel
theorem dX8_talk_89 : decode cX8_talk 89 = .ok (.aload_n 0, 1) := by decide +kernel
theorem dX8_talk_90 : decode cX8_talk 90 = .ok (.aload_n 0, 1) := by decide +kernel
theorem dX8_talk_91 : decode cX8_talk 91 = .ok (.getfield 28, 3) := by decide +kernel
theorem dX8_talk_94 : decode cX8_talk 94 = .ok (.iload_n 2, 1) := by decide +kernel
theorem dX8_talk_95 : decode cX8_talk 95 = .ok (.iaload, 1) := by decide +kernel
theorem dX8_talk_96 : decode cX8_talk 96 = .ok (.invokevirtual 200, 3) := by decide +kernel
theorem dX8_talk_99 : decode cX8_talk 99 = .ok (.ifCond .eq 18, 3) := by decide +kernel
theorem dX8_talk_102 : decode cX8_talk 102 = .ok (.aload_n 0, 1) := by decide +kernel
theorem dX8_talk_103 : decode cX8_talk 103 = .ok (.aload_n 0, 1) := by decide +kernel
theorem dX8_talk_104 : decode cX8_talk 104 = .ok (.getfield 28, 3) := by decide +kernel
theorem dX8_talk_107 : decode cX8_talk 107 = .ok (.iload_n 2, 1) := by decide +kernel
theorem dX8_talk_108 : decode cX8_talk 108 = .ok (.iconst 1, 1) := by decide +kernel
theorem dX8_talk_109 : decode cX8_talk 109 = .ok (.iadd, 1) := by decide +kernel
theorem dX8_talk_110 : decode cX8_talk 110 = .ok (.iaload, 1) := by decide +kernel
theorem dX8_talk_111 : decode cX8_talk 111 = .ok (.invokevirtual 186, 3) := by decide +kernel
theorem dX8_talk_114 : decode cX8_talk 114 = .ok (.ifCond .ne 9, 3) := by decide +kernel
theorem dX8_talk_117 : decode cX8_talk 117 = .ok (.aload_n 0, 1) := by decide +kernel
theorem dX8_talk_118 : decode cX8_talk 118 = .ok (.iconst 3, 1) := by decide +kernel
theorem dX8_talk_119 : decode cX8_talk 119 = .ok (.invokevirtual 91, 3) := by decide +kernel
theorem dX8_talk_122 : decode cX8_talk 122 = .ok (.ireturn, 1) := by decide +kernel
theorem dX8_talk_123 : decode cX8_talk 123 = .ok (.iinc 2 2, 3) := by decide +kernel
theorem dX8_talk_126 : decode cX8_talk 126 = .ok (.goto (-52), 3) := by decide +kernel
theorem dX8_talk_129 : decode cX8_talk 129 = .ok (.aload_n 0, 1) := by decide +kernel
theorem dX8_talk_130 : decode cX8_talk 130 = .ok (.invokevirtual 228, 3) := by decide +kernel
theorem dX8_talk_133 : decode cX8_talk 133 = .ok (.iconst 0, 1) := by decide +kernel
theorem dX8_talk_134 : decode cX8_talk 134 = .ok (.istore_n 2, 1) := by decide +kernel
theorem dX8_talk_135 : decode cX8_talk 135 = .ok (.iconst 2, 1) := by decide +kernel
theorem dX8_talk_136 : decode cX8_talk 136 = .ok (.iload_n 2, 1) := by decide +kernel
theorem dX8_talk_137 : decode cX8_talk 137 = .ok (.imul, 1) := by decide +kernel
theorem dX8_talk_138 : decode cX8_talk 138 = .ok (.aload_n 0, 1) := by decide +kernel
theorem dX8_talk_139 : decode cX8_talk 139 = .ok (.getfield 25, 3) := by decide +kernel
theorem dX8_talk_142 : decode cX8_talk 142 = .ok (.iload_n 1, 1) := by decide +kernel
theorem dX8_talk_143 : decode cX8_talk 143 = .ok (.iaload, 1) := by decide +kernel
theorem dX8_talk_144 : decode cX8_talk 144 = .ok (.if_icmp .ge 57, 3) := by decide +kernel
theorem dX8_talk_147 : decode cX8_talk 147 = .ok (.aload_n 0, 1) := by decide +kernel
theorem dX8_talk_148 : decode cX8_talk 148 = .ok (.getfield 7, 3) := by decide +kernel
theorem dX8_talk_151 : decode cX8_talk 151 = .ok (.sipush 1648, 3) := by decide +kernel
theorem dX8_talk_154 : decode cX8_talk 154 = .ok (.iaload, 1) := by decide +kernel
theorem dX8_talk_155 : decode cX8_talk 155 = .ok (.bipush (-9), 2) := by decide +kernel
theorem dX8_talk_157 : decode cX8_talk 157 = .ok (.if_icmp .ne 44, 3) := by decide +kernel
theorem dX8_talk_160 : decode cX8_talk 160 = .ok (.aload_n 0, 1) := by decide +kernel
theorem dX8_talk_161 : decode cX8_talk 161 = .ok (.sipush 1644, 3) := by decide +kernel
theorem dX8_talk_164 : decode cX8_talk 164 = .ok (.aload_n 0, 1) := by decide +kernel
theorem dX8_talk_165 : decode cX8_talk 165 = .ok (.getfield 28, 3) := by decide +kernel
theorem dX8_talk_168 : decode cX8_talk 168 = .ok (.bipush 40, 2) := by decide +kernel
theorem dX8_talk_170 : decode cX8_talk 170 = .ok (.iload_n 1, 1) := by decide +kernel
theorem dX8_talk_171 : decode cX8_talk 171 = .ok (.imul, 1) := by decide +kernel
theorem dX8_talk_172 : decode cX8_talk 172 = .ok (.iconst 2, 1) := by decide +kernel
theorem dX8_talk_173 : decode cX8_talk 173 = .ok (.iload_n 2, 1) := by decide +kernel
theorem dX8_talk_174 : decode cX8_talk 174 = .ok (.imul, 1) := by decide +kernel
theorem dX8_talk_175 : decode cX8_talk 175 = .ok (.iadd, 1) := by decide +kernel
theorem dX8_talk_176 : decode cX8_talk 176 = .ok (.iaload, 1) := by decide +kernel
theorem dX8_talk_177 : decode cX8_talk 177 = .ok (.aload_n 0, 1) := by decide +kernel
theorem dX8_talk_178 : decode cX8_talk 178 = .ok (.getfield 28, 3) := by decide +kernel
theorem dX8_talk_181 : decode cX8_talk 181 = .ok (.bipush 40, 2) := by decide +kernel
theorem dX8_talk_183 : decode cX8_talk 183 = .ok (.iload_n 1, 1) := by decide +kernel
theorem dX8_talk_184 : decode cX8_talk 184 = .ok (.imul, 1) := by decide +kernel
theorem dX8_talk_185 : decode cX8_talk 185 = .ok (.iconst 2, 1) := by decide +kernel
theorem dX8_talk_186 : decode cX8_talk 186 = .ok (.iload_n 2, 1) := by decide +kernel
theorem dX8_talk_187 : decode cX8_talk 187 = .ok (.imul, 1) := by decide +kernel
theorem dX8_talk_188 : decode cX8_talk 188 = .ok (.iadd, 1) := by decide +kernel
theorem dX8_talk_189 : decode cX8_talk 189 = .ok (.iconst 1, 1) := by decide +kernel
theorem dX8_talk_190 : decode cX8_talk 190 = .ok (.iadd, 1) := by decide +kernel
theorem dX8_talk_191 : decode cX8_talk 191 = .ok (.iaload, 1) := by decide +kernel
theorem dX8_talk_192 : decode cX8_talk 192 = .ok (.invokevirtual 209, 3) := by decide +kernel
theorem dX8_talk_195 : decode cX8_talk 195 = .ok (.iinc 2 1, 3) := by decide +kernel
theorem dX8_talk_198 : decode cX8_talk 198 = .ok (.goto (-63), 3) := by decide +kernel
theorem dX8_talk_201 : decode cX8_talk 201 = .ok (.aload_n 0, 1) := by decide +kernel
theorem dX8_talk_202 : decode cX8_talk 202 = .ok (.aload_n 0, 1) := by decide +kernel
theorem dX8_talk_203 : decode cX8_talk 203 = .ok (.getfield 7, 3) := by decide +kernel
theorem dX8_talk_206 : decode cX8_talk 206 = .ok (.sipush 1646, 3) := by decide +kernel
theorem dX8_talk_209 : decode cX8_talk 209 = .ok (.iaload, 1) := by decide +kernel
theorem dX8_talk_210 : decode cX8_talk 210 = .ok (.putfield 76, 3) := by decide +kernel
theorem dX8_talk_213 : decode cX8_talk 213 = .ok (.iload_n 2, 1) := by decide +kernel
theorem dX8_talk_214 : decode cX8_talk 214 = .ok (.ireturn, 1) := by decide +kernel
set_option maxRecDepth 20000 in
theorem ggX8_waits_X8_isOne : GoodIn wsX8_waits wsX8_isOne := goodIn_r _ [7, 8, 9, 10, 6, 11, 36, 37, 38, 39, 40, 41, 42, 43, 44, 45, 46, 47, 48, 49, 50, 51, 52, 53, 54, 55, 56, 57, 58, 59, 60, 61, 62, 63, 64, 65, 66, 67, 68] (by decide +kernel) (by decide +kernel)
set_option maxRecDepth 20000 in
theorem gX8_waits_X8_isOne : GoodIn wsX8_waits (wsV RX8 200 RX8 yX8_isOne wsX8_isOne) := goodIn_app (goodIn_of _ (by decide +kernel)) ggX8_waits_X8_isOne
set_option maxRecDepth 20000 in
theorem ggX8_waits_X8_isSaying : GoodIn wsX8_waits wsX8_isSaying := goodIn_r _ [15, 16, 9, 10, 6, 11, 36, 37, 38, 39, 40, 41, 42, 43, 44, 45, 46, 47, 48, 49, 50, 51, 52, 53, 54, 55, 56, 57, 58, 59, 60, 61, 62, 63, 64, 65, 66, 67, 68] (by decide +kernel) (by decide +kernel)
set_option maxRecDepth 20000 in
theorem gX8_waits_X8_isSaying : GoodIn wsX8_waits (wsV RX8 186 RX8 yX8_isSaying wsX8_isSaying) := goodIn_app (goodIn_of _ (by decide +kernel)) ggX8_waits_X8_isSaying
set_option maxRecDepth 20000 in
theorem ggX8_waits_X8_isOver : GoodIn wsX8_waits wsX8_isOver := goodIn_r _ [20, 1, 36, 37, 38, 39, 40, 41, 42, 43, 44, 45, 46, 47, 48, 49, 50, 51, 52, 53, 54, 55, 56, 57, 58, 59, 60, 61, 62, 63, 64, 65, 66, 67, 68] (by decide +kernel) (by decide +kernel)
set_option maxRecDepth 20000 in
theorem gX8_waits_X8_isOver : GoodIn wsX8_waits (wsV RX8 203 RX8 yX8_isOver wsX8_isOver) := goodIn_app (goodIn_of _ (by decide +kernel)) ggX8_waits_X8_isOver
set_option maxRecDepth 20000 in
theorem ggX8_waits_X8_nearOf : GoodIn wsX8_waits wsX8_nearOf := goodIn_r _ [24, 25, 26, 1, 27, 28, 6, 29, 30, 31, 32, 33, 34, 35, 36, 37, 38, 39, 40, 41, 42, 43, 44, 45, 46, 47, 48, 49, 50, 51, 52, 53, 54, 55, 56, 57, 58, 59, 60, 61, 62, 63, 64, 65, 66, 67, 68] (by decide +kernel) (by decide +kernel)
set_option maxRecDepth 20000 in
theorem gX8_waits_X8_nearOf : GoodIn wsX8_waits (wsV RX8 183 RX8 yX8_nearOf wsX8_nearOf) := goodIn_app (goodIn_of _ (by decide +kernel)) ggX8_waits_X8_nearOf
theorem dX8_waits_0 : decode cX8_waits 0 = .ok (.aload_n 0, 1) := by decide +kernel
theorem dX8_waits_1 : decode cX8_waits 1 = .ok (.iload_n 1, 1) := by decide +kernel
theorem dX8_waits_2 : decode cX8_waits 2 = .ok (.invokevirtual 200, 3) := by decide +kernel
theorem dX8_waits_5 : decode cX8_waits 5 = .ok (.ifCond .eq 11, 3) := by decide +kernel
theorem dX8_waits_8 : decode cX8_waits 8 = .ok (.aload_n 0, 1) := by decide +kernel
theorem dX8_waits_9 : decode cX8_waits 9 = .ok (.iload_n 2, 1) := by decide +kernel
theorem dX8_waits_10 : decode cX8_waits 10 = .ok (.invokevirtual 186, 3) := by decide +kernel
theorem dX8_waits_13 : decode cX8_waits 13 = .ok (.ifCond .ne 5, 3) := by decide +kernel
theorem dX8_waits_16 : decode cX8_waits 16 = .ok (.iconst (-1), 1) := by decide +kernel
theorem dX8_waits_17 : decode cX8_waits 17 = .ok (.ireturn, 1) := by decide +kernel
theorem dX8_waits_18 : decode cX8_waits 18 = .ok (.aload_n 0, 1) := by decide +kernel
theorem dX8_waits_19 : decode cX8_waits 19 = .ok (.invokevirtual 203, 3) := by decide +kernel
theorem dX8_waits_22 : decode cX8_waits 22 = .ok (.ifCond .eq 6, 3) := by decide +kernel
theorem dX8_waits_25 : decode cX8_waits 25 = .ok (.bipush (-4), 2) := by decide +kernel
theorem dX8_waits_27 : decode cX8_waits 27 = .ok (.ireturn, 1) := by decide +kernel
theorem dX8_waits_28 : decode cX8_waits 28 = .ok (.aload_n 0, 1) := by decide +kernel
theorem dX8_waits_29 : decode cX8_waits 29 = .ok (.iconst 0, 1) := by decide +kernel
theorem dX8_waits_30 : decode cX8_waits 30 = .ok (.iload_n 2, 1) := by decide +kernel
theorem dX8_waits_31 : decode cX8_waits 31 = .ok (.invokevirtual 183, 3) := by decide +kernel
theorem dX8_waits_34 : decode cX8_waits 34 = .ok (.istore_n 3, 1) := by decide +kernel
theorem dX8_waits_35 : decode cX8_waits 35 = .ok (.aload_n 0, 1) := by decide +kernel
theorem dX8_waits_36 : decode cX8_waits 36 = .ok (.getfield 7, 3) := by decide +kernel
theorem dX8_waits_39 : decode cX8_waits 39 = .ok (.iconst 2, 1) := by decide +kernel
theorem dX8_waits_40 : decode cX8_waits 40 = .ok (.iaload, 1) := by decide +kernel
theorem dX8_waits_41 : decode cX8_waits 41 = .ok (.iload_n 3, 1) := by decide +kernel
theorem dX8_waits_42 : decode cX8_waits 42 = .ok (.iadd, 1) := by decide +kernel
theorem dX8_waits_43 : decode cX8_waits 43 = .ok (.aload_n 0, 1) := by decide +kernel
theorem dX8_waits_44 : decode cX8_waits 44 = .ok (.getfield 13, 3) := by decide +kernel
theorem dX8_waits_47 : decode cX8_waits 47 = .ok (.iload_n 1, 1) := by decide +kernel
theorem dX8_waits_48 : decode cX8_waits 48 = .ok (.iaload, 1) := by decide +kernel
theorem dX8_waits_49 : decode cX8_waits 49 = .ok (.isub, 1) := by decide +kernel
theorem dX8_waits_50 : decode cX8_waits 50 = .ok (.istore 4, 2) := by decide +kernel
theorem dX8_waits_52 : decode cX8_waits 52 = .ok (.iload_n 3, 1) := by decide +kernel
theorem dX8_waits_53 : decode cX8_waits 53 = .ok (.aload_n 0, 1) := by decide +kernel
theorem dX8_waits_54 : decode cX8_waits 54 = .ok (.getfield 13, 3) := by decide +kernel
theorem dX8_waits_57 : decode cX8_waits 57 = .ok (.iload_n 1, 1) := by decide +kernel
theorem dX8_waits_58 : decode cX8_waits 58 = .ok (.iaload, 1) := by decide +kernel
theorem dX8_waits_59 : decode cX8_waits 59 = .ok (.if_icmp .le 8, 3) := by decide +kernel
theorem dX8_waits_62 : decode cX8_waits 62 = .ok (.bipush (-9), 2) := by decide +kernel
theorem dX8_waits_64 : decode cX8_waits 64 = .ok (.goto 14, 3) := by decide +kernel
theorem dX8_waits_67 : decode cX8_waits 67 = .ok (.iload 4, 2) := by decide +kernel
theorem dX8_waits_69 : decode cX8_waits 69 = .ok (.ifCond .ge 7, 3) := by decide +kernel
theorem dX8_waits_72 : decode cX8_waits 72 = .ok (.iconst 0, 1) := by decide +kernel
theorem dX8_waits_73 : decode cX8_waits 73 = .ok (.goto 5, 3) := by decide +kernel
theorem dX8_waits_76 : decode cX8_waits 76 = .ok (.iload 4, 2) := by decide +kernel
theorem dX8_waits_78 : decode cX8_waits 78 = .ok (.ireturn, 1) := by decide +kernel
theorem dX8_power_0 : decode cX8_power 0 = .ok (.iconst 1, 1) := by decide +kernel
theorem dX8_power_1 : decode cX8_power 1 = .ok (.istore_n 2, 1) := by decide +kernel
theorem dX8_power_2 : decode cX8_power 2 = .ok (.iconst 0, 1) := by decide +kernel
theorem dX8_power_3 : decode cX8_power 3 = .ok (.istore_n 3, 1) := by decide +kernel
theorem dX8_power_4 : decode cX8_power 4 = .ok (.iload_n 3, 1) := by decide +kernel
theorem dX8_power_5 : decode cX8_power 5 = .ok (.iload_n 1, 1) := by decide +kernel
theorem dX8_power_6 : decode cX8_power 6 = .ok (.if_icmp .ge 18, 3) := by decide +kernel
theorem dX8_power_9 : decode cX8_power 9 = .ok (.iload_n 2, 1) := by decide +kernel
theorem dX8_power_10 : decode cX8_power 10 = .ok (.aload_n 0, 1) := by decide +kernel
theorem dX8_power_11 : decode cX8_power 11 = .ok (.getfield 167, 3) := by decide +kernel
theorem dX8_power_14 : decode cX8_power 14 = .ok (.iconst 1, 1) := by decide +kernel
theorem dX8_power_15 : decode cX8_power 15 = .ok (.iadd, 1) := by decide +kernel
theorem dX8_power_16 : decode cX8_power 16 = .ok (.imul, 1) := by decide +kernel
theorem dX8_power_17 : decode cX8_power 17 = .ok (.istore_n 2, 1) := by decide +kernel
theorem dX8_power_18 : decode cX8_power 18 = .ok (.iinc 3 1, 3) := by decide +kernel
theorem dX8_power_21 : decode cX8_power 21 = .ok (.goto (-17), 3) := by decide +kernel
theorem dX8_power_24 : decode cX8_power 24 = .ok (.iload_n 2, 1) := by decide +kernel
theorem dX8_power_25 : decode cX8_power 25 = .ok (.ireturn, 1) := by decide +kernel
set_option maxRecDepth 20000 in
theorem ggX8_isWell_X8_layTried : GoodIn wsX8_isWell wsX8_layTried := goodIn_r _ [8, 3, 38, 39, 40, 41, 42, 43, 44, 45, 46, 47, 48, 49, 50, 51, 52, 53, 54, 55, 56, 57, 58, 59, 60, 61, 62, 63, 64, 65, 66, 67, 68, 69, 70] (by decide +kernel) (by decide +kernel)
set_option maxRecDepth 20000 in
theorem gX8_isWell_X8_layTried : GoodIn wsX8_isWell (wsV RX8 228 RX8 yX8_layTried wsX8_layTried) := goodIn_app (goodIn_of _ (by decide +kernel)) ggX8_isWell_X8_layTried
set_option maxRecDepth 20000 in
theorem ggX8_isWell_X8_power : GoodIn wsX8_isWell wsX8_power := goodIn_r _ [12, 1, 38, 39, 40, 41, 42, 43, 44, 45, 46, 47, 48, 49, 50, 51, 52, 53, 54, 55, 56, 57, 58, 59, 60, 61, 62, 63, 64, 65, 66, 67, 68, 69, 70] (by decide +kernel) (by decide +kernel)
set_option maxRecDepth 20000 in
theorem gX8_isWell_X8_power : GoodIn wsX8_isWell (wsV RX8 231 RX8 yX8_power wsX8_power) := goodIn_app (goodIn_of _ (by decide +kernel)) ggX8_isWell_X8_power
set_option maxRecDepth 20000 in
theorem ggX8_isWell_X8_eases : GoodIn wsX8_isWell wsX8_eases := goodIn_r _ [16, 3, 38, 39, 40, 41, 42, 43, 44, 45, 46, 47, 48, 49, 50, 51, 52, 53, 54, 55, 56, 57, 58, 59, 60, 61, 62, 63, 64, 65, 66, 67, 68, 69, 70] (by decide +kernel) (by decide +kernel)
set_option maxRecDepth 20000 in
theorem gX8_isWell_X8_eases : GoodIn wsX8_isWell (wsV RX8 213 RX8 yX8_eases wsX8_eases) := goodIn_app (goodIn_of _ (by decide +kernel)) ggX8_isWell_X8_eases
set_option maxRecDepth 20000 in
theorem ggX8_isWell_X8_says : GoodIn wsX8_isWell wsX8_says := goodIn_r _ [20, 3, 21, 22, 23, 24, 25, 7, 26, 27, 28, 29, 30, 31, 32, 33, 34, 35, 36, 37, 38, 39, 40, 41, 42, 43, 44, 45, 46, 47, 48, 49, 50, 51, 52, 53, 54, 55, 56, 57, 58, 59, 60, 61, 62, 63, 64, 65, 66, 67, 68, 69, 70] (by decide +kernel) (by decide +kernel)
set_option maxRecDepth 20000 in
theorem gX8_isWell_X8_says : GoodIn wsX8_isWell (wsV RX8 209 RX8 yX8_says wsX8_says) := goodIn_app (goodIn_of _ (by decide +kernel)) ggX8_isWell_X8_says
theorem dX8_isWell_0 : decode cX8_isWell 0 = .ok (.aload_n 0, 1) := by decide +kernel
theorem dX8_isWell_1 : decode cX8_isWell 1 = .ok (.invokevirtual 228, 3) := by decide +kernel
theorem dX8_isWell_4 : decode cX8_isWell 4 = .ok (.iconst 0, 1) := by decide +kernel
theorem dX8_isWell_5 : decode cX8_isWell 5 = .ok (.istore 4, 2) := by decide +kernel
theorem dX8_isWell_7 : decode cX8_isWell 7 = .ok (.iload 4, 2) := by decide +kernel
theorem dX8_isWell_9 : decode cX8_isWell 9 = .ok (.iload_n 2, 1) := by decide +kernel
theorem dX8_isWell_10 : decode cX8_isWell 10 = .ok (.if_icmp .ge 80, 3) := by decide +kernel
theorem dX8_isWell_13 : decode cX8_isWell 13 = .ok (.iload_n 3, 1) := by decide +kernel
theorem dX8_isWell_14 : decode cX8_isWell 14 = .ok (.aload_n 0, 1) := by decide +kernel
theorem dX8_isWell_15 : decode cX8_isWell 15 = .ok (.iload_n 2, 1) := by decide +kernel
theorem dX8_isWell_16 : decode cX8_isWell 16 = .ok (.iconst 1, 1) := by decide +kernel
theorem dX8_isWell_17 : decode cX8_isWell 17 = .ok (.isub, 1) := by decide +kernel
theorem dX8_isWell_18 : decode cX8_isWell 18 = .ok (.iload 4, 2) := by decide +kernel
theorem dX8_isWell_20 : decode cX8_isWell 20 = .ok (.isub, 1) := by decide +kernel
theorem dX8_isWell_21 : decode cX8_isWell 21 = .ok (.invokevirtual 231, 3) := by decide +kernel
theorem dX8_isWell_24 : decode cX8_isWell 24 = .ok (.idiv, 1) := by decide +kernel
theorem dX8_isWell_25 : decode cX8_isWell 25 = .ok (.aload_n 0, 1) := by decide +kernel
theorem dX8_isWell_26 : decode cX8_isWell 26 = .ok (.getfield 167, 3) := by decide +kernel
theorem dX8_isWell_29 : decode cX8_isWell 29 = .ok (.iconst 1, 1) := by decide +kernel
theorem dX8_isWell_30 : decode cX8_isWell 30 = .ok (.iadd, 1) := by decide +kernel
theorem dX8_isWell_31 : decode cX8_isWell 31 = .ok (.irem, 1) := by decide +kernel
theorem dX8_isWell_32 : decode cX8_isWell 32 = .ok (.istore 5, 2) := by decide +kernel
theorem dX8_isWell_34 : decode cX8_isWell 34 = .ok (.iload 5, 2) := by decide +kernel
theorem dX8_isWell_36 : decode cX8_isWell 36 = .ok (.ifCond .ne 13, 3) := by decide +kernel
theorem dX8_isWell_39 : decode cX8_isWell 39 = .ok (.aload_n 0, 1) := by decide +kernel
theorem dX8_isWell_40 : decode cX8_isWell 40 = .ok (.sipush 1644, 3) := by decide +kernel
theorem dX8_isWell_43 : decode cX8_isWell 43 = .ok (.invokevirtual 213, 3) := by decide +kernel
theorem dX8_isWell_46 : decode cX8_isWell 46 = .ok (.goto 23, 3) := by decide +kernel
theorem dX8_isWell_49 : decode cX8_isWell 49 = .ok (.aload_n 0, 1) := by decide +kernel
theorem dX8_isWell_50 : decode cX8_isWell 50 = .ok (.sipush 1644, 3) := by decide +kernel
theorem dX8_isWell_53 : decode cX8_isWell 53 = .ok (.iload_n 1, 1) := by decide +kernel
theorem dX8_isWell_54 : decode cX8_isWell 54 = .ok (.iload 4, 2) := by decide +kernel
theorem dX8_isWell_56 : decode cX8_isWell 56 = .ok (.iadd, 1) := by decide +kernel
theorem dX8_isWell_57 : decode cX8_isWell 57 = .ok (.aload_n 0, 1) := by decide +kernel
theorem dX8_isWell_58 : decode cX8_isWell 58 = .ok (.getfield 164, 3) := by decide +kernel
theorem dX8_isWell_61 : decode cX8_isWell 61 = .ok (.irem, 1) := by decide +kernel
theorem dX8_isWell_62 : decode cX8_isWell 62 = .ok (.iload 5, 2) := by decide +kernel
theorem dX8_isWell_64 : decode cX8_isWell 64 = .ok (.iconst 1, 1) := by decide +kernel
theorem dX8_isWell_65 : decode cX8_isWell 65 = .ok (.isub, 1) := by decide +kernel
theorem dX8_isWell_66 : decode cX8_isWell 66 = .ok (.invokevirtual 209, 3) := by decide +kernel
theorem dX8_isWell_69 : decode cX8_isWell 69 = .ok (.aload_n 0, 1) := by decide +kernel
theorem dX8_isWell_70 : decode cX8_isWell 70 = .ok (.getfield 7, 3) := by decide +kernel
theorem dX8_isWell_73 : decode cX8_isWell 73 = .ok (.sipush 1648, 3) := by decide +kernel
theorem dX8_isWell_76 : decode cX8_isWell 76 = .ok (.iaload, 1) := by decide +kernel
theorem dX8_isWell_77 : decode cX8_isWell 77 = .ok (.bipush (-9), 2) := by decide +kernel
theorem dX8_isWell_79 : decode cX8_isWell 79 = .ok (.if_icmp .eq 5, 3) := by decide +kernel
theorem dX8_isWell_82 : decode cX8_isWell 82 = .ok (.iconst 0, 1) := by decide +kernel
theorem dX8_isWell_83 : decode cX8_isWell 83 = .ok (.ireturn, 1) := by decide +kernel
theorem dX8_isWell_84 : decode cX8_isWell 84 = .ok (.iinc 4 1, 3) := by decide +kernel
theorem dX8_isWell_87 : decode cX8_isWell 87 = .ok (.goto (-80), 3) := by decide +kernel
theorem dX8_isWell_90 : decode cX8_isWell 90 = .ok (.iconst 1, 1) := by decide +kernel
theorem dX8_isWell_91 : decode cX8_isWell 91 = .ok (.ireturn, 1) := by decide +kernel
set_option maxRecDepth 20000 in
theorem ggX8_settles_X8_isWell : GoodIn wsX8_settles wsX8_isWell := goodIn_r _ [6, 7, 8, 1, 9, 10, 11, 5, 12, 13, 14, 15, 16, 17, 18, 19, 20, 21, 22, 23, 24, 25, 26, 27, 28, 29, 30, 31, 32, 33, 34, 35, 36, 37, 38, 39, 40, 41, 42, 43, 44, 45, 46, 47, 48, 49, 50, 51, 52, 53, 54, 55, 56, 57, 58, 59, 60, 61, 62, 63, 64, 65, 66, 67, 68, 69, 70, 71, 72, 73, 74] (by decide +kernel) (by decide +kernel)
set_option maxRecDepth 20000 in
theorem gX8_settles_X8_isWell : GoodIn wsX8_settles (wsV RX8 234 RX8 yX8_isWell wsX8_isWell) := goodIn_app (goodIn_of _ (by decide +kernel)) ggX8_settles_X8_isWell
theorem dX8_settles_0 : decode cX8_settles 0 = .ok (.aload_n 0, 1) := by decide +kernel
theorem dX8_settles_1 : decode cX8_settles 1 = .ok (.iload_n 1, 1) := by decide +kernel
theorem dX8_settles_2 : decode cX8_settles 2 = .ok (.iload_n 2, 1) := by decide +kernel
theorem dX8_settles_3 : decode cX8_settles 3 = .ok (.iload_n 3, 1) := by decide +kernel
theorem dX8_settles_4 : decode cX8_settles 4 = .ok (.invokevirtual 234, 3) := by decide +kernel
theorem dX8_settles_7 : decode cX8_settles 7 = .ok (.ifCond .eq 20, 3) := by decide +kernel
theorem dX8_settles_10 : decode cX8_settles 10 = .ok (.aload_n 0, 1) := by decide +kernel
theorem dX8_settles_11 : decode cX8_settles 11 = .ok (.getfield 7, 3) := by decide +kernel
theorem dX8_settles_14 : decode cX8_settles 14 = .ok (.sipush 1647, 3) := by decide +kernel
theorem dX8_settles_17 : decode cX8_settles 17 = .ok (.iaload, 1) := by decide +kernel
theorem dX8_settles_18 : decode cX8_settles 18 = .ok (.bipush 7, 2) := by decide +kernel
theorem dX8_settles_20 : decode cX8_settles 20 = .ok (.if_icmp .ne 7, 3) := by decide +kernel
theorem dX8_settles_23 : decode cX8_settles 23 = .ok (.iconst 1, 1) := by decide +kernel
theorem dX8_settles_24 : decode cX8_settles 24 = .ok (.goto 4, 3) := by decide +kernel
theorem dX8_settles_27 : decode cX8_settles 27 = .ok (.iconst 0, 1) := by decide +kernel
theorem dX8_settles_28 : decode cX8_settles 28 = .ok (.ireturn, 1) := by decide +kernel
set_option maxRecDepth 20000 in
theorem ggX8_settle_X8_isOne : GoodIn wsX8_settle wsX8_isOne := goodIn_r _ [7, 8, 9, 10, 6, 11, 67, 68, 69, 70, 71, 72, 73, 74, 75, 76, 77, 78, 79, 80, 81, 82, 83, 84, 85, 86, 87, 88, 89, 90, 91, 92, 93, 94, 95, 96, 97, 98, 99] (by decide +kernel) (by decide +kernel)
set_option maxRecDepth 20000 in
theorem gX8_settle_X8_isOne : GoodIn wsX8_settle (wsV RX8 200 RX8 yX8_isOne wsX8_isOne) := goodIn_app (goodIn_of _ (by decide +kernel)) ggX8_settle_X8_isOne
set_option maxRecDepth 20000 in
theorem ggX8_settle_X8_isRow : GoodIn wsX8_settle wsX8_isRow := goodIn_r _ [14, 15, 9, 10, 6, 11] (by decide +kernel) (by decide +kernel)
set_option maxRecDepth 20000 in
theorem gX8_settle_X8_isRow : GoodIn wsX8_settle (va_wsS RX8 87 yX8_isRow wsX8_isRow) := goodIn_app (goodIn_of _ (by decide +kernel)) ggX8_settle_X8_isRow
set_option maxRecDepth 20000 in
theorem ggX8_settle_X8_isOver : GoodIn wsX8_settle wsX8_isOver := goodIn_r _ [19, 20, 67, 68, 69, 70, 71, 72, 73, 74, 75, 76, 77, 78, 79, 80, 81, 82, 83, 84, 85, 86, 87, 88, 89, 90, 91, 92, 93, 94, 95, 96, 97, 98, 99] (by decide +kernel) (by decide +kernel)
set_option maxRecDepth 20000 in
theorem gX8_settle_X8_isOver : GoodIn wsX8_settle (wsV RX8 203 RX8 yX8_isOver wsX8_isOver) := goodIn_app (goodIn_of _ (by decide +kernel)) ggX8_settle_X8_isOver
set_option maxRecDepth 20000 in
theorem ggX8_settle_X8_power : GoodIn wsX8_settle wsX8_power := goodIn_r _ [24, 1, 67, 68, 69, 70, 71, 72, 73, 74, 75, 76, 77, 78, 79, 80, 81, 82, 83, 84, 85, 86, 87, 88, 89, 90, 91, 92, 93, 94, 95, 96, 97, 98, 99] (by decide +kernel) (by decide +kernel)
set_option maxRecDepth 20000 in
theorem gX8_settle_X8_power : GoodIn wsX8_settle (wsV RX8 231 RX8 yX8_power wsX8_power) := goodIn_app (goodIn_of _ (by decide +kernel)) ggX8_settle_X8_power
set_option maxRecDepth 20000 in
theorem ggX8_settle_X8_settles : GoodIn wsX8_settle wsX8_settles := goodIn_r _ [28, 20, 29, 30, 31, 6, 32, 1, 8, 33, 34, 35, 36, 21, 22, 23, 24, 37, 38, 39, 40, 41, 42, 43, 44, 45, 46, 47, 48, 49, 50, 51, 52, 53, 54, 55, 56, 57, 58, 59, 60, 61, 67, 68, 69, 70, 71, 72, 73, 74, 75, 76, 77, 78, 79, 80, 81, 82, 83, 84, 85, 86, 87, 88, 89, 90, 91, 92, 93, 94, 95, 96, 97, 98, 99] (by decide +kernel) (by decide +kernel)
set_option maxRecDepth 20000 in
theorem gX8_settle_X8_settles : GoodIn wsX8_settle (wsV RX8 237 RX8 yX8_settles wsX8_settles) := goodIn_app (goodIn_of _ (by decide +kernel)) ggX8_settle_X8_settles
set_option maxRecDepth 20000 in
theorem ggX8_settle_X8_makeRow : GoodIn wsX8_settle wsX8_makeRow := goodIn_r _ [65, 66, 2, 67, 68, 69, 70, 71, 72, 73, 74, 75, 76, 77, 78, 79, 80, 81, 82, 83, 84, 85, 86, 87, 88, 89, 90, 91, 92, 93, 94, 95, 96, 97, 98, 99] (by decide +kernel) (by decide +kernel)
set_option maxRecDepth 20000 in
theorem gX8_settle_X8_makeRow : GoodIn wsX8_settle (wsV RX8 95 RX8 yX8_makeRow wsX8_makeRow) := goodIn_app (goodIn_of _ (by decide +kernel)) ggX8_settle_X8_makeRow
theorem dX8_settle_0 : decode cX8_settle 0 = .ok (.aload_n 0, 1) := by decide +kernel
theorem dX8_settle_1 : decode cX8_settle 1 = .ok (.iload_n 1, 1) := by decide +kernel
theorem dX8_settle_2 : decode cX8_settle 2 = .ok (.invokevirtual 200, 3) := by decide +kernel
theorem dX8_settle_5 : decode cX8_settle 5 = .ok (.ifCond .eq 10, 3) := by decide +kernel
theorem dX8_settle_8 : decode cX8_settle 8 = .ok (.iload_n 2, 1) := by decide +kernel
theorem dX8_settle_9 : decode cX8_settle 9 = .ok (.invokestatic 87, 3) := by decide +kernel
theorem dX8_settle_12 : decode cX8_settle 12 = .ok (.ifCond .ne 5, 3) := by decide +kernel
theorem dX8_settle_15 : decode cX8_settle 15 = .ok (.iconst (-1), 1) := by decide +kernel
theorem dX8_settle_16 : decode cX8_settle 16 = .ok (.ireturn, 1) := by decide +kernel
theorem dX8_settle_17 : decode cX8_settle 17 = .ok (.aload_n 0, 1) := by decide +kernel
theorem dX8_settle_18 : decode cX8_settle 18 = .ok (.invokevirtual 203, 3) := by decide +kernel
theorem dX8_settle_21 : decode cX8_settle 21 = .ok (.ifCond .ne 10, 3) := by decide +kernel
theorem dX8_settle_24 : decode cX8_settle 24 = .ok (.aload_n 0, 1) := by decide +kernel
theorem dX8_settle_25 : decode cX8_settle 25 = .ok (.getfield 167, 3) := by decide +kernel
theorem dX8_settle_28 : decode cX8_settle 28 = .ok (.ifCond .ne 6, 3) := by decide +kernel
theorem dX8_settle_31 : decode cX8_settle 31 = .ok (.bipush (-4), 2) := by decide +kernel
theorem dX8_settle_33 : decode cX8_settle 33 = .ok (.ireturn, 1) := by decide +kernel
theorem dX8_settle_34 : decode cX8_settle 34 = .ok (.iconst 0, 1) := by decide +kernel
theorem dX8_settle_35 : decode cX8_settle 35 = .ok (.istore_n 3, 1) := by decide +kernel
theorem dX8_settle_36 : decode cX8_settle 36 = .ok (.iload_n 3, 1) := by decide +kernel
theorem dX8_settle_37 : decode cX8_settle 37 = .ok (.bipush 6, 2) := by decide +kernel
theorem dX8_settle_39 : decode cX8_settle 39 = .ok (.if_icmp .ge 110, 3) := by decide +kernel
theorem dX8_settle_42 : decode cX8_settle 42 = .ok (.iconst 0, 1) := by decide +kernel
theorem dX8_settle_43 : decode cX8_settle 43 = .ok (.istore 4, 2) := by decide +kernel
theorem dX8_settle_45 : decode cX8_settle 45 = .ok (.iload 4, 2) := by decide +kernel
theorem dX8_settle_47 : decode cX8_settle 47 = .ok (.aload_n 0, 1) := by decide +kernel
theorem dX8_settle_48 : decode cX8_settle 48 = .ok (.iload_n 3, 1) := by decide +kernel
theorem dX8_settle_49 : decode cX8_settle 49 = .ok (.invokevirtual 231, 3) := by decide +kernel
theorem dX8_settle_52 : decode cX8_settle 52 = .ok (.if_icmp .ge 91, 3) := by decide +kernel
theorem dX8_settle_55 : decode cX8_settle 55 = .ok (.aload_n 0, 1) := by decide +kernel
theorem dX8_settle_56 : decode cX8_settle 56 = .ok (.iload_n 1, 1) := by decide +kernel
theorem dX8_settle_57 : decode cX8_settle 57 = .ok (.iload_n 3, 1) := by decide +kernel
theorem dX8_settle_58 : decode cX8_settle 58 = .ok (.iload 4, 2) := by decide +kernel
theorem dX8_settle_60 : decode cX8_settle 60 = .ok (.invokevirtual 237, 3) := by decide +kernel
theorem dX8_settle_63 : decode cX8_settle 63 = .ok (.ifCond .eq 74, 3) := by decide +kernel
theorem dX8_settle_66 : decode cX8_settle 66 = .ok (.aload_n 0, 1) := by decide +kernel
theorem dX8_settle_67 : decode cX8_settle 67 = .ok (.iload_n 2, 1) := by decide +kernel
theorem dX8_settle_68 : decode cX8_settle 68 = .ok (.iload_n 3, 1) := by decide +kernel
theorem dX8_settle_69 : decode cX8_settle 69 = .ok (.invokevirtual 95, 3) := by decide +kernel
theorem dX8_settle_72 : decode cX8_settle 72 = .ok (.iconst 0, 1) := by decide +kernel
theorem dX8_settle_73 : decode cX8_settle 73 = .ok (.istore 5, 2) := by decide +kernel
theorem dX8_settle_75 : decode cX8_settle 75 = .ok (.iload 5, 2) := by decide +kernel
theorem dX8_settle_77 : decode cX8_settle 77 = .ok (.iload_n 3, 1) := by decide +kernel
theorem dX8_settle_78 : decode cX8_settle 78 = .ok (.if_icmp .ge 57, 3) := by decide +kernel
theorem dX8_settle_81 : decode cX8_settle 81 = .ok (.iload 4, 2) := by decide +kernel
theorem dX8_settle_83 : decode cX8_settle 83 = .ok (.aload_n 0, 1) := by decide +kernel
theorem dX8_settle_84 : decode cX8_settle 84 = .ok (.iload_n 3, 1) := by decide +kernel
theorem dX8_settle_85 : decode cX8_settle 85 = .ok (.iconst 1, 1) := by decide +kernel
theorem dX8_settle_86 : decode cX8_settle 86 = .ok (.isub, 1) := by decide +kernel
theorem dX8_settle_87 : decode cX8_settle 87 = .ok (.iload 5, 2) := by decide +kernel
theorem dX8_settle_89 : decode cX8_settle 89 = .ok (.isub, 1) := by decide +kernel
theorem dX8_settle_90 : decode cX8_settle 90 = .ok (.invokevirtual 231, 3) := by decide +kernel
theorem dX8_settle_93 : decode cX8_settle 93 = .ok (.idiv, 1) := by decide +kernel
theorem dX8_settle_94 : decode cX8_settle 94 = .ok (.aload_n 0, 1) := by decide +kernel
theorem dX8_settle_95 : decode cX8_settle 95 = .ok (.getfield 167, 3) := by decide +kernel
theorem dX8_settle_98 : decode cX8_settle 98 = .ok (.iconst 1, 1) := by decide +kernel
theorem dX8_settle_99 : decode cX8_settle 99 = .ok (.iadd, 1) := by decide +kernel
theorem dX8_settle_100 : decode cX8_settle 100 = .ok (.irem, 1) := by decide +kernel
theorem dX8_settle_101 : decode cX8_settle 101 = .ok (.istore 6, 2) := by decide +kernel
theorem dX8_settle_103 : decode cX8_settle 103 = .ok (.aload_n 0, 1) := by decide +kernel
theorem dX8_settle_104 : decode cX8_settle 104 = .ok (.getfield 28, 3) := by decide +kernel
theorem dX8_settle_107 : decode cX8_settle 107 = .ok (.bipush 40, 2) := by decide +kernel
theorem dX8_settle_109 : decode cX8_settle 109 = .ok (.iload_n 2, 1) := by decide +kernel
theorem dX8_settle_110 : decode cX8_settle 110 = .ok (.imul, 1) := by decide +kernel
theorem dX8_settle_111 : decode cX8_settle 111 = .ok (.iload 5, 2) := by decide +kernel
theorem dX8_settle_113 : decode cX8_settle 113 = .ok (.iadd, 1) := by decide +kernel
theorem dX8_settle_114 : decode cX8_settle 114 = .ok (.iload 6, 2) := by decide +kernel
theorem dX8_settle_116 : decode cX8_settle 116 = .ok (.ifCond .ne 8, 3) := by decide +kernel
theorem dX8_settle_119 : decode cX8_settle 119 = .ok (.bipush (-9), 2) := by decide +kernel
theorem dX8_settle_121 : decode cX8_settle 121 = .ok (.goto 7, 3) := by decide +kernel
theorem dX8_settle_124 : decode cX8_settle 124 = .ok (.iload 6, 2) := by decide +kernel
theorem dX8_settle_126 : decode cX8_settle 126 = .ok (.iconst 1, 1) := by decide +kernel
theorem dX8_settle_127 : decode cX8_settle 127 = .ok (.isub, 1) := by decide +kernel
theorem dX8_settle_128 : decode cX8_settle 128 = .ok (.iastore, 1) := by decide +kernel
theorem dX8_settle_129 : decode cX8_settle 129 = .ok (.iinc 5 1, 3) := by decide +kernel
theorem dX8_settle_132 : decode cX8_settle 132 = .ok (.goto (-57), 3) := by decide +kernel
theorem dX8_settle_135 : decode cX8_settle 135 = .ok (.iload_n 3, 1) := by decide +kernel
theorem dX8_settle_136 : decode cX8_settle 136 = .ok (.ireturn, 1) := by decide +kernel
theorem dX8_settle_137 : decode cX8_settle 137 = .ok (.iinc 4 1, 3) := by decide +kernel
theorem dX8_settle_140 : decode cX8_settle 140 = .ok (.goto (-95), 3) := by decide +kernel
theorem dX8_settle_143 : decode cX8_settle 143 = .ok (.iinc 3 1, 3) := by decide +kernel
theorem dX8_settle_146 : decode cX8_settle 146 = .ok (.goto (-110), 3) := by decide +kernel
theorem dX8_settle_149 : decode cX8_settle 149 = .ok (.bipush (-9), 2) := by decide +kernel
theorem dX8_settle_151 : decode cX8_settle 151 = .ok (.ireturn, 1) := by decide +kernel
set_option maxRecDepth 20000 in
theorem ggX8_least_X8_isOne : GoodIn wsX8_least wsX8_isOne := goodIn_r _ [8, 9, 10, 11, 7, 12, 58, 59, 60, 61, 62, 63, 64, 65, 66, 67, 68, 69, 70, 71, 72, 73, 74, 75, 76, 77, 78, 79, 80, 81, 82, 83, 84, 85, 86, 87, 88, 89, 90] (by decide +kernel) (by decide +kernel)
set_option maxRecDepth 20000 in
theorem gX8_least_X8_isOne : GoodIn wsX8_least (wsV RX8 200 RX8 yX8_isOne wsX8_isOne) := goodIn_app (goodIn_of _ (by decide +kernel)) ggX8_least_X8_isOne
set_option maxRecDepth 20000 in
theorem ggX8_least_X8_in : GoodIn wsX8_least wsX8_in := goodIn_r _ [12] (by decide +kernel) (by decide +kernel)
set_option maxRecDepth 20000 in
theorem gX8_least_X8_in : GoodIn wsX8_least (va_wsS RX8 81 yX8_in wsX8_in) := goodIn_app (goodIn_of _ (by decide +kernel)) ggX8_least_X8_in
set_option maxRecDepth 20000 in
theorem ggX8_least_X8_isOver : GoodIn wsX8_least wsX8_isOver := goodIn_r _ [16, 3, 58, 59, 60, 61, 62, 63, 64, 65, 66, 67, 68, 69, 70, 71, 72, 73, 74, 75, 76, 77, 78, 79, 80, 81, 82, 83, 84, 85, 86, 87, 88, 89, 90] (by decide +kernel) (by decide +kernel)
set_option maxRecDepth 20000 in
theorem gX8_least_X8_isOver : GoodIn wsX8_least (wsV RX8 203 RX8 yX8_isOver wsX8_isOver) := goodIn_app (goodIn_of _ (by decide +kernel)) ggX8_least_X8_isOver
set_option maxRecDepth 20000 in
theorem ggX8_least_X8_power : GoodIn wsX8_least wsX8_power := goodIn_r _ [20, 2, 58, 59, 60, 61, 62, 63, 64, 65, 66, 67, 68, 69, 70, 71, 72, 73, 74, 75, 76, 77, 78, 79, 80, 81, 82, 83, 84, 85, 86, 87, 88, 89, 90] (by decide +kernel) (by decide +kernel)
set_option maxRecDepth 20000 in
theorem gX8_least_X8_power : GoodIn wsX8_least (wsV RX8 231 RX8 yX8_power wsX8_power) := goodIn_app (goodIn_of _ (by decide +kernel)) ggX8_least_X8_power
set_option maxRecDepth 20000 in
theorem ggX8_least_X8_settles : GoodIn wsX8_least wsX8_settles := goodIn_r _ [24, 3, 25, 26, 27, 7, 28, 2, 9, 29, 30, 31, 32, 17, 18, 19, 20, 33, 34, 35, 36, 37, 38, 39, 40, 41, 42, 43, 44, 45, 46, 47, 48, 49, 50, 51, 52, 53, 54, 55, 56, 57, 58, 59, 60, 61, 62, 63, 64, 65, 66, 67, 68, 69, 70, 71, 72, 73, 74, 75, 76, 77, 78, 79, 80, 81, 82, 83, 84, 85, 86, 87, 88, 89, 90] (by decide +kernel) (by decide +kernel)
set_option maxRecDepth 20000 in
theorem gX8_least_X8_settles : GoodIn wsX8_least (wsV RX8 237 RX8 yX8_settles wsX8_settles) := goodIn_app (goodIn_of _ (by decide +kernel)) ggX8_least_X8_settles
theorem dX8_least_0 : decode cX8_least 0 = .ok (.aload_n 0, 1) := by decide +kernel
theorem dX8_least_1 : decode cX8_least 1 = .ok (.iload_n 1, 1) := by decide +kernel
theorem dX8_least_2 : decode cX8_least 2 = .ok (.invokevirtual 200, 3) := by decide +kernel
theorem dX8_least_5 : decode cX8_least 5 = .ok (.ifCond .eq 15, 3) := by decide +kernel
theorem dX8_least_8 : decode cX8_least 8 = .ok (.iload_n 2, 1) := by decide +kernel
theorem dX8_least_9 : decode cX8_least 9 = .ok (.i2l, 1) := by decide +kernel
theorem dX8_least_10 : decode cX8_least 10 = .ok (.lconst 0, 1) := by decide +kernel
theorem dX8_least_11 : decode cX8_least 11 = .ok (.ldc2_w 79, 3) := by decide +kernel
theorem dX8_least_14 : decode cX8_least 14 = .ok (.invokestatic 81, 3) := by decide +kernel
theorem dX8_least_17 : decode cX8_least 17 = .ok (.ifCond .ne 5, 3) := by decide +kernel
theorem dX8_least_20 : decode cX8_least 20 = .ok (.iconst (-1), 1) := by decide +kernel
theorem dX8_least_21 : decode cX8_least 21 = .ok (.ireturn, 1) := by decide +kernel
theorem dX8_least_22 : decode cX8_least 22 = .ok (.aload_n 0, 1) := by decide +kernel
theorem dX8_least_23 : decode cX8_least 23 = .ok (.invokevirtual 203, 3) := by decide +kernel
theorem dX8_least_26 : decode cX8_least 26 = .ok (.ifCond .ne 10, 3) := by decide +kernel
theorem dX8_least_29 : decode cX8_least 29 = .ok (.aload_n 0, 1) := by decide +kernel
theorem dX8_least_30 : decode cX8_least 30 = .ok (.getfield 167, 3) := by decide +kernel
theorem dX8_least_33 : decode cX8_least 33 = .ok (.ifCond .ne 6, 3) := by decide +kernel
theorem dX8_least_36 : decode cX8_least 36 = .ok (.bipush (-4), 2) := by decide +kernel
theorem dX8_least_38 : decode cX8_least 38 = .ok (.ireturn, 1) := by decide +kernel
theorem dX8_least_39 : decode cX8_least 39 = .ok (.bipush (-9), 2) := by decide +kernel
theorem dX8_least_41 : decode cX8_least 41 = .ok (.istore_n 3, 1) := by decide +kernel
theorem dX8_least_42 : decode cX8_least 42 = .ok (.iconst 0, 1) := by decide +kernel
theorem dX8_least_43 : decode cX8_least 43 = .ok (.istore 4, 2) := by decide +kernel
theorem dX8_least_45 : decode cX8_least 45 = .ok (.iload 4, 2) := by decide +kernel
theorem dX8_least_47 : decode cX8_least 47 = .ok (.aload_n 0, 1) := by decide +kernel
theorem dX8_least_48 : decode cX8_least 48 = .ok (.iload_n 2, 1) := by decide +kernel
theorem dX8_least_49 : decode cX8_least 49 = .ok (.invokevirtual 231, 3) := by decide +kernel
theorem dX8_least_52 : decode cX8_least 52 = .ok (.if_icmp .ge 63, 3) := by decide +kernel
theorem dX8_least_55 : decode cX8_least 55 = .ok (.aload_n 0, 1) := by decide +kernel
theorem dX8_least_56 : decode cX8_least 56 = .ok (.iload_n 1, 1) := by decide +kernel
theorem dX8_least_57 : decode cX8_least 57 = .ok (.iload_n 2, 1) := by decide +kernel
theorem dX8_least_58 : decode cX8_least 58 = .ok (.iload 4, 2) := by decide +kernel
theorem dX8_least_60 : decode cX8_least 60 = .ok (.invokevirtual 237, 3) := by decide +kernel
theorem dX8_least_63 : decode cX8_least 63 = .ok (.ifCond .eq 25, 3) := by decide +kernel
theorem dX8_least_66 : decode cX8_least 66 = .ok (.iload_n 3, 1) := by decide +kernel
theorem dX8_least_67 : decode cX8_least 67 = .ok (.bipush (-9), 2) := by decide +kernel
theorem dX8_least_69 : decode cX8_least 69 = .ok (.if_icmp .eq 15, 3) := by decide +kernel
theorem dX8_least_72 : decode cX8_least 72 = .ok (.aload_n 0, 1) := by decide +kernel
theorem dX8_least_73 : decode cX8_least 73 = .ok (.getfield 7, 3) := by decide +kernel
theorem dX8_least_76 : decode cX8_least 76 = .ok (.sipush 1646, 3) := by decide +kernel
theorem dX8_least_79 : decode cX8_least 79 = .ok (.iaload, 1) := by decide +kernel
theorem dX8_least_80 : decode cX8_least 80 = .ok (.iload_n 3, 1) := by decide +kernel
theorem dX8_least_81 : decode cX8_least 81 = .ok (.if_icmp .ge 7, 3) := by decide +kernel
theorem dX8_least_84 : decode cX8_least 84 = .ok (.iconst 1, 1) := by decide +kernel
theorem dX8_least_85 : decode cX8_least 85 = .ok (.goto 4, 3) := by decide +kernel
theorem dX8_least_88 : decode cX8_least 88 = .ok (.iconst 0, 1) := by decide +kernel
theorem dX8_least_89 : decode cX8_least 89 = .ok (.istore 5, 2) := by decide +kernel
theorem dX8_least_91 : decode cX8_least 91 = .ok (.iload 5, 2) := by decide +kernel
theorem dX8_least_93 : decode cX8_least 93 = .ok (.ifCond .eq 14, 3) := by decide +kernel
theorem dX8_least_96 : decode cX8_least 96 = .ok (.aload_n 0, 1) := by decide +kernel
theorem dX8_least_97 : decode cX8_least 97 = .ok (.getfield 7, 3) := by decide +kernel
theorem dX8_least_100 : decode cX8_least 100 = .ok (.sipush 1646, 3) := by decide +kernel
theorem dX8_least_103 : decode cX8_least 103 = .ok (.iaload, 1) := by decide +kernel
theorem dX8_least_104 : decode cX8_least 104 = .ok (.goto 4, 3) := by decide +kernel
theorem dX8_least_107 : decode cX8_least 107 = .ok (.iload_n 3, 1) := by decide +kernel
theorem dX8_least_108 : decode cX8_least 108 = .ok (.istore_n 3, 1) := by decide +kernel
theorem dX8_least_109 : decode cX8_least 109 = .ok (.iinc 4 1, 3) := by decide +kernel
theorem dX8_least_112 : decode cX8_least 112 = .ok (.goto (-67), 3) := by decide +kernel
theorem dX8_least_115 : decode cX8_least 115 = .ok (.iload_n 3, 1) := by decide +kernel
theorem dX8_least_116 : decode cX8_least 116 = .ok (.ireturn, 1) := by decide +kernel
set_option maxRecDepth 20000 in
theorem ggX8_rows_X8_isOne : GoodIn wsX8_rows wsX8_isOne := goodIn_r _ [11, 12, 13, 14, 10, 15, 57, 58, 59, 60, 61, 62, 63, 64, 65, 66, 67, 68, 69, 70, 71, 72, 73, 74, 75, 76, 77, 78, 79, 80, 81, 82, 83, 84, 85, 86, 87, 88, 89] (by decide +kernel) (by decide +kernel)
set_option maxRecDepth 20000 in
theorem gX8_rows_X8_isOne : GoodIn wsX8_rows (wsV RX8 200 RX8 yX8_isOne wsX8_isOne) := goodIn_app (goodIn_of _ (by decide +kernel)) ggX8_rows_X8_isOne
set_option maxRecDepth 20000 in
theorem ggX8_rows_X8_in : GoodIn wsX8_rows wsX8_in := goodIn_r _ [15] (by decide +kernel) (by decide +kernel)
set_option maxRecDepth 20000 in
theorem gX8_rows_X8_in : GoodIn wsX8_rows (va_wsS RX8 81 yX8_in wsX8_in) := goodIn_app (goodIn_of _ (by decide +kernel)) ggX8_rows_X8_in
set_option maxRecDepth 20000 in
theorem ggX8_rows_X8_isOver : GoodIn wsX8_rows wsX8_isOver := goodIn_r _ [19, 6, 57, 58, 59, 60, 61, 62, 63, 64, 65, 66, 67, 68, 69, 70, 71, 72, 73, 74, 75, 76, 77, 78, 79, 80, 81, 82, 83, 84, 85, 86, 87, 88, 89] (by decide +kernel) (by decide +kernel)
set_option maxRecDepth 20000 in
theorem gX8_rows_X8_isOver : GoodIn wsX8_rows (wsV RX8 203 RX8 yX8_isOver wsX8_isOver) := goodIn_app (goodIn_of _ (by decide +kernel)) ggX8_rows_X8_isOver
set_option maxRecDepth 20000 in
theorem ggX8_rows_X8_power : GoodIn wsX8_rows wsX8_power := goodIn_r _ [23, 2, 57, 58, 59, 60, 61, 62, 63, 64, 65, 66, 67, 68, 69, 70, 71, 72, 73, 74, 75, 76, 77, 78, 79, 80, 81, 82, 83, 84, 85, 86, 87, 88, 89] (by decide +kernel) (by decide +kernel)
set_option maxRecDepth 20000 in
theorem gX8_rows_X8_power : GoodIn wsX8_rows (wsV RX8 231 RX8 yX8_power wsX8_power) := goodIn_app (goodIn_of _ (by decide +kernel)) ggX8_rows_X8_power
set_option maxRecDepth 20000 in
theorem ggX8_rows_X8_isWell : GoodIn wsX8_rows wsX8_isWell := goodIn_r _ [27, 2, 12, 6, 28, 29, 30, 10, 31, 20, 21, 22, 23, 32, 33, 34, 35, 36, 37, 38, 39, 40, 41, 42, 43, 44, 45, 46, 47, 48, 49, 50, 51, 52, 53, 54, 55, 56, 57, 58, 59, 60, 61, 62, 63, 64, 65, 66, 67, 68, 69, 70, 71, 72, 73, 74, 75, 76, 77, 78, 79, 80, 81, 82, 83, 84, 85, 86, 87, 88, 89] (by decide +kernel) (by decide +kernel)
set_option maxRecDepth 20000 in
theorem gX8_rows_X8_isWell : GoodIn wsX8_rows (wsV RX8 234 RX8 yX8_isWell wsX8_isWell) := goodIn_app (goodIn_of _ (by decide +kernel)) ggX8_rows_X8_isWell
theorem dX8_rows_0 : decode cX8_rows 0 = .ok (.aload_n 0, 1) := by decide +kernel
theorem dX8_rows_1 : decode cX8_rows 1 = .ok (.iload_n 1, 1) := by decide +kernel
theorem dX8_rows_2 : decode cX8_rows 2 = .ok (.invokevirtual 200, 3) := by decide +kernel
theorem dX8_rows_5 : decode cX8_rows 5 = .ok (.ifCond .eq 15, 3) := by decide +kernel
theorem dX8_rows_8 : decode cX8_rows 8 = .ok (.iload_n 2, 1) := by decide +kernel
theorem dX8_rows_9 : decode cX8_rows 9 = .ok (.i2l, 1) := by decide +kernel
theorem dX8_rows_10 : decode cX8_rows 10 = .ok (.lconst 0, 1) := by decide +kernel
theorem dX8_rows_11 : decode cX8_rows 11 = .ok (.ldc2_w 79, 3) := by decide +kernel
theorem dX8_rows_14 : decode cX8_rows 14 = .ok (.invokestatic 81, 3) := by decide +kernel
theorem dX8_rows_17 : decode cX8_rows 17 = .ok (.ifCond .ne 5, 3) := by decide +kernel
theorem dX8_rows_20 : decode cX8_rows 20 = .ok (.iconst (-1), 1) := by decide +kernel
theorem dX8_rows_21 : decode cX8_rows 21 = .ok (.ireturn, 1) := by decide +kernel
theorem dX8_rows_22 : decode cX8_rows 22 = .ok (.aload_n 0, 1) := by decide +kernel
theorem dX8_rows_23 : decode cX8_rows 23 = .ok (.invokevirtual 203, 3) := by decide +kernel
theorem dX8_rows_26 : decode cX8_rows 26 = .ok (.ifCond .ne 10, 3) := by decide +kernel
theorem dX8_rows_29 : decode cX8_rows 29 = .ok (.aload_n 0, 1) := by decide +kernel
theorem dX8_rows_30 : decode cX8_rows 30 = .ok (.getfield 167, 3) := by decide +kernel
theorem dX8_rows_33 : decode cX8_rows 33 = .ok (.ifCond .ne 6, 3) := by decide +kernel
theorem dX8_rows_36 : decode cX8_rows 36 = .ok (.bipush (-4), 2) := by decide +kernel
theorem dX8_rows_38 : decode cX8_rows 38 = .ok (.ireturn, 1) := by decide +kernel
theorem dX8_rows_39 : decode cX8_rows 39 = .ok (.aload_n 0, 1) := by decide +kernel
theorem dX8_rows_40 : decode cX8_rows 40 = .ok (.lconst 0, 1) := by decide +kernel
theorem dX8_rows_41 : decode cX8_rows 41 = .ok (.putfield 240, 3) := by decide +kernel
theorem dX8_rows_44 : decode cX8_rows 44 = .ok (.aload_n 0, 1) := by decide +kernel
theorem dX8_rows_45 : decode cX8_rows 45 = .ok (.lconst 1, 1) := by decide +kernel
theorem dX8_rows_46 : decode cX8_rows 46 = .ok (.putfield 37, 3) := by decide +kernel
theorem dX8_rows_49 : decode cX8_rows 49 = .ok (.aload_n 0, 1) := by decide +kernel
theorem dX8_rows_50 : decode cX8_rows 50 = .ok (.iconst 0, 1) := by decide +kernel
theorem dX8_rows_51 : decode cX8_rows 51 = .ok (.putfield 76, 3) := by decide +kernel
theorem dX8_rows_54 : decode cX8_rows 54 = .ok (.iconst 0, 1) := by decide +kernel
theorem dX8_rows_55 : decode cX8_rows 55 = .ok (.istore_n 3, 1) := by decide +kernel
theorem dX8_rows_56 : decode cX8_rows 56 = .ok (.iload_n 3, 1) := by decide +kernel
theorem dX8_rows_57 : decode cX8_rows 57 = .ok (.aload_n 0, 1) := by decide +kernel
theorem dX8_rows_58 : decode cX8_rows 58 = .ok (.iload_n 2, 1) := by decide +kernel
theorem dX8_rows_59 : decode cX8_rows 59 = .ok (.invokevirtual 231, 3) := by decide +kernel
theorem dX8_rows_62 : decode cX8_rows 62 = .ok (.if_icmp .ge 46, 3) := by decide +kernel
theorem dX8_rows_65 : decode cX8_rows 65 = .ok (.aload_n 0, 1) := by decide +kernel
theorem dX8_rows_66 : decode cX8_rows 66 = .ok (.iload_n 1, 1) := by decide +kernel
theorem dX8_rows_67 : decode cX8_rows 67 = .ok (.iload_n 2, 1) := by decide +kernel
theorem dX8_rows_68 : decode cX8_rows 68 = .ok (.iload_n 3, 1) := by decide +kernel
theorem dX8_rows_69 : decode cX8_rows 69 = .ok (.invokevirtual 234, 3) := by decide +kernel
theorem dX8_rows_72 : decode cX8_rows 72 = .ok (.ifCond .eq 30, 3) := by decide +kernel
theorem dX8_rows_75 : decode cX8_rows 75 = .ok (.aload_n 0, 1) := by decide +kernel
theorem dX8_rows_76 : decode cX8_rows 76 = .ok (.dup, 1) := by decide +kernel
theorem dX8_rows_77 : decode cX8_rows 77 = .ok (.getfield 240, 3) := by decide +kernel
theorem dX8_rows_80 : decode cX8_rows 80 = .ok (.lconst 1, 1) := by decide +kernel
theorem dX8_rows_81 : decode cX8_rows 81 = .ok (.ladd, 1) := by decide +kernel
theorem dX8_rows_82 : decode cX8_rows 82 = .ok (.putfield 240, 3) := by decide +kernel
theorem dX8_rows_85 : decode cX8_rows 85 = .ok (.aload_n 0, 1) := by decide +kernel
theorem dX8_rows_86 : decode cX8_rows 86 = .ok (.dup, 1) := by decide +kernel
theorem dX8_rows_87 : decode cX8_rows 87 = .ok (.getfield 76, 3) := by decide +kernel
theorem dX8_rows_90 : decode cX8_rows 90 = .ok (.aload_n 0, 1) := by decide +kernel
theorem dX8_rows_91 : decode cX8_rows 91 = .ok (.getfield 7, 3) := by decide +kernel
theorem dX8_rows_94 : decode cX8_rows 94 = .ok (.sipush 1647, 3) := by decide +kernel
theorem dX8_rows_97 : decode cX8_rows 97 = .ok (.iaload, 1) := by decide +kernel
theorem dX8_rows_98 : decode cX8_rows 98 = .ok (.ior, 1) := by decide +kernel
theorem dX8_rows_99 : decode cX8_rows 99 = .ok (.putfield 76, 3) := by decide +kernel
theorem dX8_rows_102 : decode cX8_rows 102 = .ok (.iinc 3 1, 3) := by decide +kernel
theorem dX8_rows_105 : decode cX8_rows 105 = .ok (.goto (-49), 3) := by decide +kernel
theorem dX8_rows_108 : decode cX8_rows 108 = .ok (.iconst 1, 1) := by decide +kernel
theorem dX8_rows_109 : decode cX8_rows 109 = .ok (.ireturn, 1) := by decide +kernel
set_option maxRecDepth 20000 in
theorem ggX8_isRoom_X8_in : GoodIn wsX8_isRoom wsX8_in := goodIn_r _ [5] (by decide +kernel) (by decide +kernel)
set_option maxRecDepth 20000 in
theorem gX8_isRoom_X8_in : GoodIn wsX8_isRoom (va_wsS RX8 81 yX8_in wsX8_in) := goodIn_app (goodIn_of _ (by decide +kernel)) ggX8_isRoom_X8_in
theorem dX8_isRoom_0 : decode cX8_isRoom 0 = .ok (.iload_n 0, 1) := by decide +kernel
theorem dX8_isRoom_1 : decode cX8_isRoom 1 = .ok (.i2l, 1) := by decide +kernel
theorem dX8_isRoom_2 : decode cX8_isRoom 2 = .ok (.lconst 0, 1) := by decide +kernel
theorem dX8_isRoom_3 : decode cX8_isRoom 3 = .ok (.ldc2_w 243, 3) := by decide +kernel
theorem dX8_isRoom_6 : decode cX8_isRoom 6 = .ok (.invokestatic 81, 3) := by decide +kernel
theorem dX8_isRoom_9 : decode cX8_isRoom 9 = .ok (.ireturn, 1) := by decide +kernel
theorem dX8_areBeside_0 : decode cX8_areBeside 0 = .ok (.iload_n 0, 1) := by decide +kernel
theorem dX8_areBeside_1 : decode cX8_areBeside 1 = .ok (.iconst 4, 1) := by decide +kernel
theorem dX8_areBeside_2 : decode cX8_areBeside 2 = .ok (.idiv, 1) := by decide +kernel
theorem dX8_areBeside_3 : decode cX8_areBeside 3 = .ok (.iload_n 1, 1) := by decide +kernel
theorem dX8_areBeside_4 : decode cX8_areBeside 4 = .ok (.iconst 4, 1) := by decide +kernel
theorem dX8_areBeside_5 : decode cX8_areBeside 5 = .ok (.idiv, 1) := by decide +kernel
theorem dX8_areBeside_6 : decode cX8_areBeside 6 = .ok (.isub, 1) := by decide +kernel
theorem dX8_areBeside_7 : decode cX8_areBeside 7 = .ok (.istore_n 2, 1) := by decide +kernel
theorem dX8_areBeside_8 : decode cX8_areBeside 8 = .ok (.iload_n 0, 1) := by decide +kernel
theorem dX8_areBeside_9 : decode cX8_areBeside 9 = .ok (.iconst 4, 1) := by decide +kernel
theorem dX8_areBeside_10 : decode cX8_areBeside 10 = .ok (.irem, 1) := by decide +kernel
theorem dX8_areBeside_11 : decode cX8_areBeside 11 = .ok (.iload_n 1, 1) := by decide +kernel
theorem dX8_areBeside_12 : decode cX8_areBeside 12 = .ok (.iconst 4, 1) := by decide +kernel
theorem dX8_areBeside_13 : decode cX8_areBeside 13 = .ok (.irem, 1) := by decide +kernel
theorem dX8_areBeside_14 : decode cX8_areBeside 14 = .ok (.isub, 1) := by decide +kernel
theorem dX8_areBeside_15 : decode cX8_areBeside 15 = .ok (.istore_n 3, 1) := by decide +kernel
theorem dX8_areBeside_16 : decode cX8_areBeside 16 = .ok (.iload_n 2, 1) := by decide +kernel
theorem dX8_areBeside_17 : decode cX8_areBeside 17 = .ok (.iload_n 2, 1) := by decide +kernel
theorem dX8_areBeside_18 : decode cX8_areBeside 18 = .ok (.imul, 1) := by decide +kernel
theorem dX8_areBeside_19 : decode cX8_areBeside 19 = .ok (.iload_n 3, 1) := by decide +kernel
theorem dX8_areBeside_20 : decode cX8_areBeside 20 = .ok (.iload_n 3, 1) := by decide +kernel
theorem dX8_areBeside_21 : decode cX8_areBeside 21 = .ok (.imul, 1) := by decide +kernel
theorem dX8_areBeside_22 : decode cX8_areBeside 22 = .ok (.iadd, 1) := by decide +kernel
theorem dX8_areBeside_23 : decode cX8_areBeside 23 = .ok (.iconst 1, 1) := by decide +kernel
theorem dX8_areBeside_24 : decode cX8_areBeside 24 = .ok (.if_icmp .ne 7, 3) := by decide +kernel
theorem dX8_areBeside_27 : decode cX8_areBeside 27 = .ok (.iconst 1, 1) := by decide +kernel
theorem dX8_areBeside_28 : decode cX8_areBeside 28 = .ok (.goto 4, 3) := by decide +kernel
theorem dX8_areBeside_31 : decode cX8_areBeside 31 = .ok (.iconst 0, 1) := by decide +kernel
theorem dX8_areBeside_32 : decode cX8_areBeside 32 = .ok (.ireturn, 1) := by decide +kernel
set_option maxRecDepth 20000 in
theorem ggX8_wayBut_X8_has : GoodIn wsX8_wayBut wsX8_has := goodIn_r _ [5] (by decide +kernel) (by decide +kernel)
set_option maxRecDepth 20000 in
theorem gX8_wayBut_X8_has : GoodIn wsX8_wayBut (va_wsS RX8 148 yX8_has wsX8_has) := goodIn_app (goodIn_of _ (by decide +kernel)) ggX8_wayBut_X8_has
set_option maxRecDepth 20000 in
theorem ggX8_wayBut_X8_areBeside : GoodIn wsX8_wayBut wsX8_areBeside := goodIn_r _ [8] (by decide +kernel) (by decide +kernel)
set_option maxRecDepth 20000 in
theorem gX8_wayBut_X8_areBeside : GoodIn wsX8_wayBut (va_wsS RX8 245 yX8_areBeside wsX8_areBeside) := goodIn_app (goodIn_of _ (by decide +kernel)) ggX8_wayBut_X8_areBeside
theorem dX8_wayBut_0 : decode cX8_wayBut 0 = .ok (.iconst 0, 1) := by decide +kernel
theorem dX8_wayBut_1 : decode cX8_wayBut 1 = .ok (.istore 4, 2) := by decide +kernel
theorem dX8_wayBut_3 : decode cX8_wayBut 3 = .ok (.iload 4, 2) := by decide +kernel
theorem dX8_wayBut_5 : decode cX8_wayBut 5 = .ok (.bipush 12, 2) := by decide +kernel
theorem dX8_wayBut_7 : decode cX8_wayBut 7 = .ok (.if_icmp .ge 36, 3) := by decide +kernel
theorem dX8_wayBut_10 : decode cX8_wayBut 10 = .ok (.aload_n 0, 1) := by decide +kernel
theorem dX8_wayBut_11 : decode cX8_wayBut 11 = .ok (.getfield 50, 3) := by decide +kernel
theorem dX8_wayBut_14 : decode cX8_wayBut 14 = .ok (.iload 4, 2) := by decide +kernel
theorem dX8_wayBut_16 : decode cX8_wayBut 16 = .ok (.iload 4, 2) := by decide +kernel
theorem dX8_wayBut_18 : decode cX8_wayBut 18 = .ok (.iload_n 1, 1) := by decide +kernel
theorem dX8_wayBut_19 : decode cX8_wayBut 19 = .ok (.if_icmp .ne 15, 3) := by decide +kernel
theorem dX8_wayBut_22 : decode cX8_wayBut 22 = .ok (.iload_n 3, 1) := by decide +kernel
theorem dX8_wayBut_23 : decode cX8_wayBut 23 = .ok (.iload_n 1, 1) := by decide +kernel
theorem dX8_wayBut_24 : decode cX8_wayBut 24 = .ok (.invokestatic 148, 3) := by decide +kernel
theorem dX8_wayBut_27 : decode cX8_wayBut 27 = .ok (.ifCond .ne 7, 3) := by decide +kernel
theorem dX8_wayBut_30 : decode cX8_wayBut 30 = .ok (.iconst 0, 1) := by decide +kernel
theorem dX8_wayBut_31 : decode cX8_wayBut 31 = .ok (.goto 5, 3) := by decide +kernel
theorem dX8_wayBut_34 : decode cX8_wayBut 34 = .ok (.bipush (-9), 2) := by decide +kernel
theorem dX8_wayBut_36 : decode cX8_wayBut 36 = .ok (.iastore, 1) := by decide +kernel
theorem dX8_wayBut_37 : decode cX8_wayBut 37 = .ok (.iinc 4 1, 3) := by decide +kernel
theorem dX8_wayBut_40 : decode cX8_wayBut 40 = .ok (.goto (-37), 3) := by decide +kernel
theorem dX8_wayBut_43 : decode cX8_wayBut 43 = .ok (.iconst 0, 1) := by decide +kernel
theorem dX8_wayBut_44 : decode cX8_wayBut 44 = .ok (.istore 4, 2) := by decide +kernel
theorem dX8_wayBut_46 : decode cX8_wayBut 46 = .ok (.iload 4, 2) := by decide +kernel
theorem dX8_wayBut_48 : decode cX8_wayBut 48 = .ok (.bipush 12, 2) := by decide +kernel
theorem dX8_wayBut_50 : decode cX8_wayBut 50 = .ok (.if_icmp .ge 94, 3) := by decide +kernel
theorem dX8_wayBut_53 : decode cX8_wayBut 53 = .ok (.iconst 0, 1) := by decide +kernel
theorem dX8_wayBut_54 : decode cX8_wayBut 54 = .ok (.istore 5, 2) := by decide +kernel
theorem dX8_wayBut_56 : decode cX8_wayBut 56 = .ok (.iload 5, 2) := by decide +kernel
theorem dX8_wayBut_58 : decode cX8_wayBut 58 = .ok (.sipush 144, 3) := by decide +kernel
theorem dX8_wayBut_61 : decode cX8_wayBut 61 = .ok (.if_icmp .ge 77, 3) := by decide +kernel
theorem dX8_wayBut_64 : decode cX8_wayBut 64 = .ok (.iload 5, 2) := by decide +kernel
theorem dX8_wayBut_66 : decode cX8_wayBut 66 = .ok (.bipush 12, 2) := by decide +kernel
theorem dX8_wayBut_68 : decode cX8_wayBut 68 = .ok (.idiv, 1) := by decide +kernel
theorem dX8_wayBut_69 : decode cX8_wayBut 69 = .ok (.istore 6, 2) := by decide +kernel
theorem dX8_wayBut_71 : decode cX8_wayBut 71 = .ok (.iload 5, 2) := by decide +kernel
theorem dX8_wayBut_73 : decode cX8_wayBut 73 = .ok (.bipush 12, 2) := by decide +kernel
theorem dX8_wayBut_75 : decode cX8_wayBut 75 = .ok (.irem, 1) := by decide +kernel
theorem dX8_wayBut_76 : decode cX8_wayBut 76 = .ok (.istore 7, 2) := by decide +kernel
theorem dX8_wayBut_78 : decode cX8_wayBut 78 = .ok (.aload_n 0, 1) := by decide +kernel
theorem dX8_wayBut_79 : decode cX8_wayBut 79 = .ok (.getfield 50, 3) := by decide +kernel
theorem dX8_wayBut_82 : decode cX8_wayBut 82 = .ok (.iload 6, 2) := by decide +kernel
theorem dX8_wayBut_84 : decode cX8_wayBut 84 = .ok (.iaload, 1) := by decide +kernel
theorem dX8_wayBut_85 : decode cX8_wayBut 85 = .ok (.iload 4, 2) := by decide +kernel
theorem dX8_wayBut_87 : decode cX8_wayBut 87 = .ok (.if_icmp .ne 45, 3) := by decide +kernel
theorem dX8_wayBut_90 : decode cX8_wayBut 90 = .ok (.aload_n 0, 1) := by decide +kernel
theorem dX8_wayBut_91 : decode cX8_wayBut 91 = .ok (.getfield 50, 3) := by decide +kernel
theorem dX8_wayBut_94 : decode cX8_wayBut 94 = .ok (.iload 7, 2) := by decide +kernel
theorem dX8_wayBut_96 : decode cX8_wayBut 96 = .ok (.iaload, 1) := by decide +kernel
theorem dX8_wayBut_97 : decode cX8_wayBut 97 = .ok (.bipush (-9), 2) := by decide +kernel
theorem dX8_wayBut_99 : decode cX8_wayBut 99 = .ok (.if_icmp .ne 33, 3) := by decide +kernel
theorem dX8_wayBut_102 : decode cX8_wayBut 102 = .ok (.iload 6, 2) := by decide +kernel
theorem dX8_wayBut_104 : decode cX8_wayBut 104 = .ok (.iload 7, 2) := by decide +kernel
theorem dX8_wayBut_106 : decode cX8_wayBut 106 = .ok (.invokestatic 245, 3) := by decide +kernel
theorem dX8_wayBut_109 : decode cX8_wayBut 109 = .ok (.ifCond .eq 23, 3) := by decide +kernel
theorem dX8_wayBut_112 : decode cX8_wayBut 112 = .ok (.iload_n 3, 1) := by decide +kernel
theorem dX8_wayBut_113 : decode cX8_wayBut 113 = .ok (.iload 7, 2) := by decide +kernel
theorem dX8_wayBut_115 : decode cX8_wayBut 115 = .ok (.invokestatic 148, 3) := by decide +kernel
theorem dX8_wayBut_118 : decode cX8_wayBut 118 = .ok (.ifCond .ne 14, 3) := by decide +kernel
theorem dX8_wayBut_121 : decode cX8_wayBut 121 = .ok (.aload_n 0, 1) := by decide +kernel
theorem dX8_wayBut_122 : decode cX8_wayBut 122 = .ok (.getfield 50, 3) := by decide +kernel
theorem dX8_wayBut_125 : decode cX8_wayBut 125 = .ok (.iload 7, 2) := by decide +kernel
theorem dX8_wayBut_127 : decode cX8_wayBut 127 = .ok (.iload 4, 2) := by decide +kernel
theorem dX8_wayBut_129 : decode cX8_wayBut 129 = .ok (.iconst 1, 1) := by decide +kernel
theorem dX8_wayBut_130 : decode cX8_wayBut 130 = .ok (.iadd, 1) := by decide +kernel
theorem dX8_wayBut_131 : decode cX8_wayBut 131 = .ok (.iastore, 1) := by decide +kernel
theorem dX8_wayBut_132 : decode cX8_wayBut 132 = .ok (.iinc 5 1, 3) := by decide +kernel
theorem dX8_wayBut_135 : decode cX8_wayBut 135 = .ok (.goto (-79), 3) := by decide +kernel
theorem dX8_wayBut_138 : decode cX8_wayBut 138 = .ok (.iinc 4 1, 3) := by decide +kernel
theorem dX8_wayBut_141 : decode cX8_wayBut 141 = .ok (.goto (-95), 3) := by decide +kernel
theorem dX8_wayBut_144 : decode cX8_wayBut 144 = .ok (.aload_n 0, 1) := by decide +kernel
theorem dX8_wayBut_145 : decode cX8_wayBut 145 = .ok (.getfield 50, 3) := by decide +kernel
theorem dX8_wayBut_148 : decode cX8_wayBut 148 = .ok (.iload_n 2, 1) := by decide +kernel
theorem dX8_wayBut_149 : decode cX8_wayBut 149 = .ok (.iaload, 1) := by decide +kernel
theorem dX8_wayBut_150 : decode cX8_wayBut 150 = .ok (.ireturn, 1) := by decide +kernel
theorem dX8_stuck_0 : decode cX8_stuck 0 = .ok (.aload_n 0, 1) := by decide +kernel
theorem dX8_stuck_1 : decode cX8_stuck 1 = .ok (.getfield 170, 3) := by decide +kernel
theorem dX8_stuck_4 : decode cX8_stuck 4 = .ok (.ireturn, 1) := by decide +kernel
set_option maxRecDepth 20000 in
theorem ggX8_way_X8_isRoom : GoodIn wsX8_way wsX8_isRoom := goodIn_r _ [5, 6, 7, 8, 4, 9] (by decide +kernel) (by decide +kernel)
set_option maxRecDepth 20000 in
theorem gX8_way_X8_isRoom : GoodIn wsX8_way (va_wsS RX8 248 yX8_isRoom wsX8_isRoom) := goodIn_app (goodIn_of _ (by decide +kernel)) ggX8_way_X8_isRoom
set_option maxRecDepth 20000 in
theorem ggX8_way_X8_wayBut : GoodIn wsX8_way wsX8_wayBut := goodIn_r _ [13, 14, 15, 16, 4, 17, 18, 19, 20, 21, 22, 23, 24, 25, 26, 27, 28, 29, 30, 31, 32, 33, 34, 35, 36, 37, 38, 39, 40, 41, 42, 43, 44, 45, 46, 47, 48, 49, 50, 51, 52, 53] (by decide +kernel) (by decide +kernel)
set_option maxRecDepth 20000 in
theorem gX8_way_X8_wayBut : GoodIn wsX8_way (wsV RX8 251 RX8 yX8_wayBut wsX8_wayBut) := goodIn_app (goodIn_of _ (by decide +kernel)) ggX8_way_X8_wayBut
theorem dX8_way_0 : decode cX8_way 0 = .ok (.iload_n 1, 1) := by decide +kernel
theorem dX8_way_1 : decode cX8_way 1 = .ok (.invokestatic 248, 3) := by decide +kernel
theorem dX8_way_4 : decode cX8_way 4 = .ok (.ifCond .eq 23, 3) := by decide +kernel
theorem dX8_way_7 : decode cX8_way 7 = .ok (.iload_n 2, 1) := by decide +kernel
theorem dX8_way_8 : decode cX8_way 8 = .ok (.invokestatic 248, 3) := by decide +kernel
theorem dX8_way_11 : decode cX8_way 11 = .ok (.ifCond .eq 16, 3) := by decide +kernel
theorem dX8_way_14 : decode cX8_way 14 = .ok (.aload_n 0, 1) := by decide +kernel
theorem dX8_way_15 : decode cX8_way 15 = .ok (.iload_n 1, 1) := by decide +kernel
theorem dX8_way_16 : decode cX8_way 16 = .ok (.iload_n 2, 1) := by decide +kernel
theorem dX8_way_17 : decode cX8_way 17 = .ok (.aload_n 0, 1) := by decide +kernel
theorem dX8_way_18 : decode cX8_way 18 = .ok (.getfield 170, 3) := by decide +kernel
theorem dX8_way_21 : decode cX8_way 21 = .ok (.invokevirtual 251, 3) := by decide +kernel
theorem dX8_way_24 : decode cX8_way 24 = .ok (.goto 4, 3) := by decide +kernel
theorem dX8_way_27 : decode cX8_way 27 = .ok (.iconst (-1), 1) := by decide +kernel
theorem dX8_way_28 : decode cX8_way 28 = .ok (.ireturn, 1) := by decide +kernel
set_option maxRecDepth 20000 in
theorem ggX8_cuts_X8_isRoom : GoodIn wsX8_cuts wsX8_isRoom := goodIn_r _ [5, 6, 7, 8, 4, 9] (by decide +kernel) (by decide +kernel)
set_option maxRecDepth 20000 in
theorem gX8_cuts_X8_isRoom : GoodIn wsX8_cuts (va_wsS RX8 248 yX8_isRoom wsX8_isRoom) := goodIn_app (goodIn_of _ (by decide +kernel)) ggX8_cuts_X8_isRoom
set_option maxRecDepth 20000 in
theorem ggX8_cuts_X8_wayBut : GoodIn wsX8_cuts wsX8_wayBut := goodIn_r _ [13, 14, 15, 16, 4, 17, 18, 19, 20, 21, 22, 23, 24, 25, 26, 27, 28, 29, 30, 31, 32, 33, 34, 35, 36, 37, 38, 39, 40, 41, 42, 43, 44, 45, 46, 47, 48, 49, 50, 51, 52, 53] (by decide +kernel) (by decide +kernel)
set_option maxRecDepth 20000 in
theorem gX8_cuts_X8_wayBut : GoodIn wsX8_cuts (wsV RX8 251 RX8 yX8_wayBut wsX8_wayBut) := goodIn_app (goodIn_of _ (by decide +kernel)) ggX8_cuts_X8_wayBut
theorem dX8_cuts_0 : decode cX8_cuts 0 = .ok (.iload_n 1, 1) := by decide +kernel
theorem dX8_cuts_1 : decode cX8_cuts 1 = .ok (.invokestatic 248, 3) := by decide +kernel
theorem dX8_cuts_4 : decode cX8_cuts 4 = .ok (.ifCond .eq 10, 3) := by decide +kernel
theorem dX8_cuts_7 : decode cX8_cuts 7 = .ok (.iload_n 2, 1) := by decide +kernel
theorem dX8_cuts_8 : decode cX8_cuts 8 = .ok (.invokestatic 248, 3) := by decide +kernel
theorem dX8_cuts_11 : decode cX8_cuts 11 = .ok (.ifCond .ne 5, 3) := by decide +kernel
theorem dX8_cuts_14 : decode cX8_cuts 14 = .ok (.iconst (-1), 1) := by decide +kernel
theorem dX8_cuts_15 : decode cX8_cuts 15 = .ok (.ireturn, 1) := by decide +kernel
theorem dX8_cuts_16 : decode cX8_cuts 16 = .ok (.aload_n 0, 1) := by decide +kernel
theorem dX8_cuts_17 : decode cX8_cuts 17 = .ok (.iload_n 1, 1) := by decide +kernel
theorem dX8_cuts_18 : decode cX8_cuts 18 = .ok (.iload_n 2, 1) := by decide +kernel
theorem dX8_cuts_19 : decode cX8_cuts 19 = .ok (.aload_n 0, 1) := by decide +kernel
theorem dX8_cuts_20 : decode cX8_cuts 20 = .ok (.getfield 170, 3) := by decide +kernel
theorem dX8_cuts_23 : decode cX8_cuts 23 = .ok (.invokevirtual 251, 3) := by decide +kernel
theorem dX8_cuts_26 : decode cX8_cuts 26 = .ok (.bipush (-9), 2) := by decide +kernel
theorem dX8_cuts_28 : decode cX8_cuts 28 = .ok (.if_icmp .ne 5, 3) := by decide +kernel
theorem dX8_cuts_31 : decode cX8_cuts 31 = .ok (.iconst 0, 1) := by decide +kernel
theorem dX8_cuts_32 : decode cX8_cuts 32 = .ok (.ireturn, 1) := by decide +kernel
theorem dX8_cuts_33 : decode cX8_cuts 33 = .ok (.iconst 0, 1) := by decide +kernel
theorem dX8_cuts_34 : decode cX8_cuts 34 = .ok (.istore_n 3, 1) := by decide +kernel
theorem dX8_cuts_35 : decode cX8_cuts 35 = .ok (.iconst 0, 1) := by decide +kernel
theorem dX8_cuts_36 : decode cX8_cuts 36 = .ok (.istore 4, 2) := by decide +kernel
theorem dX8_cuts_38 : decode cX8_cuts 38 = .ok (.iload 4, 2) := by decide +kernel
theorem dX8_cuts_40 : decode cX8_cuts 40 = .ok (.bipush 12, 2) := by decide +kernel
theorem dX8_cuts_42 : decode cX8_cuts 42 = .ok (.if_icmp .ge 40, 3) := by decide +kernel
theorem dX8_cuts_45 : decode cX8_cuts 45 = .ok (.iload_n 3, 1) := by decide +kernel
theorem dX8_cuts_46 : decode cX8_cuts 46 = .ok (.aload_n 0, 1) := by decide +kernel
theorem dX8_cuts_47 : decode cX8_cuts 47 = .ok (.iload_n 1, 1) := by decide +kernel
theorem dX8_cuts_48 : decode cX8_cuts 48 = .ok (.iload_n 2, 1) := by decide +kernel
theorem dX8_cuts_49 : decode cX8_cuts 49 = .ok (.aload_n 0, 1) := by decide +kernel
theorem dX8_cuts_50 : decode cX8_cuts 50 = .ok (.getfield 170, 3) := by decide +kernel
theorem dX8_cuts_53 : decode cX8_cuts 53 = .ok (.iconst 1, 1) := by decide +kernel
theorem dX8_cuts_54 : decode cX8_cuts 54 = .ok (.iload 4, 2) := by decide +kernel
theorem dX8_cuts_56 : decode cX8_cuts 56 = .ok (.ishl, 1) := by decide +kernel
theorem dX8_cuts_57 : decode cX8_cuts 57 = .ok (.ior, 1) := by decide +kernel
theorem dX8_cuts_58 : decode cX8_cuts 58 = .ok (.invokevirtual 251, 3) := by decide +kernel
theorem dX8_cuts_61 : decode cX8_cuts 61 = .ok (.bipush (-9), 2) := by decide +kernel
theorem dX8_cuts_63 : decode cX8_cuts 63 = .ok (.if_icmp .ne 10, 3) := by decide +kernel
theorem dX8_cuts_66 : decode cX8_cuts 66 = .ok (.iconst 1, 1) := by decide +kernel
theorem dX8_cuts_67 : decode cX8_cuts 67 = .ok (.iload 4, 2) := by decide +kernel
theorem dX8_cuts_69 : decode cX8_cuts 69 = .ok (.ishl, 1) := by decide +kernel
theorem dX8_cuts_70 : decode cX8_cuts 70 = .ok (.goto 4, 3) := by decide +kernel
theorem dX8_cuts_73 : decode cX8_cuts 73 = .ok (.iconst 0, 1) := by decide +kernel
theorem dX8_cuts_74 : decode cX8_cuts 74 = .ok (.ior, 1) := by decide +kernel
theorem dX8_cuts_75 : decode cX8_cuts 75 = .ok (.istore_n 3, 1) := by decide +kernel
theorem dX8_cuts_76 : decode cX8_cuts 76 = .ok (.iinc 4 1, 3) := by decide +kernel
theorem dX8_cuts_79 : decode cX8_cuts 79 = .ok (.goto (-41), 3) := by decide +kernel
theorem dX8_cuts_82 : decode cX8_cuts 82 = .ok (.iload_n 3, 1) := by decide +kernel
theorem dX8_cuts_83 : decode cX8_cuts 83 = .ok (.aload_n 0, 1) := by decide +kernel
theorem dX8_cuts_84 : decode cX8_cuts 84 = .ok (.getfield 170, 3) := by decide +kernel
theorem dX8_cuts_87 : decode cX8_cuts 87 = .ok (.iconst (-1), 1) := by decide +kernel
theorem dX8_cuts_88 : decode cX8_cuts 88 = .ok (.ixor, 1) := by decide +kernel
theorem dX8_cuts_89 : decode cX8_cuts 89 = .ok (.iand, 1) := by decide +kernel
theorem dX8_cuts_90 : decode cX8_cuts 90 = .ok (.ireturn, 1) := by decide +kernel
set_option maxRecDepth 20000 in
theorem ggX8_round_X8_isRoom : GoodIn wsX8_round wsX8_isRoom := goodIn_r _ [5, 6, 7, 8, 4, 9] (by decide +kernel) (by decide +kernel)
set_option maxRecDepth 20000 in
theorem gX8_round_X8_isRoom : GoodIn wsX8_round (va_wsS RX8 248 yX8_isRoom wsX8_isRoom) := goodIn_app (goodIn_of _ (by decide +kernel)) ggX8_round_X8_isRoom
set_option maxRecDepth 20000 in
theorem ggX8_round_X8_wayBut : GoodIn wsX8_round wsX8_wayBut := goodIn_r _ [13, 14, 15, 16, 4, 17, 18, 19, 20, 21, 22, 23, 24, 25, 26, 27, 28, 29, 30, 31, 32, 33, 34, 35, 36, 37, 38, 39, 40, 41, 42, 43, 44, 45, 46, 47, 48, 49, 50, 51, 52, 53] (by decide +kernel) (by decide +kernel)
set_option maxRecDepth 20000 in
theorem gX8_round_X8_wayBut : GoodIn wsX8_round (wsV RX8 251 RX8 yX8_wayBut wsX8_wayBut) := goodIn_app (goodIn_of _ (by decide +kernel)) ggX8_round_X8_wayBut
theorem dX8_round_0 : decode cX8_round 0 = .ok (.iload_n 1, 1) := by decide +kernel
theorem dX8_round_1 : decode cX8_round 1 = .ok (.invokestatic 248, 3) := by decide +kernel
theorem dX8_round_4 : decode cX8_round 4 = .ok (.ifCond .eq 10, 3) := by decide +kernel
theorem dX8_round_7 : decode cX8_round 7 = .ok (.iload_n 2, 1) := by decide +kernel
theorem dX8_round_8 : decode cX8_round 8 = .ok (.invokestatic 248, 3) := by decide +kernel
theorem dX8_round_11 : decode cX8_round 11 = .ok (.ifCond .ne 5, 3) := by decide +kernel
theorem dX8_round_14 : decode cX8_round 14 = .ok (.iconst (-1), 1) := by decide +kernel
theorem dX8_round_15 : decode cX8_round 15 = .ok (.ireturn, 1) := by decide +kernel
theorem dX8_round_16 : decode cX8_round 16 = .ok (.aload_n 0, 1) := by decide +kernel
theorem dX8_round_17 : decode cX8_round 17 = .ok (.iload_n 1, 1) := by decide +kernel
theorem dX8_round_18 : decode cX8_round 18 = .ok (.iload_n 2, 1) := by decide +kernel
theorem dX8_round_19 : decode cX8_round 19 = .ok (.aload_n 0, 1) := by decide +kernel
theorem dX8_round_20 : decode cX8_round 20 = .ok (.getfield 170, 3) := by decide +kernel
theorem dX8_round_23 : decode cX8_round 23 = .ok (.invokevirtual 251, 3) := by decide +kernel
theorem dX8_round_26 : decode cX8_round 26 = .ok (.istore_n 3, 1) := by decide +kernel
theorem dX8_round_27 : decode cX8_round 27 = .ok (.iload_n 3, 1) := by decide +kernel
theorem dX8_round_28 : decode cX8_round 28 = .ok (.bipush (-9), 2) := by decide +kernel
theorem dX8_round_30 : decode cX8_round 30 = .ok (.if_icmp .ne 8, 3) := by decide +kernel
theorem dX8_round_33 : decode cX8_round 33 = .ok (.bipush (-9), 2) := by decide +kernel
theorem dX8_round_35 : decode cX8_round 35 = .ok (.goto 12, 3) := by decide +kernel
theorem dX8_round_38 : decode cX8_round 38 = .ok (.iload_n 3, 1) := by decide +kernel
theorem dX8_round_39 : decode cX8_round 39 = .ok (.aload_n 0, 1) := by decide +kernel
theorem dX8_round_40 : decode cX8_round 40 = .ok (.iload_n 1, 1) := by decide +kernel
theorem dX8_round_41 : decode cX8_round 41 = .ok (.iload_n 2, 1) := by decide +kernel
theorem dX8_round_42 : decode cX8_round 42 = .ok (.iconst 0, 1) := by decide +kernel
theorem dX8_round_43 : decode cX8_round 43 = .ok (.invokevirtual 251, 3) := by decide +kernel
theorem dX8_round_46 : decode cX8_round 46 = .ok (.isub, 1) := by decide +kernel
theorem dX8_round_47 : decode cX8_round 47 = .ok (.ireturn, 1) := by decide +kernel
set_option maxRecDepth 20000 in
theorem ggX8_noSayings_X8_find : GoodIn wsX8_noSayings wsX8_find := goodIn_r _ [7, 8, 9, 18, 19, 20, 21, 22, 23, 24, 25, 26, 27, 28, 29, 30, 31, 32, 33, 34, 35, 36, 37, 38, 39, 40, 41, 42, 43, 44, 45, 46, 47, 48, 49, 50] (by decide +kernel) (by decide +kernel)
set_option maxRecDepth 20000 in
theorem gX8_noSayings_X8_find : GoodIn wsX8_noSayings (wsV RX8 91 RX8 yX8_find wsX8_find) := goodIn_app (goodIn_of _ (by decide +kernel)) ggX8_noSayings_X8_find
set_option maxRecDepth 20000 in
theorem ggX8_noSayings_X8_isSaying : GoodIn wsX8_noSayings wsX8_isSaying := goodIn_r _ [13, 14, 15, 16, 6, 17, 18, 19, 20, 21, 22, 23, 24, 25, 26, 27, 28, 29, 30, 31, 32, 33, 34, 35, 36, 37, 38, 39, 40, 41, 42, 43, 44, 45, 46, 47, 48, 49, 50] (by decide +kernel) (by decide +kernel)
set_option maxRecDepth 20000 in
theorem gX8_noSayings_X8_isSaying : GoodIn wsX8_noSayings (wsV RX8 186 RX8 yX8_isSaying wsX8_isSaying) := goodIn_app (goodIn_of _ (by decide +kernel)) ggX8_noSayings_X8_isSaying
theorem dX8_noSayings_0 : decode cX8_noSayings 0 = .ok (.aload_n 0, 1) := by decide +kernel
theorem dX8_noSayings_1 : decode cX8_noSayings 1 = .ok (.getfield 25, 3) := by decide +kernel
theorem dX8_noSayings_4 : decode cX8_noSayings 4 = .ok (.iload_n 1, 1) := by decide +kernel
theorem dX8_noSayings_5 : decode cX8_noSayings 5 = .ok (.iaload, 1) := by decide +kernel
theorem dX8_noSayings_6 : decode cX8_noSayings 6 = .ok (.ifCond .ge 9, 3) := by decide +kernel
theorem dX8_noSayings_9 : decode cX8_noSayings 9 = .ok (.aload_n 0, 1) := by decide +kernel
theorem dX8_noSayings_10 : decode cX8_noSayings 10 = .ok (.iconst 1, 1) := by decide +kernel
theorem dX8_noSayings_11 : decode cX8_noSayings 11 = .ok (.invokevirtual 91, 3) := by decide +kernel
theorem dX8_noSayings_14 : decode cX8_noSayings 14 = .ok (.ireturn, 1) := by decide +kernel
theorem dX8_noSayings_15 : decode cX8_noSayings 15 = .ok (.aload_n 0, 1) := by decide +kernel
theorem dX8_noSayings_16 : decode cX8_noSayings 16 = .ok (.getfield 25, 3) := by decide +kernel
theorem dX8_noSayings_19 : decode cX8_noSayings 19 = .ok (.iload_n 1, 1) := by decide +kernel
theorem dX8_noSayings_20 : decode cX8_noSayings 20 = .ok (.iaload, 1) := by decide +kernel
theorem dX8_noSayings_21 : decode cX8_noSayings 21 = .ok (.bipush 12, 2) := by decide +kernel
theorem dX8_noSayings_23 : decode cX8_noSayings 23 = .ok (.if_icmp .le 9, 3) := by decide +kernel
theorem dX8_noSayings_26 : decode cX8_noSayings 26 = .ok (.aload_n 0, 1) := by decide +kernel
theorem dX8_noSayings_27 : decode cX8_noSayings 27 = .ok (.iconst 5, 1) := by decide +kernel
theorem dX8_noSayings_28 : decode cX8_noSayings 28 = .ok (.invokevirtual 91, 3) := by decide +kernel
theorem dX8_noSayings_31 : decode cX8_noSayings 31 = .ok (.ireturn, 1) := by decide +kernel
theorem dX8_noSayings_32 : decode cX8_noSayings 32 = .ok (.bipush 40, 2) := by decide +kernel
theorem dX8_noSayings_34 : decode cX8_noSayings 34 = .ok (.iload_n 1, 1) := by decide +kernel
theorem dX8_noSayings_35 : decode cX8_noSayings 35 = .ok (.imul, 1) := by decide +kernel
theorem dX8_noSayings_36 : decode cX8_noSayings 36 = .ok (.istore_n 2, 1) := by decide +kernel
theorem dX8_noSayings_37 : decode cX8_noSayings 37 = .ok (.iload_n 2, 1) := by decide +kernel
theorem dX8_noSayings_38 : decode cX8_noSayings 38 = .ok (.bipush 40, 2) := by decide +kernel
theorem dX8_noSayings_40 : decode cX8_noSayings 40 = .ok (.iload_n 1, 1) := by decide +kernel
theorem dX8_noSayings_41 : decode cX8_noSayings 41 = .ok (.imul, 1) := by decide +kernel
theorem dX8_noSayings_42 : decode cX8_noSayings 42 = .ok (.aload_n 0, 1) := by decide +kernel
theorem dX8_noSayings_43 : decode cX8_noSayings 43 = .ok (.getfield 25, 3) := by decide +kernel
theorem dX8_noSayings_46 : decode cX8_noSayings 46 = .ok (.iload_n 1, 1) := by decide +kernel
theorem dX8_noSayings_47 : decode cX8_noSayings 47 = .ok (.iaload, 1) := by decide +kernel
theorem dX8_noSayings_48 : decode cX8_noSayings 48 = .ok (.iadd, 1) := by decide +kernel
theorem dX8_noSayings_49 : decode cX8_noSayings 49 = .ok (.if_icmp .ge 28, 3) := by decide +kernel
theorem dX8_noSayings_52 : decode cX8_noSayings 52 = .ok (.aload_n 0, 1) := by decide +kernel
theorem dX8_noSayings_53 : decode cX8_noSayings 53 = .ok (.aload_n 0, 1) := by decide +kernel
theorem dX8_noSayings_54 : decode cX8_noSayings 54 = .ok (.getfield 28, 3) := by decide +kernel
theorem dX8_noSayings_57 : decode cX8_noSayings 57 = .ok (.iload_n 2, 1) := by decide +kernel
theorem dX8_noSayings_58 : decode cX8_noSayings 58 = .ok (.iaload, 1) := by decide +kernel
theorem dX8_noSayings_59 : decode cX8_noSayings 59 = .ok (.invokevirtual 186, 3) := by decide +kernel
theorem dX8_noSayings_62 : decode cX8_noSayings 62 = .ok (.ifCond .ne 9, 3) := by decide +kernel
theorem dX8_noSayings_65 : decode cX8_noSayings 65 = .ok (.aload_n 0, 1) := by decide +kernel
theorem dX8_noSayings_66 : decode cX8_noSayings 66 = .ok (.iconst 3, 1) := by decide +kernel
