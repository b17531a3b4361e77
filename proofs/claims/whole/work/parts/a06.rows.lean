theorem dX7_on_50 : decode cX7_on 50 = .ok (.aload_n 0, 1) := by decide +kernel
theorem dX7_on_51 : decode cX7_on 51 = .ok (.getfield 21, 3) := by decide +kernel
theorem dX7_on_54 : decode cX7_on 54 = .ok (.getfield 94, 3) := by decide +kernel
theorem dX7_on_57 : decode cX7_on 57 = .ok (.iload_n 1, 1) := by decide +kernel
theorem dX7_on_58 : decode cX7_on 58 = .ok (.iaload, 1) := by decide +kernel
theorem dX7_on_59 : decode cX7_on 59 = .ok (.invokevirtual 184, 3) := by decide +kernel
theorem dX7_on_62 : decode cX7_on 62 = .ok (.aload_n 0, 1) := by decide +kernel
theorem dX7_on_63 : decode cX7_on 63 = .ok (.getfield 27, 3) := by decide +kernel
theorem dX7_on_66 : decode cX7_on 66 = .ok (.getfield 168, 3) := by decide +kernel
theorem dX7_on_69 : decode cX7_on 69 = .ok (.ireturn, 1) := by decide +kernel
set_option maxRecDepth 20000 in
theorem ggX7_can_X2_hasPerson : GoodIn wsX7_can wsX2_hasPerson := goodIn_r _ [6, 7, 62, 63, 64, 65, 66, 67, 68, 69, 70, 71, 72, 73, 74] (by decide +kernel) (by decide +kernel)
set_option maxRecDepth 20000 in
theorem gX7_can_X2_hasPerson : GoodIn wsX7_can (wsV RX7 158 RX2 yX2_hasPerson wsX2_hasPerson) := goodIn_app (goodIn_of _ (by decide +kernel)) ggX7_can_X2_hasPerson
set_option maxRecDepth 20000 in
theorem ggX7_can_X2_whatCanBeSaid : GoodIn wsX7_can wsX2_whatCanBeSaid := goodIn_r _ [11, 12, 13, 14, 15, 5, 16, 17, 18, 19, 20, 21, 22, 23, 24, 25, 26, 27, 28, 29, 30, 31, 32, 33, 34, 35, 36, 37, 38, 39, 40, 41, 42, 43, 44, 45, 46, 47, 48, 49, 62, 63, 64, 65, 66, 67, 68, 69, 70, 71, 72, 73, 74] (by decide +kernel) (by decide +kernel)
set_option maxRecDepth 20000 in
theorem gX7_can_X2_whatCanBeSaid : GoodIn wsX7_can (wsV RX7 190 RX2 yX2_whatCanBeSaid wsX2_whatCanBeSaid) := goodIn_app (goodIn_of _ (by decide +kernel)) ggX7_can_X2_whatCanBeSaid
theorem dX7_can_0 : decode cX7_can 0 = .ok (.aload_n 0, 1) := by decide +kernel
theorem dX7_can_1 : decode cX7_can 1 = .ok (.getfield 27, 3) := by decide +kernel
theorem dX7_can_4 : decode cX7_can 4 = .ok (.iload_n 1, 1) := by decide +kernel
theorem dX7_can_5 : decode cX7_can 5 = .ok (.invokevirtual 158, 3) := by decide +kernel
theorem dX7_can_8 : decode cX7_can 8 = .ok (.ifCond .eq 14, 3) := by decide +kernel
theorem dX7_can_11 : decode cX7_can 11 = .ok (.aload_n 0, 1) := by decide +kernel
theorem dX7_can_12 : decode cX7_can 12 = .ok (.getfield 27, 3) := by decide +kernel
theorem dX7_can_15 : decode cX7_can 15 = .ok (.iload_n 1, 1) := by decide +kernel
theorem dX7_can_16 : decode cX7_can 16 = .ok (.invokevirtual 190, 3) := by decide +kernel
theorem dX7_can_19 : decode cX7_can 19 = .ok (.goto 4, 3) := by decide +kernel
theorem dX7_can_22 : decode cX7_can 22 = .ok (.iconst (-1), 1) := by decide +kernel
theorem dX7_can_23 : decode cX7_can 23 = .ok (.ireturn, 1) := by decide +kernel
set_option maxRecDepth 20000 in
theorem ggX7_over_X2_hasSaying : GoodIn wsX7_over wsX2_hasSaying := goodIn_r _ [6, 7, 62, 63, 64, 65, 66, 67, 68, 69, 70, 71, 72, 73, 74] (by decide +kernel) (by decide +kernel)
set_option maxRecDepth 20000 in
theorem gX7_over_X2_hasSaying : GoodIn wsX7_over (wsV RX7 124 RX2 yX2_hasSaying wsX2_hasSaying) := goodIn_app (goodIn_of _ (by decide +kernel)) ggX7_over_X2_hasSaying
set_option maxRecDepth 20000 in
theorem ggX7_over_X2_whoWouldBeOver : GoodIn wsX7_over wsX2_whoWouldBeOver := goodIn_r _ [11, 12, 13, 14, 15, 5, 16, 17, 18, 19, 20, 21, 22, 23, 24, 25, 26, 27, 28, 29, 30, 31, 32, 33, 34, 35, 36, 37, 38, 39, 40, 41, 42, 43, 44, 45, 46, 47, 48, 49, 62, 63, 64, 65, 66, 67, 68, 69, 70, 71, 72, 73, 74] (by decide +kernel) (by decide +kernel)
set_option maxRecDepth 20000 in
theorem gX7_over_X2_whoWouldBeOver : GoodIn wsX7_over (wsV RX7 150 RX2 yX2_whoWouldBeOver wsX2_whoWouldBeOver) := goodIn_app (goodIn_of _ (by decide +kernel)) ggX7_over_X2_whoWouldBeOver
theorem dX7_over_0 : decode cX7_over 0 = .ok (.aload_n 0, 1) := by decide +kernel
theorem dX7_over_1 : decode cX7_over 1 = .ok (.getfield 27, 3) := by decide +kernel
theorem dX7_over_4 : decode cX7_over 4 = .ok (.iload_n 1, 1) := by decide +kernel
theorem dX7_over_5 : decode cX7_over 5 = .ok (.invokevirtual 124, 3) := by decide +kernel
theorem dX7_over_8 : decode cX7_over 8 = .ok (.ifCond .eq 14, 3) := by decide +kernel
theorem dX7_over_11 : decode cX7_over 11 = .ok (.aload_n 0, 1) := by decide +kernel
theorem dX7_over_12 : decode cX7_over 12 = .ok (.getfield 27, 3) := by decide +kernel
theorem dX7_over_15 : decode cX7_over 15 = .ok (.iload_n 1, 1) := by decide +kernel
theorem dX7_over_16 : decode cX7_over 16 = .ok (.invokevirtual 150, 3) := by decide +kernel
theorem dX7_over_19 : decode cX7_over 19 = .ok (.goto 4, 3) := by decide +kernel
theorem dX7_over_22 : decode cX7_over 22 = .ok (.iconst (-1), 1) := by decide +kernel
theorem dX7_over_23 : decode cX7_over 23 = .ok (.ireturn, 1) := by decide +kernel
set_option maxRecDepth 20000 in
theorem ggX7_talk_X5_isNumber : GoodIn wsX7_talk wsX5_isNumber := goodIn_r _ [12, 13, 116, 117] (by decide +kernel) (by decide +kernel)
set_option maxRecDepth 20000 in
theorem gX7_talk_X5_isNumber : GoodIn wsX7_talk (wsV RX7 70 RX5 yX5_isNumber wsX5_isNumber) := goodIn_app (goodIn_of _ (by decide +kernel)) ggX7_talk_X5_isNumber
set_option maxRecDepth 20000 in
theorem ggX7_talk_X2_isAnyOver : GoodIn wsX7_talk wsX2_isAnyOver := goodIn_r _ [18, 19, 118, 119, 120, 121, 122, 123, 124, 125, 126, 127, 128, 129, 130] (by decide +kernel) (by decide +kernel)
set_option maxRecDepth 20000 in
theorem gX7_talk_X2_isAnyOver : GoodIn wsX7_talk (wsV RX7 164 RX2 yX2_isAnyOver wsX2_isAnyOver) := goodIn_app (goodIn_of _ (by decide +kernel)) ggX7_talk_X2_isAnyOver
set_option maxRecDepth 20000 in
theorem ggX7_talk_X2_isEmpty : GoodIn wsX7_talk wsX2_isEmpty := goodIn_r _ [23, 24, 25, 118, 119, 120, 121, 122, 123, 124, 125, 126, 127, 128, 129, 130] (by decide +kernel) (by decide +kernel)
set_option maxRecDepth 20000 in
theorem gX7_talk_X2_isEmpty : GoodIn wsX7_talk (wsV RX7 181 RX2 yX2_isEmpty wsX2_isEmpty) := goodIn_app (goodIn_of _ (by decide +kernel)) ggX7_talk_X2_isEmpty
set_option maxRecDepth 20000 in
theorem ggX7_talk_X5_isThere : GoodIn wsX7_talk wsX5_isThere := goodIn_r _ [29, 13, 30, 9, 10, 11, 12, 116, 117] (by decide +kernel) (by decide +kernel)
set_option maxRecDepth 20000 in
theorem gX7_talk_X5_isThere : GoodIn wsX7_talk (wsV RX7 97 RX5 yX5_isThere wsX5_isThere) := goodIn_app (goodIn_of _ (by decide +kernel)) ggX7_talk_X5_isThere
set_option maxRecDepth 20000 in
theorem ggX7_talk_X7_refuse : GoodIn wsX7_talk wsX7_refuse := goodIn_r _ [35, 36, 37, 104, 105, 106, 107, 108, 109, 110, 111, 112, 113, 114, 115] (by decide +kernel) (by decide +kernel)
set_option maxRecDepth 20000 in
theorem gX7_talk_X7_refuse : GoodIn wsX7_talk (wsV RX7 74 RX7 yX7_refuse wsX7_refuse) := goodIn_app (goodIn_of _ (by decide +kernel)) ggX7_talk_X7_refuse
set_option maxRecDepth 20000 in
theorem ggX7_talk_X2_hasPerson : GoodIn wsX7_talk wsX2_hasPerson := goodIn_r _ [41, 25, 118, 119, 120, 121, 122, 123, 124, 125, 126, 127, 128, 129, 130] (by decide +kernel) (by decide +kernel)
set_option maxRecDepth 20000 in
theorem gX7_talk_X2_hasPerson : GoodIn wsX7_talk (wsV RX7 158 RX2 yX2_hasPerson wsX2_hasPerson) := goodIn_app (goodIn_of _ (by decide +kernel)) ggX7_talk_X2_hasPerson
set_option maxRecDepth 20000 in
theorem ggX7_talk_X2_hasSaying : GoodIn wsX7_talk wsX2_hasSaying := goodIn_r _ [45, 24, 118, 119, 120, 121, 122, 123, 124, 125, 126, 127, 128, 129, 130] (by decide +kernel) (by decide +kernel)
set_option maxRecDepth 20000 in
theorem gX7_talk_X2_hasSaying : GoodIn wsX7_talk (wsV RX7 124 RX2 yX2_hasSaying wsX2_hasSaying) := goodIn_app (goodIn_of _ (by decide +kernel)) ggX7_talk_X2_hasSaying
set_option maxRecDepth 20000 in
theorem ggX7_talk_X2_utter : GoodIn wsX7_talk wsX2_utter := goodIn_r _ [49, 50, 51, 52, 53, 54, 19, 55, 56, 57, 17, 58, 59, 60, 61, 62, 63, 64, 65, 66, 67, 68, 69, 70, 71, 72, 73, 74, 75, 76, 77, 78, 118, 119, 120, 121, 122, 123, 124, 125, 126, 127, 128, 129, 130] (by decide +kernel) (by decide +kernel)
set_option maxRecDepth 20000 in
theorem gX7_talk_X2_utter : GoodIn wsX7_talk (wsV RX7 193 RX2 yX2_utter wsX2_utter) := goodIn_app (goodIn_of _ (by decide +kernel)) ggX7_talk_X2_utter
set_option maxRecDepth 20000 in
theorem ggX7_talk_X2_goBackTo : GoodIn wsX7_talk wsX2_goBackTo := goodIn_r _ [82, 83, 84, 85, 86, 87, 17, 88, 50, 51, 19, 53, 89, 90, 91, 92, 93, 94, 95, 96, 97, 98, 99, 100, 75, 76, 77, 78, 101, 39, 40, 41, 25, 102, 43, 44, 45, 24, 103, 47, 48, 49, 52, 54, 55, 56, 57, 58, 59, 60, 61, 62, 63, 64, 65, 66, 67, 68, 69, 70, 71, 72, 73, 74, 118, 119, 120, 121, 122, 123, 124, 125, 126, 127, 128, 129, 130] (by decide +kernel) (by decide +kernel)
set_option maxRecDepth 20000 in
theorem gX7_talk_X2_goBackTo : GoodIn wsX7_talk (wsV RX7 184 RX2 yX2_goBackTo wsX2_goBackTo) := goodIn_app (goodIn_of _ (by decide +kernel)) ggX7_talk_X2_goBackTo
theorem dX7_talk_0 : decode cX7_talk 0 = .ok (.aload_n 0, 1) := by decide +kernel
theorem dX7_talk_1 : decode cX7_talk 1 = .ok (.getfield 14, 3) := by decide +kernel
theorem dX7_talk_4 : decode cX7_talk 4 = .ok (.iload_n 1, 1) := by decide +kernel
theorem dX7_talk_5 : decode cX7_talk 5 = .ok (.invokevirtual 70, 3) := by decide +kernel
theorem dX7_talk_8 : decode cX7_talk 8 = .ok (.ifCond .ne 5, 3) := by decide +kernel
theorem dX7_talk_11 : decode cX7_talk 11 = .ok (.iconst (-1), 1) := by decide +kernel
theorem dX7_talk_12 : decode cX7_talk 12 = .ok (.ireturn, 1) := by decide +kernel
theorem dX7_talk_13 : decode cX7_talk 13 = .ok (.aload_n 0, 1) := by decide +kernel
theorem dX7_talk_14 : decode cX7_talk 14 = .ok (.getfield 27, 3) := by decide +kernel
theorem dX7_talk_17 : decode cX7_talk 17 = .ok (.invokevirtual 164, 3) := by decide +kernel
theorem dX7_talk_20 : decode cX7_talk 20 = .ok (.ifCond .ne 13, 3) := by decide +kernel
theorem dX7_talk_23 : decode cX7_talk 23 = .ok (.aload_n 0, 1) := by decide +kernel
theorem dX7_talk_24 : decode cX7_talk 24 = .ok (.getfield 27, 3) := by decide +kernel
theorem dX7_talk_27 : decode cX7_talk 27 = .ok (.invokevirtual 181, 3) := by decide +kernel
theorem dX7_talk_30 : decode cX7_talk 30 = .ok (.ifCond .eq 6, 3) := by decide +kernel
theorem dX7_talk_33 : decode cX7_talk 33 = .ok (.bipush (-4), 2) := by decide +kernel
theorem dX7_talk_35 : decode cX7_talk 35 = .ok (.ireturn, 1) := by decide +kernel
theorem dX7_talk_36 : decode cX7_talk 36 = .ok (.aload_n 0, 1) := by decide +kernel
theorem dX7_talk_37 : decode cX7_talk 37 = .ok (.getfield 14, 3) := by decide +kernel
theorem dX7_talk_40 : decode cX7_talk 40 = .ok (.iload_n 1, 1) := by decide +kernel
theorem dX7_talk_41 : decode cX7_talk 41 = .ok (.invokevirtual 97, 3) := by decide +kernel
theorem dX7_talk_44 : decode cX7_talk 44 = .ok (.ifCond .ne 9, 3) := by decide +kernel
theorem dX7_talk_47 : decode cX7_talk 47 = .ok (.aload_n 0, 1) := by decide +kernel
theorem dX7_talk_48 : decode cX7_talk 48 = .ok (.iconst 1, 1) := by decide +kernel
theorem dX7_talk_49 : decode cX7_talk 49 = .ok (.invokevirtual 74, 3) := by decide +kernel
theorem dX7_talk_52 : decode cX7_talk 52 = .ok (.ireturn, 1) := by decide +kernel
theorem dX7_talk_53 : decode cX7_talk 53 = .ok (.aload_n 0, 1) := by decide +kernel
theorem dX7_talk_54 : decode cX7_talk 54 = .ok (.getfield 14, 3) := by decide +kernel
theorem dX7_talk_57 : decode cX7_talk 57 = .ok (.getfield 94, 3) := by decide +kernel
theorem dX7_talk_60 : decode cX7_talk 60 = .ok (.iload_n 1, 1) := by decide +kernel
theorem dX7_talk_61 : decode cX7_talk 61 = .ok (.iaload, 1) := by decide +kernel
theorem dX7_talk_62 : decode cX7_talk 62 = .ok (.istore_n 2, 1) := by decide +kernel
theorem dX7_talk_63 : decode cX7_talk 63 = .ok (.iload_n 2, 1) := by decide +kernel
theorem dX7_talk_64 : decode cX7_talk 64 = .ok (.iconst 2, 1) := by decide +kernel
theorem dX7_talk_65 : decode cX7_talk 65 = .ok (.irem, 1) := by decide +kernel
theorem dX7_talk_66 : decode cX7_talk 66 = .ok (.ifCond .ne 9, 3) := by decide +kernel
theorem dX7_talk_69 : decode cX7_talk 69 = .ok (.iload_n 2, 1) := by decide +kernel
theorem dX7_talk_70 : decode cX7_talk 70 = .ok (.bipush 20, 2) := by decide +kernel
theorem dX7_talk_72 : decode cX7_talk 72 = .ok (.if_icmp .le 9, 3) := by decide +kernel
theorem dX7_talk_75 : decode cX7_talk 75 = .ok (.aload_n 0, 1) := by decide +kernel
theorem dX7_talk_76 : decode cX7_talk 76 = .ok (.iconst 5, 1) := by decide +kernel
theorem dX7_talk_77 : decode cX7_talk 77 = .ok (.invokevirtual 74, 3) := by decide +kernel
theorem dX7_talk_80 : decode cX7_talk 80 = .ok (.ireturn, 1) := by decide +kernel
theorem dX7_talk_81 : decode cX7_talk 81 = .ok (.aload_n 0, 1) := by decide +kernel
theorem dX7_talk_82 : decode cX7_talk 82 = .ok (.getfield 14, 3) := by decide +kernel
theorem dX7_talk_85 : decode cX7_talk 85 = .ok (.getfield 86, 3) := by decide +kernel
theorem dX7_talk_88 : decode cX7_talk 88 = .ok (.iload_n 1, 1) := by decide +kernel
theorem dX7_talk_89 : decode cX7_talk 89 = .ok (.aaload, 1) := by decide +kernel
theorem dX7_talk_90 : decode cX7_talk 90 = .ok (.astore_n 3, 1) := by decide +kernel
theorem dX7_talk_91 : decode cX7_talk 91 = .ok (.iconst 0, 1) := by decide +kernel
theorem dX7_talk_92 : decode cX7_talk 92 = .ok (.istore 4, 2) := by decide +kernel
theorem dX7_talk_94 : decode cX7_talk 94 = .ok (.iload 4, 2) := by decide +kernel
theorem dX7_talk_96 : decode cX7_talk 96 = .ok (.iconst 1, 1) := by decide +kernel
theorem dX7_talk_97 : decode cX7_talk 97 = .ok (.iadd, 1) := by decide +kernel
theorem dX7_talk_98 : decode cX7_talk 98 = .ok (.iload_n 2, 1) := by decide +kernel
theorem dX7_talk_99 : decode cX7_talk 99 = .ok (.if_icmp .ge 45, 3) := by decide +kernel
theorem dX7_talk_102 : decode cX7_talk 102 = .ok (.aload_n 0, 1) := by decide +kernel
theorem dX7_talk_103 : decode cX7_talk 103 = .ok (.getfield 27, 3) := by decide +kernel
theorem dX7_talk_106 : decode cX7_talk 106 = .ok (.aload_n 3, 1) := by decide +kernel
theorem dX7_talk_107 : decode cX7_talk 107 = .ok (.iload 4, 2) := by decide +kernel
theorem dX7_talk_109 : decode cX7_talk 109 = .ok (.iaload, 1) := by decide +kernel
theorem dX7_talk_110 : decode cX7_talk 110 = .ok (.invokevirtual 158, 3) := by decide +kernel
theorem dX7_talk_113 : decode cX7_talk 113 = .ok (.ifCond .eq 19, 3) := by decide +kernel
theorem dX7_talk_116 : decode cX7_talk 116 = .ok (.aload_n 0, 1) := by decide +kernel
theorem dX7_talk_117 : decode cX7_talk 117 = .ok (.getfield 27, 3) := by decide +kernel
theorem dX7_talk_120 : decode cX7_talk 120 = .ok (.aload_n 3, 1) := by decide +kernel
theorem dX7_talk_121 : decode cX7_talk 121 = .ok (.iload 4, 2) := by decide +kernel
theorem dX7_talk_123 : decode cX7_talk 123 = .ok (.iconst 1, 1) := by decide +kernel
theorem dX7_talk_124 : decode cX7_talk 124 = .ok (.iadd, 1) := by decide +kernel
theorem dX7_talk_125 : decode cX7_talk 125 = .ok (.iaload, 1) := by decide +kernel
theorem dX7_talk_126 : decode cX7_talk 126 = .ok (.invokevirtual 124, 3) := by decide +kernel
theorem dX7_talk_129 : decode cX7_talk 129 = .ok (.ifCond .ne 9, 3) := by decide +kernel
theorem dX7_talk_132 : decode cX7_talk 132 = .ok (.aload_n 0, 1) := by decide +kernel
theorem dX7_talk_133 : decode cX7_talk 133 = .ok (.iconst 3, 1) := by decide +kernel
theorem dX7_talk_134 : decode cX7_talk 134 = .ok (.invokevirtual 74, 3) := by decide +kernel
theorem dX7_talk_137 : decode cX7_talk 137 = .ok (.ireturn, 1) := by decide +kernel
theorem dX7_talk_138 : decode cX7_talk 138 = .ok (.iinc 4 2, 3) := by decide +kernel
theorem dX7_talk_141 : decode cX7_talk 141 = .ok (.goto (-47), 3) := by decide +kernel
theorem dX7_talk_144 : decode cX7_talk 144 = .ok (.iconst 0, 1) := by decide +kernel
theorem dX7_talk_145 : decode cX7_talk 145 = .ok (.istore 4, 2) := by decide +kernel
theorem dX7_talk_147 : decode cX7_talk 147 = .ok (.iconst 0, 1) := by decide +kernel
theorem dX7_talk_148 : decode cX7_talk 148 = .ok (.istore 5, 2) := by decide +kernel
theorem dX7_talk_150 : decode cX7_talk 150 = .ok (.iload 5, 2) := by decide +kernel
theorem dX7_talk_152 : decode cX7_talk 152 = .ok (.iconst 1, 1) := by decide +kernel
theorem dX7_talk_153 : decode cX7_talk 153 = .ok (.iadd, 1) := by decide +kernel
theorem dX7_talk_154 : decode cX7_talk 154 = .ok (.iload_n 2, 1) := by decide +kernel
theorem dX7_talk_155 : decode cX7_talk 155 = .ok (.if_icmp .ge 39, 3) := by decide +kernel
theorem dX7_talk_158 : decode cX7_talk 158 = .ok (.aload_n 0, 1) := by decide +kernel
theorem dX7_talk_159 : decode cX7_talk 159 = .ok (.getfield 27, 3) := by decide +kernel
theorem dX7_talk_162 : decode cX7_talk 162 = .ok (.invokevirtual 164, 3) := by decide +kernel
theorem dX7_talk_165 : decode cX7_talk 165 = .ok (.ifCond .ne 29, 3) := by decide +kernel
theorem dX7_talk_168 : decode cX7_talk 168 = .ok (.aload_n 0, 1) := by decide +kernel
theorem dX7_talk_169 : decode cX7_talk 169 = .ok (.getfield 27, 3) := by decide +kernel
theorem dX7_talk_172 : decode cX7_talk 172 = .ok (.aload_n 3, 1) := by decide +kernel
theorem dX7_talk_173 : decode cX7_talk 173 = .ok (.iload 5, 2) := by decide +kernel
theorem dX7_talk_175 : decode cX7_talk 175 = .ok (.iaload, 1) := by decide +kernel
theorem dX7_talk_176 : decode cX7_talk 176 = .ok (.aload_n 3, 1) := by decide +kernel
theorem dX7_talk_177 : decode cX7_talk 177 = .ok (.iload 5, 2) := by decide +kernel
theorem dX7_talk_179 : decode cX7_talk 179 = .ok (.iconst 1, 1) := by decide +kernel
theorem dX7_talk_180 : decode cX7_talk 180 = .ok (.iadd, 1) := by decide +kernel
theorem dX7_talk_181 : decode cX7_talk 181 = .ok (.iaload, 1) := by decide +kernel
theorem dX7_talk_182 : decode cX7_talk 182 = .ok (.invokevirtual 193, 3) := by decide +kernel
theorem dX7_talk_185 : decode cX7_talk 185 = .ok (.iinc 4 1, 3) := by decide +kernel
theorem dX7_talk_188 : decode cX7_talk 188 = .ok (.iinc 5 2, 3) := by decide +kernel
theorem dX7_talk_191 : decode cX7_talk 191 = .ok (.goto (-41), 3) := by decide +kernel
theorem dX7_talk_194 : decode cX7_talk 194 = .ok (.aload_n 0, 1) := by decide +kernel
theorem dX7_talk_195 : decode cX7_talk 195 = .ok (.aload_n 0, 1) := by decide +kernel
theorem dX7_talk_196 : decode cX7_talk 196 = .ok (.getfield 27, 3) := by decide +kernel
theorem dX7_talk_199 : decode cX7_talk 199 = .ok (.getfield 178, 3) := by decide +kernel
theorem dX7_talk_202 : decode cX7_talk 202 = .ok (.putfield 60, 3) := by decide +kernel
theorem dX7_talk_205 : decode cX7_talk 205 = .ok (.aload_n 0, 1) := by decide +kernel
theorem dX7_talk_206 : decode cX7_talk 206 = .ok (.getfield 27, 3) := by decide +kernel
theorem dX7_talk_209 : decode cX7_talk 209 = .ok (.aload_n 0, 1) := by decide +kernel
theorem dX7_talk_210 : decode cX7_talk 210 = .ok (.getfield 27, 3) := by decide +kernel
theorem dX7_talk_213 : decode cX7_talk 213 = .ok (.getfield 168, 3) := by decide +kernel
theorem dX7_talk_216 : decode cX7_talk 216 = .ok (.invokevirtual 184, 3) := by decide +kernel
theorem dX7_talk_219 : decode cX7_talk 219 = .ok (.iload 4, 2) := by decide +kernel
theorem dX7_talk_221 : decode cX7_talk 221 = .ok (.ireturn, 1) := by decide +kernel
set_option maxRecDepth 20000 in
theorem ggX7_waits_X2_hasPerson : GoodIn wsX7_waits wsX2_hasPerson := goodIn_r _ [12, 13, 59, 60, 61, 62, 63, 64, 65, 66, 67, 68, 69, 70, 71] (by decide +kernel) (by decide +kernel)
set_option maxRecDepth 20000 in
theorem gX7_waits_X2_hasPerson : GoodIn wsX7_waits (wsV RX7 158 RX2 yX2_hasPerson wsX2_hasPerson) := goodIn_app (goodIn_of _ (by decide +kernel)) ggX7_waits_X2_hasPerson
set_option maxRecDepth 20000 in
theorem ggX7_waits_X2_hasSaying : GoodIn wsX7_waits wsX2_hasSaying := goodIn_r _ [17, 18, 59, 60, 61, 62, 63, 64, 65, 66, 67, 68, 69, 70, 71] (by decide +kernel) (by decide +kernel)
set_option maxRecDepth 20000 in
theorem gX7_waits_X2_hasSaying : GoodIn wsX7_waits (wsV RX7 124 RX2 yX2_hasSaying wsX2_hasSaying) := goodIn_app (goodIn_of _ (by decide +kernel)) ggX7_waits_X2_hasSaying
set_option maxRecDepth 20000 in
theorem ggX7_waits_X2_isAnyOver : GoodIn wsX7_waits wsX2_isAnyOver := goodIn_r _ [22, 23, 59, 60, 61, 62, 63, 64, 65, 66, 67, 68, 69, 70, 71] (by decide +kernel) (by decide +kernel)
set_option maxRecDepth 20000 in
theorem gX7_waits_X2_isAnyOver : GoodIn wsX7_waits (wsV RX7 164 RX2 yX2_isAnyOver wsX2_isAnyOver) := goodIn_app (goodIn_of _ (by decide +kernel)) ggX7_waits_X2_isAnyOver
set_option maxRecDepth 20000 in
theorem ggX7_waits_X2_nearNow : GoodIn wsX7_waits wsX2_nearNow := goodIn_r _ [27, 28, 29, 30, 31, 32, 33, 11, 34, 35, 36, 37, 38, 39, 40, 41, 42, 43, 44, 45, 46, 5, 6, 7, 59, 60, 61, 62, 63, 64, 65, 66, 67, 68, 69, 70, 71] (by decide +kernel) (by decide +kernel)
set_option maxRecDepth 20000 in
theorem gX7_waits_X2_nearNow : GoodIn wsX7_waits (wsV RX7 196 RX2 yX2_nearNow wsX2_nearNow) := goodIn_app (goodIn_of _ (by decide +kernel)) ggX7_waits_X2_nearNow
theorem dX7_waits_0 : decode cX7_waits 0 = .ok (.aload_n 0, 1) := by decide +kernel
theorem dX7_waits_1 : decode cX7_waits 1 = .ok (.getfield 27, 3) := by decide +kernel
theorem dX7_waits_4 : decode cX7_waits 4 = .ok (.iload_n 1, 1) := by decide +kernel
theorem dX7_waits_5 : decode cX7_waits 5 = .ok (.invokevirtual 158, 3) := by decide +kernel
theorem dX7_waits_8 : decode cX7_waits 8 = .ok (.ifCond .eq 14, 3) := by decide +kernel
theorem dX7_waits_11 : decode cX7_waits 11 = .ok (.aload_n 0, 1) := by decide +kernel
theorem dX7_waits_12 : decode cX7_waits 12 = .ok (.getfield 27, 3) := by decide +kernel
theorem dX7_waits_15 : decode cX7_waits 15 = .ok (.iload_n 2, 1) := by decide +kernel
theorem dX7_waits_16 : decode cX7_waits 16 = .ok (.invokevirtual 124, 3) := by decide +kernel
theorem dX7_waits_19 : decode cX7_waits 19 = .ok (.ifCond .ne 5, 3) := by decide +kernel
theorem dX7_waits_22 : decode cX7_waits 22 = .ok (.iconst (-1), 1) := by decide +kernel
theorem dX7_waits_23 : decode cX7_waits 23 = .ok (.ireturn, 1) := by decide +kernel
theorem dX7_waits_24 : decode cX7_waits 24 = .ok (.aload_n 0, 1) := by decide +kernel
theorem dX7_waits_25 : decode cX7_waits 25 = .ok (.getfield 27, 3) := by decide +kernel
theorem dX7_waits_28 : decode cX7_waits 28 = .ok (.invokevirtual 164, 3) := by decide +kernel
theorem dX7_waits_31 : decode cX7_waits 31 = .ok (.ifCond .eq 6, 3) := by decide +kernel
theorem dX7_waits_34 : decode cX7_waits 34 = .ok (.bipush (-4), 2) := by decide +kernel
theorem dX7_waits_36 : decode cX7_waits 36 = .ok (.ireturn, 1) := by decide +kernel
theorem dX7_waits_37 : decode cX7_waits 37 = .ok (.aload_n 0, 1) := by decide +kernel
theorem dX7_waits_38 : decode cX7_waits 38 = .ok (.getfield 27, 3) := by decide +kernel
theorem dX7_waits_41 : decode cX7_waits 41 = .ok (.getfield 161, 3) := by decide +kernel
theorem dX7_waits_44 : decode cX7_waits 44 = .ok (.iload_n 1, 1) := by decide +kernel
theorem dX7_waits_45 : decode cX7_waits 45 = .ok (.iaload, 1) := by decide +kernel
theorem dX7_waits_46 : decode cX7_waits 46 = .ok (.aload_n 0, 1) := by decide +kernel
theorem dX7_waits_47 : decode cX7_waits 47 = .ok (.getfield 27, 3) := by decide +kernel
theorem dX7_waits_50 : decode cX7_waits 50 = .ok (.iload_n 2, 1) := by decide +kernel
theorem dX7_waits_51 : decode cX7_waits 51 = .ok (.invokevirtual 196, 3) := by decide +kernel
theorem dX7_waits_54 : decode cX7_waits 54 = .ok (.isub, 1) := by decide +kernel
theorem dX7_waits_55 : decode cX7_waits 55 = .ok (.istore_n 3, 1) := by decide +kernel
theorem dX7_waits_56 : decode cX7_waits 56 = .ok (.iload_n 3, 1) := by decide +kernel
theorem dX7_waits_57 : decode cX7_waits 57 = .ok (.ifCond .ge 8, 3) := by decide +kernel
theorem dX7_waits_60 : decode cX7_waits 60 = .ok (.bipush (-9), 2) := by decide +kernel
theorem dX7_waits_62 : decode cX7_waits 62 = .ok (.goto 16, 3) := by decide +kernel
theorem dX7_waits_65 : decode cX7_waits 65 = .ok (.iconst 0, 1) := by decide +kernel
theorem dX7_waits_66 : decode cX7_waits 66 = .ok (.aload_n 0, 1) := by decide +kernel
theorem dX7_waits_67 : decode cX7_waits 67 = .ok (.getfield 27, 3) := by decide +kernel
theorem dX7_waits_70 : decode cX7_waits 70 = .ok (.getfield 178, 3) := by decide +kernel
theorem dX7_waits_73 : decode cX7_waits 73 = .ok (.iload_n 3, 1) := by decide +kernel
theorem dX7_waits_74 : decode cX7_waits 74 = .ok (.isub, 1) := by decide +kernel
theorem dX7_waits_75 : decode cX7_waits 75 = .ok (.invokestatic 141, 3) := by decide +kernel
theorem dX7_waits_78 : decode cX7_waits 78 = .ok (.ireturn, 1) := by decide +kernel
set_option maxRecDepth 20000 in
theorem ggX7_settle_X2_hasPerson : GoodIn wsX7_settle wsX2_hasPerson := goodIn_r _ [10, 11, 126, 127, 128, 129, 130, 131, 132, 133, 134, 135, 136, 137, 138] (by decide +kernel) (by decide +kernel)
set_option maxRecDepth 20000 in
theorem gX7_settle_X2_hasPerson : GoodIn wsX7_settle (wsV RX7 158 RX2 yX2_hasPerson wsX2_hasPerson) := goodIn_app (goodIn_of _ (by decide +kernel)) ggX7_settle_X2_hasPerson
set_option maxRecDepth 20000 in
theorem ggX7_settle_X5_isNumber : GoodIn wsX7_settle wsX5_isNumber := goodIn_r _ [16, 17, 120, 121] (by decide +kernel) (by decide +kernel)
set_option maxRecDepth 20000 in
theorem gX7_settle_X5_isNumber : GoodIn wsX7_settle (wsV RX7 70 RX5 yX5_isNumber wsX5_isNumber) := goodIn_app (goodIn_of _ (by decide +kernel)) ggX7_settle_X5_isNumber
set_option maxRecDepth 20000 in
theorem ggX7_settle_X2_isAnyOver : GoodIn wsX7_settle wsX2_isAnyOver := goodIn_r _ [21, 22, 126, 127, 128, 129, 130, 131, 132, 133, 134, 135, 136, 137, 138] (by decide +kernel) (by decide +kernel)
set_option maxRecDepth 20000 in
theorem gX7_settle_X2_isAnyOver : GoodIn wsX7_settle (wsV RX7 164 RX2 yX2_isAnyOver wsX2_isAnyOver) := goodIn_app (goodIn_of _ (by decide +kernel)) ggX7_settle_X2_isAnyOver
set_option maxRecDepth 20000 in
theorem ggX7_settle_X2_isEmpty : GoodIn wsX7_settle wsX2_isEmpty := goodIn_r _ [26, 27, 11, 126, 127, 128, 129, 130, 131, 132, 133, 134, 135, 136, 137, 138] (by decide +kernel) (by decide +kernel)
set_option maxRecDepth 20000 in
theorem gX7_settle_X2_isEmpty : GoodIn wsX7_settle (wsV RX7 181 RX2 yX2_isEmpty wsX2_isEmpty) := goodIn_app (goodIn_of _ (by decide +kernel)) ggX7_settle_X2_isEmpty
set_option maxRecDepth 20000 in
theorem ggX7_settle_X6_findFirst : GoodIn wsX7_settle wsX6_findFirst := goodIn_r _ [32, 33, 34, 35, 31, 36, 37, 38, 39, 40, 41, 42, 43, 44, 45, 46, 47, 48, 49, 50, 51, 9, 52, 53, 54, 55, 56, 57, 58, 59, 60, 61, 62, 63, 64, 65, 66, 67, 68, 69, 70, 71, 72, 73, 74, 75, 76, 77, 78, 79, 80, 81, 82, 83, 84, 85, 86, 87, 88, 89, 90, 91, 92, 93, 22, 94, 95, 96, 97, 126, 127, 128, 129, 130, 131, 132, 133, 134, 135, 136, 137, 138, 122, 123, 124, 125] (by decide +kernel) (by decide +kernel)
set_option maxRecDepth 20000 in
theorem gX7_settle_X6_findFirst : GoodIn wsX7_settle (wsV RX7 199 RX6 yX6_findFirst wsX6_findFirst) := goodIn_app (goodIn_of _ (by decide +kernel)) ggX7_settle_X6_findFirst
set_option maxRecDepth 20000 in
theorem ggX7_settle_X5_make : GoodIn wsX7_settle wsX5_make := goodIn_r _ [101, 102, 17, 103, 13, 14, 15, 16, 104, 105, 106, 107, 120, 121] (by decide +kernel) (by decide +kernel)
set_option maxRecDepth 20000 in
theorem gX7_settle_X5_make : GoodIn wsX7_settle (wsV RX7 78 RX5 yX5_make wsX5_make) := goodIn_app (goodIn_of _ (by decide +kernel)) ggX7_settle_X5_make
theorem dX7_settle_0 : decode cX7_settle 0 = .ok (.aload_n 0, 1) := by decide +kernel
theorem dX7_settle_1 : decode cX7_settle 1 = .ok (.getfield 27, 3) := by decide +kernel
theorem dX7_settle_4 : decode cX7_settle 4 = .ok (.iload_n 1, 1) := by decide +kernel
theorem dX7_settle_5 : decode cX7_settle 5 = .ok (.invokevirtual 158, 3) := by decide +kernel
theorem dX7_settle_8 : decode cX7_settle 8 = .ok (.ifCond .eq 14, 3) := by decide +kernel
theorem dX7_settle_11 : decode cX7_settle 11 = .ok (.aload_n 0, 1) := by decide +kernel
theorem dX7_settle_12 : decode cX7_settle 12 = .ok (.getfield 14, 3) := by decide +kernel
theorem dX7_settle_15 : decode cX7_settle 15 = .ok (.iload_n 2, 1) := by decide +kernel
theorem dX7_settle_16 : decode cX7_settle 16 = .ok (.invokevirtual 70, 3) := by decide +kernel
theorem dX7_settle_19 : decode cX7_settle 19 = .ok (.ifCond .ne 5, 3) := by decide +kernel
theorem dX7_settle_22 : decode cX7_settle 22 = .ok (.iconst (-1), 1) := by decide +kernel
theorem dX7_settle_23 : decode cX7_settle 23 = .ok (.ireturn, 1) := by decide +kernel
theorem dX7_settle_24 : decode cX7_settle 24 = .ok (.aload_n 0, 1) := by decide +kernel
theorem dX7_settle_25 : decode cX7_settle 25 = .ok (.getfield 27, 3) := by decide +kernel
theorem dX7_settle_28 : decode cX7_settle 28 = .ok (.invokevirtual 164, 3) := by decide +kernel
theorem dX7_settle_31 : decode cX7_settle 31 = .ok (.ifCond .ne 13, 3) := by decide +kernel
theorem dX7_settle_34 : decode cX7_settle 34 = .ok (.aload_n 0, 1) := by decide +kernel
theorem dX7_settle_35 : decode cX7_settle 35 = .ok (.getfield 27, 3) := by decide +kernel
theorem dX7_settle_38 : decode cX7_settle 38 = .ok (.invokevirtual 181, 3) := by decide +kernel
theorem dX7_settle_41 : decode cX7_settle 41 = .ok (.ifCond .eq 6, 3) := by decide +kernel
theorem dX7_settle_44 : decode cX7_settle 44 = .ok (.bipush (-4), 2) := by decide +kernel
theorem dX7_settle_46 : decode cX7_settle 46 = .ok (.ireturn, 1) := by decide +kernel
theorem dX7_settle_47 : decode cX7_settle 47 = .ok (.iconst 0, 1) := by decide +kernel
theorem dX7_settle_48 : decode cX7_settle 48 = .ok (.istore_n 3, 1) := by decide +kernel
theorem dX7_settle_49 : decode cX7_settle 49 = .ok (.iload_n 3, 1) := by decide +kernel
theorem dX7_settle_50 : decode cX7_settle 50 = .ok (.iconst 5, 1) := by decide +kernel
theorem dX7_settle_51 : decode cX7_settle 51 = .ok (.if_icmp .gt 93, 3) := by decide +kernel
theorem dX7_settle_54 : decode cX7_settle 54 = .ok (.aload_n 0, 1) := by decide +kernel
theorem dX7_settle_55 : decode cX7_settle 55 = .ok (.getfield 41, 3) := by decide +kernel
theorem dX7_settle_58 : decode cX7_settle 58 = .ok (.aload_n 0, 1) := by decide +kernel
theorem dX7_settle_59 : decode cX7_settle 59 = .ok (.getfield 27, 3) := by decide +kernel
theorem dX7_settle_62 : decode cX7_settle 62 = .ok (.iload_n 1, 1) := by decide +kernel
theorem dX7_settle_63 : decode cX7_settle 63 = .ok (.iload_n 3, 1) := by decide +kernel
theorem dX7_settle_64 : decode cX7_settle 64 = .ok (.invokevirtual 199, 3) := by decide +kernel
theorem dX7_settle_67 : decode cX7_settle 67 = .ok (.ifCond .eq 71, 3) := by decide +kernel
theorem dX7_settle_70 : decode cX7_settle 70 = .ok (.aload_n 0, 1) := by decide +kernel
theorem dX7_settle_71 : decode cX7_settle 71 = .ok (.getfield 14, 3) := by decide +kernel
theorem dX7_settle_74 : decode cX7_settle 74 = .ok (.iload_n 2, 1) := by decide +kernel
theorem dX7_settle_75 : decode cX7_settle 75 = .ok (.iload_n 3, 1) := by decide +kernel
theorem dX7_settle_76 : decode cX7_settle 76 = .ok (.iconst 0, 1) := by decide +kernel
theorem dX7_settle_77 : decode cX7_settle 77 = .ok (.invokevirtual 78, 3) := by decide +kernel
theorem dX7_settle_80 : decode cX7_settle 80 = .ok (.iconst 0, 1) := by decide +kernel
theorem dX7_settle_81 : decode cX7_settle 81 = .ok (.istore 4, 2) := by decide +kernel
theorem dX7_settle_83 : decode cX7_settle 83 = .ok (.iload 4, 2) := by decide +kernel
theorem dX7_settle_85 : decode cX7_settle 85 = .ok (.iload_n 3, 1) := by decide +kernel
theorem dX7_settle_86 : decode cX7_settle 86 = .ok (.if_icmp .ge 50, 3) := by decide +kernel
theorem dX7_settle_89 : decode cX7_settle 89 = .ok (.aload_n 0, 1) := by decide +kernel
theorem dX7_settle_90 : decode cX7_settle 90 = .ok (.getfield 14, 3) := by decide +kernel
theorem dX7_settle_93 : decode cX7_settle 93 = .ok (.getfield 86, 3) := by decide +kernel
theorem dX7_settle_96 : decode cX7_settle 96 = .ok (.iload_n 2, 1) := by decide +kernel
theorem dX7_settle_97 : decode cX7_settle 97 = .ok (.aaload, 1) := by decide +kernel
theorem dX7_settle_98 : decode cX7_settle 98 = .ok (.iload 4, 2) := by decide +kernel
theorem dX7_settle_100 : decode cX7_settle 100 = .ok (.aload_n 0, 1) := by decide +kernel
theorem dX7_settle_101 : decode cX7_settle 101 = .ok (.getfield 41, 3) := by decide +kernel
theorem dX7_settle_104 : decode cX7_settle 104 = .ok (.getfield 203, 3) := by decide +kernel
theorem dX7_settle_107 : decode cX7_settle 107 = .ok (.iload 4, 2) := by decide +kernel
theorem dX7_settle_109 : decode cX7_settle 109 = .ok (.iaload, 1) := by decide +kernel
theorem dX7_settle_110 : decode cX7_settle 110 = .ok (.iconst (-1), 1) := by decide +kernel
theorem dX7_settle_111 : decode cX7_settle 111 = .ok (.if_icmp .ne 8, 3) := by decide +kernel
theorem dX7_settle_114 : decode cX7_settle 114 = .ok (.bipush (-9), 2) := by decide +kernel
theorem dX7_settle_116 : decode cX7_settle 116 = .ok (.goto 13, 3) := by decide +kernel
theorem dX7_settle_119 : decode cX7_settle 119 = .ok (.aload_n 0, 1) := by decide +kernel
theorem dX7_settle_120 : decode cX7_settle 120 = .ok (.getfield 41, 3) := by decide +kernel
theorem dX7_settle_123 : decode cX7_settle 123 = .ok (.getfield 203, 3) := by decide +kernel
theorem dX7_settle_126 : decode cX7_settle 126 = .ok (.iload 4, 2) := by decide +kernel
theorem dX7_settle_128 : decode cX7_settle 128 = .ok (.iaload, 1) := by decide +kernel
theorem dX7_settle_129 : decode cX7_settle 129 = .ok (.iastore, 1) := by decide +kernel
theorem dX7_settle_130 : decode cX7_settle 130 = .ok (.iinc 4 1, 3) := by decide +kernel
theorem dX7_settle_133 : decode cX7_settle 133 = .ok (.goto (-50), 3) := by decide +kernel
theorem dX7_settle_136 : decode cX7_settle 136 = .ok (.iload_n 3, 1) := by decide +kernel
theorem dX7_settle_137 : decode cX7_settle 137 = .ok (.ireturn, 1) := by decide +kernel
theorem dX7_settle_138 : decode cX7_settle 138 = .ok (.iinc 3 1, 3) := by decide +kernel
theorem dX7_settle_141 : decode cX7_settle 141 = .ok (.goto (-92), 3) := by decide +kernel
theorem dX7_settle_144 : decode cX7_settle 144 = .ok (.bipush (-9), 2) := by decide +kernel
theorem dX7_settle_146 : decode cX7_settle 146 = .ok (.ireturn, 1) := by decide +kernel
set_option maxRecDepth 20000 in
theorem ggX7_least_X7_refusalOfTurns : GoodIn wsX7_least wsX7_refusalOfTurns := goodIn_r _ [8, 2, 9, 10, 11, 12, 13, 14, 15, 16, 17, 18, 19, 20, 21, 22, 23, 24, 95, 96, 97, 98, 99, 100, 101, 102, 103, 104, 105, 106, 111, 112, 113, 114, 115, 116, 117, 118, 119, 120, 121, 122, 123] (by decide +kernel) (by decide +kernel)
set_option maxRecDepth 20000 in
theorem gX7_least_X7_refusalOfTurns : GoodIn wsX7_least (wsV RX7 206 RX7 yX7_refusalOfTurns wsX7_refusalOfTurns) := goodIn_app (goodIn_of _ (by decide +kernel)) ggX7_least_X7_refusalOfTurns
set_option maxRecDepth 20000 in
theorem ggX7_least_X6_tryAll : GoodIn wsX7_least wsX6_tryAll := goodIn_r _ [29, 30, 31, 32, 33, 34, 35, 28, 36, 37, 38, 39, 40, 41, 42, 43, 44, 45, 46, 47, 48, 12, 49, 50, 51, 52, 53, 54, 55, 56, 57, 58, 59, 60, 61, 62, 63, 64, 65, 66, 67, 68, 69, 70, 71, 72, 73, 74, 75, 76, 77, 78, 79, 80, 81, 82, 83, 84, 85, 86, 87, 88, 89, 90, 19, 91, 92, 93, 94, 107, 108, 109, 110, 111, 112, 113, 114, 115, 116, 117, 118, 119, 120, 121, 122, 123] (by decide +kernel) (by decide +kernel)
set_option maxRecDepth 20000 in
theorem gX7_least_X6_tryAll : GoodIn wsX7_least (wsV RX7 209 RX6 yX6_tryAll wsX6_tryAll) := goodIn_app (goodIn_of _ (by decide +kernel)) ggX7_least_X6_tryAll
theorem dX7_least_0 : decode cX7_least 0 = .ok (.aload_n 0, 1) := by decide +kernel
theorem dX7_least_1 : decode cX7_least 1 = .ok (.iload_n 1, 1) := by decide +kernel
theorem dX7_least_2 : decode cX7_least 2 = .ok (.iload_n 2, 1) := by decide +kernel
theorem dX7_least_3 : decode cX7_least 3 = .ok (.invokevirtual 206, 3) := by decide +kernel
theorem dX7_least_6 : decode cX7_least 6 = .ok (.istore_n 3, 1) := by decide +kernel
theorem dX7_least_7 : decode cX7_least 7 = .ok (.iload_n 3, 1) := by decide +kernel
theorem dX7_least_8 : decode cX7_least 8 = .ok (.ifCond .eq 5, 3) := by decide +kernel
theorem dX7_least_11 : decode cX7_least 11 = .ok (.iload_n 3, 1) := by decide +kernel
theorem dX7_least_12 : decode cX7_least 12 = .ok (.ireturn, 1) := by decide +kernel
theorem dX7_least_13 : decode cX7_least 13 = .ok (.aload_n 0, 1) := by decide +kernel
theorem dX7_least_14 : decode cX7_least 14 = .ok (.getfield 41, 3) := by decide +kernel
theorem dX7_least_17 : decode cX7_least 17 = .ok (.aload_n 0, 1) := by decide +kernel
theorem dX7_least_18 : decode cX7_least 18 = .ok (.getfield 27, 3) := by decide +kernel
theorem dX7_least_21 : decode cX7_least 21 = .ok (.iload_n 1, 1) := by decide +kernel
theorem dX7_least_22 : decode cX7_least 22 = .ok (.iload_n 2, 1) := by decide +kernel
theorem dX7_least_23 : decode cX7_least 23 = .ok (.invokevirtual 209, 3) := by decide +kernel
theorem dX7_least_26 : decode cX7_least 26 = .ok (.aload_n 0, 1) := by decide +kernel
theorem dX7_least_27 : decode cX7_least 27 = .ok (.getfield 41, 3) := by decide +kernel
theorem dX7_least_30 : decode cX7_least 30 = .ok (.getfield 213, 3) := by decide +kernel
theorem dX7_least_33 : decode cX7_least 33 = .ok (.ireturn, 1) := by decide +kernel
set_option maxRecDepth 20000 in
theorem ggX7_rows_X7_refusalOfTurns : GoodIn wsX7_rows wsX7_refusalOfTurns := goodIn_r _ [10, 2, 11, 12, 13, 14, 15, 16, 17, 18, 19, 20, 21, 22, 23, 24, 25, 26, 103, 104, 105, 106, 107, 108, 109, 110, 111, 112, 113, 114, 119, 120, 121, 122, 123, 124, 125, 126, 127, 128, 129, 130, 131] (by decide +kernel) (by decide +kernel)
set_option maxRecDepth 20000 in
theorem gX7_rows_X7_refusalOfTurns : GoodIn wsX7_rows (wsV RX7 206 RX7 yX7_refusalOfTurns wsX7_refusalOfTurns) := goodIn_app (goodIn_of _ (by decide +kernel)) ggX7_rows_X7_refusalOfTurns
set_option maxRecDepth 20000 in
theorem ggX7_rows_X6_tryAll : GoodIn wsX7_rows wsX6_tryAll := goodIn_r _ [31, 32, 33, 34, 35, 36, 37, 30, 38, 39, 40, 41, 42, 43, 44, 45, 46, 47, 48, 49, 50, 14, 51, 52, 53, 54, 55, 56, 57, 58, 59, 60, 61, 62, 63, 64, 65, 66, 67, 68, 69, 70, 71, 72, 73, 74, 75, 76, 77, 78, 79, 80, 81, 82, 83, 84, 85, 86, 87, 88, 89, 90, 91, 92, 21, 93, 94, 95, 96, 115, 116, 117, 118, 119, 120, 121, 122, 123, 124, 125, 126, 127, 128, 129, 130, 131] (by decide +kernel) (by decide +kernel)
set_option maxRecDepth 20000 in
theorem gX7_rows_X6_tryAll : GoodIn wsX7_rows (wsV RX7 209 RX6 yX6_tryAll wsX6_tryAll) := goodIn_app (goodIn_of _ (by decide +kernel)) ggX7_rows_X6_tryAll
set_option maxRecDepth 20000 in
theorem ggX7_rows_X7_tellShare : GoodIn wsX7_rows wsX7_tellShare := goodIn_r _ [100, 101, 102, 103, 104, 105, 106, 107, 108, 109, 110, 111, 112, 113, 114] (by decide +kernel) (by decide +kernel)
set_option maxRecDepth 20000 in
theorem gX7_rows_X7_tellShare : GoodIn wsX7_rows (wsV RX7 222 RX7 yX7_tellShare wsX7_tellShare) := goodIn_app (goodIn_of _ (by decide +kernel)) ggX7_rows_X7_tellShare
theorem dX7_rows_0 : decode cX7_rows 0 = .ok (.aload_n 0, 1) := by decide +kernel
theorem dX7_rows_1 : decode cX7_rows 1 = .ok (.iload_n 1, 1) := by decide +kernel
theorem dX7_rows_2 : decode cX7_rows 2 = .ok (.iload_n 2, 1) := by decide +kernel
theorem dX7_rows_3 : decode cX7_rows 3 = .ok (.invokevirtual 206, 3) := by decide +kernel
theorem dX7_rows_6 : decode cX7_rows 6 = .ok (.istore_n 3, 1) := by decide +kernel
theorem dX7_rows_7 : decode cX7_rows 7 = .ok (.iload_n 3, 1) := by decide +kernel
theorem dX7_rows_8 : decode cX7_rows 8 = .ok (.ifCond .eq 5, 3) := by decide +kernel
theorem dX7_rows_11 : decode cX7_rows 11 = .ok (.iload_n 3, 1) := by decide +kernel
theorem dX7_rows_12 : decode cX7_rows 12 = .ok (.ireturn, 1) := by decide +kernel
theorem dX7_rows_13 : decode cX7_rows 13 = .ok (.aload_n 0, 1) := by decide +kernel
theorem dX7_rows_14 : decode cX7_rows 14 = .ok (.getfield 41, 3) := by decide +kernel
theorem dX7_rows_17 : decode cX7_rows 17 = .ok (.aload_n 0, 1) := by decide +kernel
theorem dX7_rows_18 : decode cX7_rows 18 = .ok (.getfield 27, 3) := by decide +kernel
theorem dX7_rows_21 : decode cX7_rows 21 = .ok (.iload_n 1, 1) := by decide +kernel
theorem dX7_rows_22 : decode cX7_rows 22 = .ok (.iload_n 2, 1) := by decide +kernel
theorem dX7_rows_23 : decode cX7_rows 23 = .ok (.invokevirtual 209, 3) := by decide +kernel
theorem dX7_rows_26 : decode cX7_rows 26 = .ok (.aload_n 0, 1) := by decide +kernel
theorem dX7_rows_27 : decode cX7_rows 27 = .ok (.aload_n 0, 1) := by decide +kernel
theorem dX7_rows_28 : decode cX7_rows 28 = .ok (.getfield 41, 3) := by decide +kernel
theorem dX7_rows_31 : decode cX7_rows 31 = .ok (.getfield 216, 3) := by decide +kernel
theorem dX7_rows_34 : decode cX7_rows 34 = .ok (.putfield 60, 3) := by decide +kernel
theorem dX7_rows_37 : decode cX7_rows 37 = .ok (.aload_n 0, 1) := by decide +kernel
theorem dX7_rows_38 : decode cX7_rows 38 = .ok (.aload_n 0, 1) := by decide +kernel
theorem dX7_rows_39 : decode cX7_rows 39 = .ok (.getfield 41, 3) := by decide +kernel
theorem dX7_rows_42 : decode cX7_rows 42 = .ok (.getfield 219, 3) := by decide +kernel
theorem dX7_rows_45 : decode cX7_rows 45 = .ok (.lconst 1, 1) := by decide +kernel
theorem dX7_rows_46 : decode cX7_rows 46 = .ok (.invokevirtual 222, 3) := by decide +kernel
theorem dX7_rows_49 : decode cX7_rows 49 = .ok (.iconst 1, 1) := by decide +kernel
theorem dX7_rows_50 : decode cX7_rows 50 = .ok (.ireturn, 1) := by decide +kernel
set_option maxRecDepth 20000 in
theorem ggX7_refusalOfTurns_X2_hasPerson : GoodIn wsX7_refusalOfTurns wsX2_hasPerson := goodIn_r _ [6, 7, 30, 31, 32, 33, 34, 35, 36, 37, 38, 39, 40, 41, 42] (by decide +kernel) (by decide +kernel)
set_option maxRecDepth 20000 in
theorem gX7_refusalOfTurns_X2_hasPerson : GoodIn wsX7_refusalOfTurns (wsV RX7 158 RX2 yX2_hasPerson wsX2_hasPerson) := goodIn_app (goodIn_of _ (by decide +kernel)) ggX7_refusalOfTurns_X2_hasPerson
set_option maxRecDepth 20000 in
theorem ggX7_refusalOfTurns_X2_isAnyOver : GoodIn wsX7_refusalOfTurns wsX2_isAnyOver := goodIn_r _ [11, 12, 30, 31, 32, 33, 34, 35, 36, 37, 38, 39, 40, 41, 42] (by decide +kernel) (by decide +kernel)
set_option maxRecDepth 20000 in
theorem gX7_refusalOfTurns_X2_isAnyOver : GoodIn wsX7_refusalOfTurns (wsV RX7 164 RX2 yX2_isAnyOver wsX2_isAnyOver) := goodIn_app (goodIn_of _ (by decide +kernel)) ggX7_refusalOfTurns_X2_isAnyOver
set_option maxRecDepth 20000 in
theorem ggX7_refusalOfTurns_X2_isEmpty : GoodIn wsX7_refusalOfTurns wsX2_isEmpty := goodIn_r _ [16, 17, 7, 30, 31, 32, 33, 34, 35, 36, 37, 38, 39, 40, 41, 42] (by decide +kernel) (by decide +kernel)
set_option maxRecDepth 20000 in
theorem gX7_refusalOfTurns_X2_isEmpty : GoodIn wsX7_refusalOfTurns (wsV RX7 181 RX2 yX2_isEmpty wsX2_isEmpty) := goodIn_app (goodIn_of _ (by decide +kernel)) ggX7_refusalOfTurns_X2_isEmpty
theorem dX7_refusalOfTurns_0 : decode cX7_refusalOfTurns 0 = .ok (.aload_n 0, 1) := by decide +kernel
theorem dX7_refusalOfTurns_1 : decode cX7_refusalOfTurns 1 = .ok (.getfield 27, 3) := by decide +kernel
theorem dX7_refusalOfTurns_4 : decode cX7_refusalOfTurns 4 = .ok (.iload_n 1, 1) := by decide +kernel
theorem dX7_refusalOfTurns_5 : decode cX7_refusalOfTurns 5 = .ok (.invokevirtual 158, 3) := by decide +kernel
theorem dX7_refusalOfTurns_8 : decode cX7_refusalOfTurns 8 = .ok (.ifCond .eq 12, 3) := by decide +kernel
theorem dX7_refusalOfTurns_11 : decode cX7_refusalOfTurns 11 = .ok (.iload_n 2, 1) := by decide +kernel
theorem dX7_refusalOfTurns_12 : decode cX7_refusalOfTurns 12 = .ok (.ifCond .lt 8, 3) := by decide +kernel
theorem dX7_refusalOfTurns_15 : decode cX7_refusalOfTurns 15 = .ok (.iload_n 2, 1) := by decide +kernel
theorem dX7_refusalOfTurns_16 : decode cX7_refusalOfTurns 16 = .ok (.iconst 5, 1) := by decide +kernel
theorem dX7_refusalOfTurns_17 : decode cX7_refusalOfTurns 17 = .ok (.if_icmp .le 5, 3) := by decide +kernel
theorem dX7_refusalOfTurns_20 : decode cX7_refusalOfTurns 20 = .ok (.iconst (-1), 1) := by decide +kernel
theorem dX7_refusalOfTurns_21 : decode cX7_refusalOfTurns 21 = .ok (.ireturn, 1) := by decide +kernel
theorem dX7_refusalOfTurns_22 : decode cX7_refusalOfTurns 22 = .ok (.aload_n 0, 1) := by decide +kernel
theorem dX7_refusalOfTurns_23 : decode cX7_refusalOfTurns 23 = .ok (.getfield 27, 3) := by decide +kernel
theorem dX7_refusalOfTurns_26 : decode cX7_refusalOfTurns 26 = .ok (.invokevirtual 164, 3) := by decide +kernel
theorem dX7_refusalOfTurns_29 : decode cX7_refusalOfTurns 29 = .ok (.ifCond .ne 13, 3) := by decide +kernel
theorem dX7_refusalOfTurns_32 : decode cX7_refusalOfTurns 32 = .ok (.aload_n 0, 1) := by decide +kernel
theorem dX7_refusalOfTurns_33 : decode cX7_refusalOfTurns 33 = .ok (.getfield 27, 3) := by decide +kernel
theorem dX7_refusalOfTurns_36 : decode cX7_refusalOfTurns 36 = .ok (.invokevirtual 181, 3) := by decide +kernel
theorem dX7_refusalOfTurns_39 : decode cX7_refusalOfTurns 39 = .ok (.ifCond .eq 8, 3) := by decide +kernel
theorem dX7_refusalOfTurns_42 : decode cX7_refusalOfTurns 42 = .ok (.bipush (-4), 2) := by decide +kernel
theorem dX7_refusalOfTurns_44 : decode cX7_refusalOfTurns 44 = .ok (.goto 4, 3) := by decide +kernel
theorem dX7_refusalOfTurns_47 : decode cX7_refusalOfTurns 47 = .ok (.iconst 0, 1) := by decide +kernel
theorem dX7_refusalOfTurns_48 : decode cX7_refusalOfTurns 48 = .ok (.ireturn, 1) := by decide +kernel
theorem dX7_stuck_0 : decode cX7_stuck 0 = .ok (.aload_n 0, 1) := by decide +kernel
theorem dX7_stuck_1 : decode cX7_stuck 1 = .ok (.getfield 27, 3) := by decide +kernel
theorem dX7_stuck_4 : decode cX7_stuck 4 = .ok (.getfield 226, 3) := by decide +kernel
theorem dX7_stuck_7 : decode cX7_stuck 7 = .ok (.ireturn, 1) := by decide +kernel
set_option maxRecDepth 20000 in
theorem ggX7_way_X3_hasRooms : GoodIn wsX7_way wsX3_hasRooms := goodIn_r _ [6] (by decide +kernel) (by decide +kernel)
set_option maxRecDepth 20000 in
theorem gX7_way_X3_hasRooms : GoodIn wsX7_way (va_wsS RX7 229 yX3_hasRooms wsX3_hasRooms) := goodIn_app (goodIn_of _ (by decide +kernel)) ggX7_way_X3_hasRooms
set_option maxRecDepth 20000 in
theorem ggX7_way_X3_steps : GoodIn wsX7_way wsX3_steps := goodIn_r _ [9, 10, 11, 5, 12] (by decide +kernel) (by decide +kernel)
set_option maxRecDepth 20000 in
theorem gX7_way_X3_steps : GoodIn wsX7_way (va_wsS RX7 234 yX3_steps wsX3_steps) := goodIn_app (goodIn_of _ (by decide +kernel)) ggX7_way_X3_steps
theorem dX7_way_0 : decode cX7_way 0 = .ok (.iload_n 1, 1) := by decide +kernel
theorem dX7_way_1 : decode cX7_way 1 = .ok (.iload_n 2, 1) := by decide +kernel
theorem dX7_way_2 : decode cX7_way 2 = .ok (.invokestatic 229, 3) := by decide +kernel
theorem dX7_way_5 : decode cX7_way 5 = .ok (.ifCond .eq 18, 3) := by decide +kernel
theorem dX7_way_8 : decode cX7_way 8 = .ok (.iload_n 1, 1) := by decide +kernel
theorem dX7_way_9 : decode cX7_way 9 = .ok (.iload_n 2, 1) := by decide +kernel
theorem dX7_way_10 : decode cX7_way 10 = .ok (.aload_n 0, 1) := by decide +kernel
theorem dX7_way_11 : decode cX7_way 11 = .ok (.getfield 27, 3) := by decide +kernel
theorem dX7_way_14 : decode cX7_way 14 = .ok (.getfield 226, 3) := by decide +kernel
theorem dX7_way_17 : decode cX7_way 17 = .ok (.invokestatic 234, 3) := by decide +kernel
theorem dX7_way_20 : decode cX7_way 20 = .ok (.goto 4, 3) := by decide +kernel
theorem dX7_way_23 : decode cX7_way 23 = .ok (.iconst (-1), 1) := by decide +kernel
theorem dX7_way_24 : decode cX7_way 24 = .ok (.ireturn, 1) := by decide +kernel
set_option maxRecDepth 20000 in
theorem ggX7_cuts_X3_hasRooms : GoodIn wsX7_cuts wsX3_hasRooms := goodIn_r _ [6] (by decide +kernel) (by decide +kernel)
set_option maxRecDepth 20000 in
theorem gX7_cuts_X3_hasRooms : GoodIn wsX7_cuts (va_wsS RX7 229 yX3_hasRooms wsX3_hasRooms) := goodIn_app (goodIn_of _ (by decide +kernel)) ggX7_cuts_X3_hasRooms
set_option maxRecDepth 20000 in
theorem ggX7_cuts_X3_onEachWay : GoodIn wsX7_cuts wsX3_onEachWay := goodIn_r _ [9, 10, 11, 5, 12, 13, 14, 15] (by decide +kernel) (by decide +kernel)
set_option maxRecDepth 20000 in
theorem gX7_cuts_X3_onEachWay : GoodIn wsX7_cuts (va_wsS RX7 238 yX3_onEachWay wsX3_onEachWay) := goodIn_app (goodIn_of _ (by decide +kernel)) ggX7_cuts_X3_onEachWay
theorem dX7_cuts_0 : decode cX7_cuts 0 = .ok (.iload_n 1, 1) := by decide +kernel
theorem dX7_cuts_1 : decode cX7_cuts 1 = .ok (.iload_n 2, 1) := by decide +kernel
theorem dX7_cuts_2 : decode cX7_cuts 2 = .ok (.invokestatic 229, 3) := by decide +kernel
theorem dX7_cuts_5 : decode cX7_cuts 5 = .ok (.ifCond .eq 18, 3) := by decide +kernel
theorem dX7_cuts_8 : decode cX7_cuts 8 = .ok (.iload_n 1, 1) := by decide +kernel
theorem dX7_cuts_9 : decode cX7_cuts 9 = .ok (.iload_n 2, 1) := by decide +kernel
theorem dX7_cuts_10 : decode cX7_cuts 10 = .ok (.aload_n 0, 1) := by decide +kernel
theorem dX7_cuts_11 : decode cX7_cuts 11 = .ok (.getfield 27, 3) := by decide +kernel
theorem dX7_cuts_14 : decode cX7_cuts 14 = .ok (.getfield 226, 3) := by decide +kernel
theorem dX7_cuts_17 : decode cX7_cuts 17 = .ok (.invokestatic 238, 3) := by decide +kernel
theorem dX7_cuts_20 : decode cX7_cuts 20 = .ok (.goto 4, 3) := by decide +kernel
theorem dX7_cuts_23 : decode cX7_cuts 23 = .ok (.iconst (-1), 1) := by decide +kernel
theorem dX7_cuts_24 : decode cX7_cuts 24 = .ok (.ireturn, 1) := by decide +kernel
set_option maxRecDepth 20000 in
theorem ggX7_round_X3_hasRooms : GoodIn wsX7_round wsX3_hasRooms := goodIn_r _ [6] (by decide +kernel) (by decide +kernel)
set_option maxRecDepth 20000 in
theorem gX7_round_X3_hasRooms : GoodIn wsX7_round (va_wsS RX7 229 yX3_hasRooms wsX3_hasRooms) := goodIn_app (goodIn_of _ (by decide +kernel)) ggX7_round_X3_hasRooms
set_option maxRecDepth 20000 in
theorem ggX7_round_X3_steps : GoodIn wsX7_round wsX3_steps := goodIn_r _ [9, 10, 11, 5, 12] (by decide +kernel) (by decide +kernel)
set_option maxRecDepth 20000 in
theorem gX7_round_X3_steps : GoodIn wsX7_round (va_wsS RX7 234 yX3_steps wsX3_steps) := goodIn_app (goodIn_of _ (by decide +kernel)) ggX7_round_X3_steps
theorem dX7_round_0 : decode cX7_round 0 = .ok (.iload_n 1, 1) := by decide +kernel
theorem dX7_round_1 : decode cX7_round 1 = .ok (.iload_n 2, 1) := by decide +kernel
theorem dX7_round_2 : decode cX7_round 2 = .ok (.invokestatic 229, 3) := by decide +kernel
theorem dX7_round_5 : decode cX7_round 5 = .ok (.ifCond .ne 5, 3) := by decide +kernel
theorem dX7_round_8 : decode cX7_round 8 = .ok (.iconst (-1), 1) := by decide +kernel
theorem dX7_round_9 : decode cX7_round 9 = .ok (.ireturn, 1) := by decide +kernel
theorem dX7_round_10 : decode cX7_round 10 = .ok (.iload_n 1, 1) := by decide +kernel
theorem dX7_round_11 : decode cX7_round 11 = .ok (.iload_n 2, 1) := by decide +kernel
theorem dX7_round_12 : decode cX7_round 12 = .ok (.aload_n 0, 1) := by decide +kernel
theorem dX7_round_13 : decode cX7_round 13 = .ok (.getfield 27, 3) := by decide +kernel
theorem dX7_round_16 : decode cX7_round 16 = .ok (.getfield 226, 3) := by decide +kernel
theorem dX7_round_19 : decode cX7_round 19 = .ok (.invokestatic 234, 3) := by decide +kernel
theorem dX7_round_22 : decode cX7_round 22 = .ok (.istore_n 3, 1) := by decide +kernel
theorem dX7_round_23 : decode cX7_round 23 = .ok (.iload_n 3, 1) := by decide +kernel
theorem dX7_round_24 : decode cX7_round 24 = .ok (.bipush (-9), 2) := by decide +kernel
theorem dX7_round_26 : decode cX7_round 26 = .ok (.if_icmp .ne 8, 3) := by decide +kernel
theorem dX7_round_29 : decode cX7_round 29 = .ok (.bipush (-9), 2) := by decide +kernel
theorem dX7_round_31 : decode cX7_round 31 = .ok (.goto 11, 3) := by decide +kernel
theorem dX7_round_34 : decode cX7_round 34 = .ok (.iload_n 3, 1) := by decide +kernel
theorem dX7_round_35 : decode cX7_round 35 = .ok (.iload_n 1, 1) := by decide +kernel
theorem dX7_round_36 : decode cX7_round 36 = .ok (.iload_n 2, 1) := by decide +kernel
theorem dX7_round_37 : decode cX7_round 37 = .ok (.iconst 0, 1) := by decide +kernel
theorem dX7_round_38 : decode cX7_round 38 = .ok (.invokestatic 234, 3) := by decide +kernel
theorem dX7_round_41 : decode cX7_round 41 = .ok (.isub, 1) := by decide +kernel
theorem dX7_round_42 : decode cX7_round 42 = .ok (.ireturn, 1) := by decide +kernel
set_option maxRecDepth 20000 in
theorem ggX7_never_X7_refusalOfNamed : GoodIn wsX7_never wsX7_refusalOfNamed := goodIn_r _ [5, 6, 7, 8, 9, 10, 11, 12, 4, 13, 14, 15, 16, 17, 18, 19, 20, 21, 22, 23, 24, 25, 26, 27, 28, 29, 30, 31, 32, 33, 34, 35, 36, 42, 43, 44, 45, 46, 47, 48, 49, 50, 51, 52, 53, 54, 55, 56, 57, 58, 59, 60, 61, 62, 63, 64, 65, 66, 67, 68] (by decide +kernel) (by decide +kernel)
set_option maxRecDepth 20000 in
theorem gX7_never_X7_refusalOfNamed : GoodIn wsX7_never (wsV RX7 241 RX7 yX7_refusalOfNamed wsX7_refusalOfNamed) := goodIn_app (goodIn_of _ (by decide +kernel)) ggX7_never_X7_refusalOfNamed
set_option maxRecDepth 20000 in
theorem ggX7_never_X7_topicsOfNamed : GoodIn wsX7_never wsX7_topicsOfNamed := goodIn_r _ [40, 6, 7, 8, 41, 9, 42, 43, 44, 45, 46, 47, 48, 49, 50, 51, 52, 53, 54, 55, 56, 57, 58, 59, 60, 61, 62, 63, 64, 65, 66, 67, 68] (by decide +kernel) (by decide +kernel)
set_option maxRecDepth 20000 in
theorem gX7_never_X7_topicsOfNamed : GoodIn wsX7_never (wsV RX7 244 RX7 yX7_topicsOfNamed wsX7_topicsOfNamed) := goodIn_app (goodIn_of _ (by decide +kernel)) ggX7_never_X7_topicsOfNamed
theorem dX7_never_0 : decode cX7_never 0 = .ok (.aload_n 0, 1) := by decide +kernel
theorem dX7_never_1 : decode cX7_never 1 = .ok (.iload_n 1, 1) := by decide +kernel
theorem dX7_never_2 : decode cX7_never 2 = .ok (.invokevirtual 241, 3) := by decide +kernel
theorem dX7_never_5 : decode cX7_never 5 = .ok (.istore_n 2, 1) := by decide +kernel
theorem dX7_never_6 : decode cX7_never 6 = .ok (.iload_n 2, 1) := by decide +kernel
theorem dX7_never_7 : decode cX7_never 7 = .ok (.ifCond .eq 7, 3) := by decide +kernel
theorem dX7_never_10 : decode cX7_never 10 = .ok (.iload_n 2, 1) := by decide +kernel
theorem dX7_never_11 : decode cX7_never 11 = .ok (.goto 13, 3) := by decide +kernel
theorem dX7_never_14 : decode cX7_never 14 = .ok (.bipush 7, 2) := by decide +kernel
theorem dX7_never_16 : decode cX7_never 16 = .ok (.aload_n 0, 1) := by decide +kernel
theorem dX7_never_17 : decode cX7_never 17 = .ok (.iload_n 1, 1) := by decide +kernel
theorem dX7_never_18 : decode cX7_never 18 = .ok (.invokevirtual 244, 3) := by decide +kernel
theorem dX7_never_21 : decode cX7_never 21 = .ok (.iconst (-1), 1) := by decide +kernel
theorem dX7_never_22 : decode cX7_never 22 = .ok (.ixor, 1) := by decide +kernel
theorem dX7_never_23 : decode cX7_never 23 = .ok (.iand, 1) := by decide +kernel
theorem dX7_never_24 : decode cX7_never 24 = .ok (.ireturn, 1) := by decide +kernel
set_option maxRecDepth 20000 in
theorem ggX7_next_X5_isNumber : GoodIn wsX7_next wsX5_isNumber := goodIn_r _ [10, 11, 101, 102] (by decide +kernel) (by decide +kernel)
set_option maxRecDepth 20000 in
theorem gX7_next_X5_isNumber : GoodIn wsX7_next (wsV RX7 70 RX5 yX5_isNumber wsX5_isNumber) := goodIn_app (goodIn_of _ (by decide +kernel)) ggX7_next_X5_isNumber
set_option maxRecDepth 20000 in
theorem ggX7_next_X2_isEmpty : GoodIn wsX7_next wsX2_isEmpty := goodIn_r _ [16, 17, 18, 88, 89, 90, 91, 92, 93, 94, 95, 96, 97, 98, 99, 100] (by decide +kernel) (by decide +kernel)
set_option maxRecDepth 20000 in
theorem gX7_next_X2_isEmpty : GoodIn wsX7_next (wsV RX7 181 RX2 yX2_isEmpty wsX2_isEmpty) := goodIn_app (goodIn_of _ (by decide +kernel)) ggX7_next_X2_isEmpty
set_option maxRecDepth 20000 in
theorem ggX7_next_X7_refusalOfNamed : GoodIn wsX7_next wsX7_refusalOfNamed := goodIn_r _ [23, 1, 24, 2, 25, 26, 27, 28, 22, 29, 6, 7, 8, 9, 10, 11, 30, 31, 32, 33, 34, 35, 36, 37, 38, 39, 40, 41, 42, 43, 15, 44, 17, 76, 77, 78, 79, 80, 81, 82, 83, 84, 85, 86, 87, 101, 102, 88, 89, 90, 91, 92, 93, 94, 95, 96, 97, 98, 99, 100] (by decide +kernel) (by decide +kernel)
set_option maxRecDepth 20000 in
theorem gX7_next_X7_refusalOfNamed : GoodIn wsX7_next (wsV RX7 241 RX7 yX7_refusalOfNamed wsX7_refusalOfNamed) := goodIn_app (goodIn_of _ (by decide +kernel)) ggX7_next_X7_refusalOfNamed
set_option maxRecDepth 20000 in
theorem ggX7_next_X7_topicsOfNamed : GoodIn wsX7_next wsX7_topicsOfNamed := goodIn_r _ [48, 1, 24, 2, 4, 25, 76, 77, 78, 79, 80, 81, 82, 83, 84, 85, 86, 87, 101, 102, 88, 89, 90, 91, 92, 93, 94, 95, 96, 97, 98, 99, 100] (by decide +kernel) (by decide +kernel)
set_option maxRecDepth 20000 in
theorem gX7_next_X7_topicsOfNamed : GoodIn wsX7_next (wsV RX7 244 RX7 yX7_topicsOfNamed wsX7_topicsOfNamed) := goodIn_app (goodIn_of _ (by decide +kernel)) ggX7_next_X7_topicsOfNamed
set_option maxRecDepth 20000 in
theorem ggX7_next_J6_bitCount_0f7a4 : GoodIn wsX7_next wsJ6_bitCount_0f7a4 := goodIn_r _ [52, 53, 54, 55] (by decide +kernel) (by decide +kernel)
set_option maxRecDepth 20000 in
theorem gX7_next_J6_bitCount_0f7a4 : GoodIn wsX7_next (va_wsS RX7 153 yJ6_bitCount_0f7a4 wsJ6_bitCount_0f7a4) := goodIn_app (goodIn_of _ (by decide +kernel)) ggX7_next_J6_bitCount_0f7a4
set_option maxRecDepth 20000 in
theorem ggX7_next_X2_nearNow : GoodIn wsX7_next wsX2_nearNow := goodIn_r _ [59, 60, 61, 62, 63, 64, 65, 15, 66, 67, 68, 50, 51, 52, 53, 54, 55, 69, 70, 71, 72, 73, 74, 75, 88, 89, 90, 91, 92, 93, 94, 95, 96, 97, 98, 99, 100] (by decide +kernel) (by decide +kernel)
set_option maxRecDepth 20000 in
theorem gX7_next_X2_nearNow : GoodIn wsX7_next (wsV RX7 196 RX2 yX2_nearNow wsX2_nearNow) := goodIn_app (goodIn_of _ (by decide +kernel)) ggX7_next_X2_nearNow
theorem dX7_next_0 : decode cX7_next 0 = .ok (.aload_n 0, 1) := by decide +kernel
theorem dX7_next_1 : decode cX7_next 1 = .ok (.getfield 14, 3) := by decide +kernel
theorem dX7_next_4 : decode cX7_next 4 = .ok (.iload_n 1, 1) := by decide +kernel
theorem dX7_next_5 : decode cX7_next 5 = .ok (.invokevirtual 70, 3) := by decide +kernel
theorem dX7_next_8 : decode cX7_next 8 = .ok (.ifCond .ne 5, 3) := by decide +kernel
theorem dX7_next_11 : decode cX7_next 11 = .ok (.iconst (-1), 1) := by decide +kernel
theorem dX7_next_12 : decode cX7_next 12 = .ok (.ireturn, 1) := by decide +kernel
theorem dX7_next_13 : decode cX7_next 13 = .ok (.aload_n 0, 1) := by decide +kernel
theorem dX7_next_14 : decode cX7_next 14 = .ok (.getfield 27, 3) := by decide +kernel
theorem dX7_next_17 : decode cX7_next 17 = .ok (.invokevirtual 181, 3) := by decide +kernel
theorem dX7_next_20 : decode cX7_next 20 = .ok (.ifCond .eq 6, 3) := by decide +kernel
theorem dX7_next_23 : decode cX7_next 23 = .ok (.bipush (-4), 2) := by decide +kernel
theorem dX7_next_25 : decode cX7_next 25 = .ok (.ireturn, 1) := by decide +kernel
theorem dX7_next_26 : decode cX7_next 26 = .ok (.aload_n 0, 1) := by decide +kernel
theorem dX7_next_27 : decode cX7_next 27 = .ok (.iload_n 1, 1) := by decide +kernel
theorem dX7_next_28 : decode cX7_next 28 = .ok (.invokevirtual 241, 3) := by decide +kernel
theorem dX7_next_31 : decode cX7_next 31 = .ok (.istore_n 2, 1) := by decide +kernel
theorem dX7_next_32 : decode cX7_next 32 = .ok (.iload_n 2, 1) := by decide +kernel
theorem dX7_next_33 : decode cX7_next 33 = .ok (.ifCond .eq 5, 3) := by decide +kernel
theorem dX7_next_36 : decode cX7_next 36 = .ok (.iload_n 2, 1) := by decide +kernel
theorem dX7_next_37 : decode cX7_next 37 = .ok (.ireturn, 1) := by decide +kernel
theorem dX7_next_38 : decode cX7_next 38 = .ok (.bipush 7, 2) := by decide +kernel
theorem dX7_next_40 : decode cX7_next 40 = .ok (.aload_n 0, 1) := by decide +kernel
theorem dX7_next_41 : decode cX7_next 41 = .ok (.iload_n 1, 1) := by decide +kernel
theorem dX7_next_42 : decode cX7_next 42 = .ok (.invokevirtual 244, 3) := by decide +kernel
theorem dX7_next_45 : decode cX7_next 45 = .ok (.iconst (-1), 1) := by decide +kernel
theorem dX7_next_46 : decode cX7_next 46 = .ok (.ixor, 1) := by decide +kernel
theorem dX7_next_47 : decode cX7_next 47 = .ok (.iand, 1) := by decide +kernel
theorem dX7_next_48 : decode cX7_next 48 = .ok (.istore_n 3, 1) := by decide +kernel
theorem dX7_next_49 : decode cX7_next 49 = .ok (.iconst 0, 1) := by decide +kernel
theorem dX7_next_50 : decode cX7_next 50 = .ok (.istore 4, 2) := by decide +kernel
theorem dX7_next_52 : decode cX7_next 52 = .ok (.iconst (-1), 1) := by decide +kernel
theorem dX7_next_53 : decode cX7_next 53 = .ok (.istore 5, 2) := by decide +kernel
theorem dX7_next_55 : decode cX7_next 55 = .ok (.iconst 0, 1) := by decide +kernel
theorem dX7_next_56 : decode cX7_next 56 = .ok (.istore 6, 2) := by decide +kernel
theorem dX7_next_58 : decode cX7_next 58 = .ok (.iload 6, 2) := by decide +kernel
theorem dX7_next_60 : decode cX7_next 60 = .ok (.aload_n 0, 1) := by decide +kernel
theorem dX7_next_61 : decode cX7_next 61 = .ok (.getfield 27, 3) := by decide +kernel
theorem dX7_next_64 : decode cX7_next 64 = .ok (.getfield 121, 3) := by decide +kernel
theorem dX7_next_67 : decode cX7_next 67 = .ok (.if_icmp .ge 69, 3) := by decide +kernel
theorem dX7_next_70 : decode cX7_next 70 = .ok (.aload_n 0, 1) := by decide +kernel
theorem dX7_next_71 : decode cX7_next 71 = .ok (.getfield 27, 3) := by decide +kernel
theorem dX7_next_74 : decode cX7_next 74 = .ok (.getfield 247, 3) := by decide +kernel
theorem dX7_next_77 : decode cX7_next 77 = .ok (.iload 6, 2) := by decide +kernel
theorem dX7_next_79 : decode cX7_next 79 = .ok (.iaload, 1) := by decide +kernel
theorem dX7_next_80 : decode cX7_next 80 = .ok (.iload_n 3, 1) := by decide +kernel
theorem dX7_next_81 : decode cX7_next 81 = .ok (.iand, 1) := by decide +kernel
theorem dX7_next_82 : decode cX7_next 82 = .ok (.invokestatic 153, 3) := by decide +kernel
theorem dX7_next_85 : decode cX7_next 85 = .ok (.istore 7, 2) := by decide +kernel
theorem dX7_next_87 : decode cX7_next 87 = .ok (.iload 7, 2) := by decide +kernel
theorem dX7_next_89 : decode cX7_next 89 = .ok (.iload 5, 2) := by decide +kernel
theorem dX7_next_91 : decode cX7_next 91 = .ok (.if_icmp .gt 31, 3) := by decide +kernel
theorem dX7_next_94 : decode cX7_next 94 = .ok (.iload 7, 2) := by decide +kernel
theorem dX7_next_96 : decode cX7_next 96 = .ok (.iload 5, 2) := by decide +kernel
theorem dX7_next_98 : decode cX7_next 98 = .ok (.if_icmp .ne 32, 3) := by decide +kernel
theorem dX7_next_101 : decode cX7_next 101 = .ok (.aload_n 0, 1) := by decide +kernel
theorem dX7_next_102 : decode cX7_next 102 = .ok (.getfield 27, 3) := by decide +kernel
theorem dX7_next_105 : decode cX7_next 105 = .ok (.iload 6, 2) := by decide +kernel
theorem dX7_next_107 : decode cX7_next 107 = .ok (.invokevirtual 196, 3) := by decide +kernel
theorem dX7_next_110 : decode cX7_next 110 = .ok (.aload_n 0, 1) := by decide +kernel
theorem dX7_next_111 : decode cX7_next 111 = .ok (.getfield 27, 3) := by decide +kernel
theorem dX7_next_114 : decode cX7_next 114 = .ok (.iload 4, 2) := by decide +kernel
theorem dX7_next_116 : decode cX7_next 116 = .ok (.invokevirtual 196, 3) := by decide +kernel
theorem dX7_next_119 : decode cX7_next 119 = .ok (.if_icmp .ge 11, 3) := by decide +kernel
theorem dX7_next_122 : decode cX7_next 122 = .ok (.iload 6, 2) := by decide +kernel
theorem dX7_next_124 : decode cX7_next 124 = .ok (.istore 4, 2) := by decide +kernel
theorem dX7_next_126 : decode cX7_next 126 = .ok (.iload 7, 2) := by decide +kernel
theorem dX7_next_128 : decode cX7_next 128 = .ok (.istore 5, 2) := by decide +kernel
theorem dX7_next_130 : decode cX7_next 130 = .ok (.iinc 6 1, 3) := by decide +kernel
theorem dX7_next_133 : decode cX7_next 133 = .ok (.goto (-75), 3) := by decide +kernel
theorem dX7_next_136 : decode cX7_next 136 = .ok (.aload_n 0, 1) := by decide +kernel
theorem dX7_next_137 : decode cX7_next 137 = .ok (.iload 5, 2) := by decide +kernel
theorem dX7_next_139 : decode cX7_next 139 = .ok (.putfield 60, 3) := by decide +kernel
theorem dX7_next_142 : decode cX7_next 142 = .ok (.iload 4, 2) := by decide +kernel
theorem dX7_next_144 : decode cX7_next 144 = .ok (.ireturn, 1) := by decide +kernel
set_option maxRecDepth 20000 in
theorem ggX7_refusalOfNamed_X7_refusalOfRow : GoodIn wsX7_refusalOfNamed wsX7_refusalOfRow := goodIn_r _ [9, 10, 11, 12, 13, 14, 15, 16, 17, 18, 19, 20, 21, 22, 23, 8, 24, 25, 26, 45, 46, 33, 34, 35, 36, 37, 38, 39, 40, 41, 42, 43, 44] (by decide +kernel) (by decide +kernel)
set_option maxRecDepth 20000 in
theorem gX7_refusalOfNamed_X7_refusalOfRow : GoodIn wsX7_refusalOfNamed (wsV RX7 90 RX7 yX7_refusalOfRow wsX7_refusalOfRow) := goodIn_app (goodIn_of _ (by decide +kernel)) ggX7_refusalOfNamed_X7_refusalOfRow
set_option maxRecDepth 20000 in
theorem ggX7_refusalOfNamed_X7_refuse : GoodIn wsX7_refusalOfNamed wsX7_refuse := goodIn_r _ [24, 25, 26, 33, 34, 35, 36, 37, 38, 39, 40, 41, 42, 43, 44] (by decide +kernel) (by decide +kernel)
set_option maxRecDepth 20000 in
theorem gX7_refusalOfNamed_X7_refuse : GoodIn wsX7_refusalOfNamed (wsV RX7 74 RX7 yX7_refuse wsX7_refuse) := goodIn_app (goodIn_of _ (by decide +kernel)) ggX7_refusalOfNamed_X7_refuse
set_option maxRecDepth 20000 in
theorem ggX7_refusalOfNamed_X2_hasSaying : GoodIn wsX7_refusalOfNamed wsX2_hasSaying := goodIn_r _ [31, 32, 47, 48, 49, 50, 51, 52, 53, 54, 55, 56, 57, 58, 59] (by decide +kernel) (by decide +kernel)
set_option maxRecDepth 20000 in
theorem gX7_refusalOfNamed_X2_hasSaying : GoodIn wsX7_refusalOfNamed (wsV RX7 124 RX2 yX2_hasSaying wsX2_hasSaying) := goodIn_app (goodIn_of _ (by decide +kernel)) ggX7_refusalOfNamed_X2_hasSaying
theorem dX7_refusalOfNamed_0 : decode cX7_refusalOfNamed 0 = .ok (.aload_n 0, 1) := by decide +kernel
theorem dX7_refusalOfNamed_1 : decode cX7_refusalOfNamed 1 = .ok (.aload_n 0, 1) := by decide +kernel
theorem dX7_refusalOfNamed_2 : decode cX7_refusalOfNamed 2 = .ok (.getfield 14, 3) := by decide +kernel
theorem dX7_refusalOfNamed_5 : decode cX7_refusalOfNamed 5 = .ok (.iload_n 1, 1) := by decide +kernel
theorem dX7_refusalOfNamed_6 : decode cX7_refusalOfNamed 6 = .ok (.invokevirtual 90, 3) := by decide +kernel
theorem dX7_refusalOfNamed_9 : decode cX7_refusalOfNamed 9 = .ok (.istore_n 2, 1) := by decide +kernel
theorem dX7_refusalOfNamed_10 : decode cX7_refusalOfNamed 10 = .ok (.iload_n 2, 1) := by decide +kernel
theorem dX7_refusalOfNamed_11 : decode cX7_refusalOfNamed 11 = .ok (.ifCond .eq 5, 3) := by decide +kernel
theorem dX7_refusalOfNamed_14 : decode cX7_refusalOfNamed 14 = .ok (.iload_n 2, 1) := by decide +kernel
theorem dX7_refusalOfNamed_15 : decode cX7_refusalOfNamed 15 = .ok (.ireturn, 1) := by decide +kernel
theorem dX7_refusalOfNamed_16 : decode cX7_refusalOfNamed 16 = .ok (.aload_n 0, 1) := by decide +kernel
theorem dX7_refusalOfNamed_17 : decode cX7_refusalOfNamed 17 = .ok (.getfield 14, 3) := by decide +kernel
theorem dX7_refusalOfNamed_20 : decode cX7_refusalOfNamed 20 = .ok (.getfield 94, 3) := by decide +kernel
theorem dX7_refusalOfNamed_23 : decode cX7_refusalOfNamed 23 = .ok (.iload_n 1, 1) := by decide +kernel
theorem dX7_refusalOfNamed_24 : decode cX7_refusalOfNamed 24 = .ok (.iaload, 1) := by decide +kernel
theorem dX7_refusalOfNamed_25 : decode cX7_refusalOfNamed 25 = .ok (.bipush 12, 2) := by decide +kernel
theorem dX7_refusalOfNamed_27 : decode cX7_refusalOfNamed 27 = .ok (.if_icmp .le 9, 3) := by decide +kernel
theorem dX7_refusalOfNamed_30 : decode cX7_refusalOfNamed 30 = .ok (.aload_n 0, 1) := by decide +kernel
theorem dX7_refusalOfNamed_31 : decode cX7_refusalOfNamed 31 = .ok (.iconst 5, 1) := by decide +kernel
theorem dX7_refusalOfNamed_32 : decode cX7_refusalOfNamed 32 = .ok (.invokevirtual 74, 3) := by decide +kernel
theorem dX7_refusalOfNamed_35 : decode cX7_refusalOfNamed 35 = .ok (.ireturn, 1) := by decide +kernel
theorem dX7_refusalOfNamed_36 : decode cX7_refusalOfNamed 36 = .ok (.iconst 0, 1) := by decide +kernel
theorem dX7_refusalOfNamed_37 : decode cX7_refusalOfNamed 37 = .ok (.istore_n 3, 1) := by decide +kernel
theorem dX7_refusalOfNamed_38 : decode cX7_refusalOfNamed 38 = .ok (.iload_n 3, 1) := by decide +kernel
theorem dX7_refusalOfNamed_39 : decode cX7_refusalOfNamed 39 = .ok (.aload_n 0, 1) := by decide +kernel
theorem dX7_refusalOfNamed_40 : decode cX7_refusalOfNamed 40 = .ok (.getfield 14, 3) := by decide +kernel
theorem dX7_refusalOfNamed_43 : decode cX7_refusalOfNamed 43 = .ok (.getfield 94, 3) := by decide +kernel
theorem dX7_refusalOfNamed_46 : decode cX7_refusalOfNamed 46 = .ok (.iload_n 1, 1) := by decide +kernel
theorem dX7_refusalOfNamed_47 : decode cX7_refusalOfNamed 47 = .ok (.iaload, 1) := by decide +kernel
theorem dX7_refusalOfNamed_48 : decode cX7_refusalOfNamed 48 = .ok (.if_icmp .ge 36, 3) := by decide +kernel
theorem dX7_refusalOfNamed_51 : decode cX7_refusalOfNamed 51 = .ok (.aload_n 0, 1) := by decide +kernel
theorem dX7_refusalOfNamed_52 : decode cX7_refusalOfNamed 52 = .ok (.getfield 27, 3) := by decide +kernel
theorem dX7_refusalOfNamed_55 : decode cX7_refusalOfNamed 55 = .ok (.aload_n 0, 1) := by decide +kernel
theorem dX7_refusalOfNamed_56 : decode cX7_refusalOfNamed 56 = .ok (.getfield 14, 3) := by decide +kernel
theorem dX7_refusalOfNamed_59 : decode cX7_refusalOfNamed 59 = .ok (.getfield 86, 3) := by decide +kernel
theorem dX7_refusalOfNamed_62 : decode cX7_refusalOfNamed 62 = .ok (.iload_n 1, 1) := by decide +kernel
theorem dX7_refusalOfNamed_63 : decode cX7_refusalOfNamed 63 = .ok (.aaload, 1) := by decide +kernel
theorem dX7_refusalOfNamed_64 : decode cX7_refusalOfNamed 64 = .ok (.iload_n 3, 1) := by decide +kernel
theorem dX7_refusalOfNamed_65 : decode cX7_refusalOfNamed 65 = .ok (.iaload, 1) := by decide +kernel
theorem dX7_refusalOfNamed_66 : decode cX7_refusalOfNamed 66 = .ok (.invokevirtual 124, 3) := by decide +kernel
theorem dX7_refusalOfNamed_69 : decode cX7_refusalOfNamed 69 = .ok (.ifCond .ne 9, 3) := by decide +kernel
theorem dX7_refusalOfNamed_72 : decode cX7_refusalOfNamed 72 = .ok (.aload_n 0, 1) := by decide +kernel
theorem dX7_refusalOfNamed_73 : decode cX7_refusalOfNamed 73 = .ok (.iconst 3, 1) := by decide +kernel
theorem dX7_refusalOfNamed_74 : decode cX7_refusalOfNamed 74 = .ok (.invokevirtual 74, 3) := by decide +kernel
theorem dX7_refusalOfNamed_77 : decode cX7_refusalOfNamed 77 = .ok (.ireturn, 1) := by decide +kernel
theorem dX7_refusalOfNamed_78 : decode cX7_refusalOfNamed 78 = .ok (.iinc 3 1, 3) := by decide +kernel
theorem dX7_refusalOfNamed_81 : decode cX7_refusalOfNamed 81 = .ok (.goto (-43), 3) := by decide +kernel
theorem dX7_refusalOfNamed_84 : decode cX7_refusalOfNamed 84 = .ok (.iconst 0, 1) := by decide +kernel
theorem dX7_refusalOfNamed_85 : decode cX7_refusalOfNamed 85 = .ok (.ireturn, 1) := by decide +kernel
theorem dX7_topicsOfNamed_0 : decode cX7_topicsOfNamed 0 = .ok (.iconst 0, 1) := by decide +kernel
theorem dX7_topicsOfNamed_1 : decode cX7_topicsOfNamed 1 = .ok (.istore_n 2, 1) := by decide +kernel
theorem dX7_topicsOfNamed_2 : decode cX7_topicsOfNamed 2 = .ok (.iconst 0, 1) := by decide +kernel
theorem dX7_topicsOfNamed_3 : decode cX7_topicsOfNamed 3 = .ok (.istore_n 3, 1) := by decide +kernel
theorem dX7_topicsOfNamed_4 : decode cX7_topicsOfNamed 4 = .ok (.iload_n 3, 1) := by decide +kernel
theorem dX7_topicsOfNamed_5 : decode cX7_topicsOfNamed 5 = .ok (.aload_n 0, 1) := by decide +kernel
theorem dX7_topicsOfNamed_6 : decode cX7_topicsOfNamed 6 = .ok (.getfield 14, 3) := by decide +kernel
theorem dX7_topicsOfNamed_9 : decode cX7_topicsOfNamed 9 = .ok (.getfield 94, 3) := by decide +kernel
theorem dX7_topicsOfNamed_12 : decode cX7_topicsOfNamed 12 = .ok (.iload_n 1, 1) := by decide +kernel
theorem dX7_topicsOfNamed_13 : decode cX7_topicsOfNamed 13 = .ok (.iaload, 1) := by decide +kernel
theorem dX7_topicsOfNamed_14 : decode cX7_topicsOfNamed 14 = .ok (.if_icmp .ge 31, 3) := by decide +kernel
theorem dX7_topicsOfNamed_17 : decode cX7_topicsOfNamed 17 = .ok (.iload_n 2, 1) := by decide +kernel
theorem dX7_topicsOfNamed_18 : decode cX7_topicsOfNamed 18 = .ok (.aload_n 0, 1) := by decide +kernel
theorem dX7_topicsOfNamed_19 : decode cX7_topicsOfNamed 19 = .ok (.getfield 27, 3) := by decide +kernel
theorem dX7_topicsOfNamed_22 : decode cX7_topicsOfNamed 22 = .ok (.getfield 247, 3) := by decide +kernel
theorem dX7_topicsOfNamed_25 : decode cX7_topicsOfNamed 25 = .ok (.aload_n 0, 1) := by decide +kernel
theorem dX7_topicsOfNamed_26 : decode cX7_topicsOfNamed 26 = .ok (.getfield 14, 3) := by decide +kernel
theorem dX7_topicsOfNamed_29 : decode cX7_topicsOfNamed 29 = .ok (.getfield 86, 3) := by decide +kernel
theorem dX7_topicsOfNamed_32 : decode cX7_topicsOfNamed 32 = .ok (.iload_n 1, 1) := by decide +kernel
theorem dX7_topicsOfNamed_33 : decode cX7_topicsOfNamed 33 = .ok (.aaload, 1) := by decide +kernel
theorem dX7_topicsOfNamed_34 : decode cX7_topicsOfNamed 34 = .ok (.iload_n 3, 1) := by decide +kernel
theorem dX7_topicsOfNamed_35 : decode cX7_topicsOfNamed 35 = .ok (.iaload, 1) := by decide +kernel
theorem dX7_topicsOfNamed_36 : decode cX7_topicsOfNamed 36 = .ok (.iaload, 1) := by decide +kernel
theorem dX7_topicsOfNamed_37 : decode cX7_topicsOfNamed 37 = .ok (.ior, 1) := by decide +kernel
theorem dX7_topicsOfNamed_38 : decode cX7_topicsOfNamed 38 = .ok (.istore_n 2, 1) := by decide +kernel
theorem dX7_topicsOfNamed_39 : decode cX7_topicsOfNamed 39 = .ok (.iinc 3 1, 3) := by decide +kernel
theorem dX7_topicsOfNamed_42 : decode cX7_topicsOfNamed 42 = .ok (.goto (-38), 3) := by decide +kernel
theorem dX7_topicsOfNamed_45 : decode cX7_topicsOfNamed 45 = .ok (.iload_n 2, 1) := by decide +kernel
theorem dX7_topicsOfNamed_46 : decode cX7_topicsOfNamed 46 = .ok (.ireturn, 1) := by decide +kernel
set_option maxRecDepth 20000 in
theorem ggX7_kinds_X2_hasSaying : GoodIn wsX7_kinds wsX2_hasSaying := goodIn_r _ [7, 8, 28, 29, 30, 31, 32, 33, 34, 35, 36, 37, 38, 39, 40] (by decide +kernel) (by decide +kernel)
set_option maxRecDepth 20000 in
theorem gX7_kinds_X2_hasSaying : GoodIn wsX7_kinds (wsV RX7 124 RX2 yX2_hasSaying wsX2_hasSaying) := goodIn_app (goodIn_of _ (by decide +kernel)) ggX7_kinds_X2_hasSaying
set_option maxRecDepth 20000 in
theorem ggX7_kinds_X2_nearOf : GoodIn wsX7_kinds wsX2_nearOf := goodIn_r _ [11, 12, 13, 14, 15] (by decide +kernel) (by decide +kernel)
set_option maxRecDepth 20000 in
theorem gX7_kinds_X2_nearOf : GoodIn wsX7_kinds (va_wsS RX7 250 yX2_nearOf wsX2_nearOf) := goodIn_app (goodIn_of _ (by decide +kernel)) ggX7_kinds_X2_nearOf
theorem dX7_kinds_0 : decode cX7_kinds 0 = .ok (.aload_n 0, 1) := by decide +kernel
theorem dX7_kinds_1 : decode cX7_kinds 1 = .ok (.getfield 27, 3) := by decide +kernel
theorem dX7_kinds_4 : decode cX7_kinds 4 = .ok (.iload_n 1, 1) := by decide +kernel
theorem dX7_kinds_5 : decode cX7_kinds 5 = .ok (.invokevirtual 124, 3) := by decide +kernel
theorem dX7_kinds_8 : decode cX7_kinds 8 = .ok (.ifCond .eq 13, 3) := by decide +kernel
theorem dX7_kinds_11 : decode cX7_kinds 11 = .ok (.iload_n 2, 1) := by decide +kernel
theorem dX7_kinds_12 : decode cX7_kinds 12 = .ok (.ifCond .lt 9, 3) := by decide +kernel
theorem dX7_kinds_15 : decode cX7_kinds 15 = .ok (.iload_n 2, 1) := by decide +kernel
theorem dX7_kinds_16 : decode cX7_kinds 16 = .ok (.bipush 99, 2) := by decide +kernel
theorem dX7_kinds_18 : decode cX7_kinds 18 = .ok (.if_icmp .le 5, 3) := by decide +kernel
theorem dX7_kinds_21 : decode cX7_kinds 21 = .ok (.iconst (-1), 1) := by decide +kernel
theorem dX7_kinds_22 : decode cX7_kinds 22 = .ok (.ireturn, 1) := by decide +kernel
theorem dX7_kinds_23 : decode cX7_kinds 23 = .ok (.iload_n 3, 1) := by decide +kernel
theorem dX7_kinds_24 : decode cX7_kinds 24 = .ok (.ifCond .lt 20, 3) := by decide +kernel
theorem dX7_kinds_27 : decode cX7_kinds 27 = .ok (.iload_n 3, 1) := by decide +kernel
theorem dX7_kinds_28 : decode cX7_kinds 28 = .ok (.bipush 9, 2) := by decide +kernel
theorem dX7_kinds_30 : decode cX7_kinds 30 = .ok (.if_icmp .gt 14, 3) := by decide +kernel
theorem dX7_kinds_33 : decode cX7_kinds 33 = .ok (.iload 4, 2) := by decide +kernel
theorem dX7_kinds_35 : decode cX7_kinds 35 = .ok (.ifCond .lt 9, 3) := by decide +kernel
theorem dX7_kinds_38 : decode cX7_kinds 38 = .ok (.iload 4, 2) := by decide +kernel
theorem dX7_kinds_40 : decode cX7_kinds 40 = .ok (.iconst 3, 1) := by decide +kernel
theorem dX7_kinds_41 : decode cX7_kinds 41 = .ok (.if_icmp .le 5, 3) := by decide +kernel
theorem dX7_kinds_44 : decode cX7_kinds 44 = .ok (.iconst (-1), 1) := by decide +kernel
theorem dX7_kinds_45 : decode cX7_kinds 45 = .ok (.ireturn, 1) := by decide +kernel
theorem dX7_kinds_46 : decode cX7_kinds 46 = .ok (.iconst 0, 1) := by decide +kernel
theorem dX7_kinds_47 : decode cX7_kinds 47 = .ok (.istore 5, 2) := by decide +kernel
theorem dX7_kinds_49 : decode cX7_kinds 49 = .ok (.iconst 0, 1) := by decide +kernel
theorem dX7_kinds_50 : decode cX7_kinds 50 = .ok (.istore 6, 2) := by decide +kernel
theorem dX7_kinds_52 : decode cX7_kinds 52 = .ok (.iload 6, 2) := by decide +kernel
theorem dX7_kinds_54 : decode cX7_kinds 54 = .ok (.bipush 6, 2) := by decide +kernel
theorem dX7_kinds_56 : decode cX7_kinds 56 = .ok (.if_icmp .ge 39, 3) := by decide +kernel
theorem dX7_kinds_59 : decode cX7_kinds 59 = .ok (.iload 6, 2) := by decide +kernel
theorem dX7_kinds_61 : decode cX7_kinds 61 = .ok (.aload_n 0, 1) := by decide +kernel
theorem dX7_kinds_62 : decode cX7_kinds 62 = .ok (.getfield 27, 3) := by decide +kernel
theorem dX7_kinds_65 : decode cX7_kinds 65 = .ok (.getfield 138, 3) := by decide +kernel
theorem dX7_kinds_68 : decode cX7_kinds 68 = .ok (.iload_n 1, 1) := by decide +kernel
theorem dX7_kinds_69 : decode cX7_kinds 69 = .ok (.iaload, 1) := by decide +kernel
theorem dX7_kinds_70 : decode cX7_kinds 70 = .ok (.iload_n 3, 1) := by decide +kernel
theorem dX7_kinds_71 : decode cX7_kinds 71 = .ok (.iload 4, 2) := by decide +kernel
theorem dX7_kinds_73 : decode cX7_kinds 73 = .ok (.invokestatic 250, 3) := by decide +kernel
theorem dX7_kinds_76 : decode cX7_kinds 76 = .ok (.iload_n 2, 1) := by decide +kernel
theorem dX7_kinds_77 : decode cX7_kinds 77 = .ok (.if_icmp .ne 12, 3) := by decide +kernel
theorem dX7_kinds_80 : decode cX7_kinds 80 = .ok (.iload 5, 2) := by decide +kernel
theorem dX7_kinds_82 : decode cX7_kinds 82 = .ok (.iconst 1, 1) := by decide +kernel
theorem dX7_kinds_83 : decode cX7_kinds 83 = .ok (.iload 6, 2) := by decide +kernel
theorem dX7_kinds_85 : decode cX7_kinds 85 = .ok (.ishl, 1) := by decide +kernel
theorem dX7_kinds_86 : decode cX7_kinds 86 = .ok (.ior, 1) := by decide +kernel
theorem dX7_kinds_87 : decode cX7_kinds 87 = .ok (.istore 5, 2) := by decide +kernel
theorem dX7_kinds_89 : decode cX7_kinds 89 = .ok (.iinc 6 1, 3) := by decide +kernel
theorem dX7_kinds_92 : decode cX7_kinds 92 = .ok (.goto (-40), 3) := by decide +kernel
theorem dX7_kinds_95 : decode cX7_kinds 95 = .ok (.iload 5, 2) := by decide +kernel
theorem dX7_kinds_97 : decode cX7_kinds 97 = .ok (.ireturn, 1) := by decide +kernel
set_option maxRecDepth 20000 in
theorem ggX7_duel_X7_refusalOfDuel : GoodIn wsX7_duel wsX7_refusalOfDuel := goodIn_r _ [6, 1, 7, 8, 9, 10, 11, 12, 13, 14, 15, 16, 17, 18, 19, 20, 21, 22, 83, 84, 85, 86, 87, 88, 89, 90, 91, 92, 93, 94, 95, 96, 97, 98, 99, 100, 101, 102, 103, 104, 105, 106, 107] (by decide +kernel) (by decide +kernel)
set_option maxRecDepth 20000 in
theorem gX7_duel_X7_refusalOfDuel : GoodIn wsX7_duel (wsV RX7 254 RX7 yX7_refusalOfDuel wsX7_refusalOfDuel) := goodIn_app (goodIn_of _ (by decide +kernel)) ggX7_duel_X7_refusalOfDuel
set_option maxRecDepth 20000 in
theorem ggX7_duel_X1_worth : GoodIn wsX7_duel wsX1_worth := goodIn_r _ [25, 26, 27, 28, 29, 30, 31, 32, 24, 33, 34, 35, 36, 37, 38, 10, 39, 40, 41, 42, 43, 44, 45, 46, 47, 48, 49, 50, 51, 52, 53, 54, 55, 56, 57, 58, 59, 60, 61, 62, 63, 64, 65, 66, 67, 68, 69, 70, 71, 72, 73, 74, 75, 76, 77, 17, 78, 23, 79, 80, 81, 82, 95, 96, 97, 98, 99, 100, 101, 102, 103, 104, 105, 106, 107] (by decide +kernel) (by decide +kernel)
set_option maxRecDepth 20000 in
theorem gX7_duel_X1_worth_n257 : GoodIn wsX7_duel (wsX1_worth) := ggX7_duel_X1_worth
theorem dX7_duel_0 : decode cX7_duel 0 = .ok (.aload_n 0, 1) := by decide +kernel
theorem dX7_duel_1 : decode cX7_duel 1 = .ok (.iload_n 1, 1) := by decide +kernel
theorem dX7_duel_2 : decode cX7_duel 2 = .ok (.iload_n 2, 1) := by decide +kernel
theorem dX7_duel_3 : decode cX7_duel 3 = .ok (.invokevirtual 254, 3) := by decide +kernel
theorem dX7_duel_6 : decode cX7_duel 6 = .ok (.istore_n 3, 1) := by decide +kernel
theorem dX7_duel_7 : decode cX7_duel 7 = .ok (.iload_n 3, 1) := by decide +kernel
theorem dX7_duel_8 : decode cX7_duel 8 = .ok (.ifCond .eq 5, 3) := by decide +kernel
theorem dX7_duel_11 : decode cX7_duel 11 = .ok (.iload_n 3, 1) := by decide +kernel
theorem dX7_duel_12 : decode cX7_duel 12 = .ok (.ireturn, 1) := by decide +kernel
theorem dX7_duel_13 : decode cX7_duel 13 = .ok (.aload_n 0, 1) := by decide +kernel
theorem dX7_duel_14 : decode cX7_duel 14 = .ok (.getfield 27, 3) := by decide +kernel
theorem dX7_duel_17 : decode cX7_duel 17 = .ok (.iload_n 1, 1) := by decide +kernel
theorem dX7_duel_18 : decode cX7_duel 18 = .ok (.iload_n 2, 1) := by decide +kernel
theorem dX7_duel_19 : decode cX7_duel 19 = .ok (.iconst 0, 1) := by decide +kernel
theorem dX7_duel_20 : decode cX7_duel 20 = .ok (.iconst 0, 1) := by decide +kernel
theorem dX7_duel_21 : decode cX7_duel 21 = .ok (.invokestatic 257, 3) := by decide +kernel
theorem dX7_duel_24 : decode cX7_duel 24 = .ok (.istore 4, 2) := by decide +kernel
theorem dX7_duel_26 : decode cX7_duel 26 = .ok (.iload 4, 2) := by decide +kernel
theorem dX7_duel_28 : decode cX7_duel 28 = .ok (.ifCond .ne 6, 3) := by decide +kernel
theorem dX7_duel_31 : decode cX7_duel 31 = .ok (.bipush (-9), 2) := by decide +kernel
theorem dX7_duel_33 : decode cX7_duel 33 = .ok (.ireturn, 1) := by decide +kernel
theorem dX7_duel_34 : decode cX7_duel 34 = .ok (.iload 4, 2) := by decide +kernel
theorem dX7_duel_36 : decode cX7_duel 36 = .ok (.iconst 1, 1) := by decide +kernel
theorem dX7_duel_37 : decode cX7_duel 37 = .ok (.if_icmp .ne 7, 3) := by decide +kernel
theorem dX7_duel_40 : decode cX7_duel 40 = .ok (.iconst 1, 1) := by decide +kernel
theorem dX7_duel_41 : decode cX7_duel 41 = .ok (.goto 4, 3) := by decide +kernel
theorem dX7_duel_44 : decode cX7_duel 44 = .ok (.iconst 0, 1) := by decide +kernel
theorem dX7_duel_45 : decode cX7_duel 45 = .ok (.ireturn, 1) := by decide +kernel
set_option maxRecDepth 20000 in
theorem ggX7_opens_X7_refusalOfDuel : GoodIn wsX7_opens wsX7_refusalOfDuel := goodIn_r _ [6, 1, 7, 8, 9, 10, 11, 12, 13, 14, 15, 16, 17, 18, 19, 20, 21, 22, 86, 87, 88, 89, 90, 91, 92, 93, 94, 95, 96, 97, 98, 99, 100, 101, 102, 103, 104, 105, 106, 107, 108, 109, 110] (by decide +kernel) (by decide +kernel)
set_option maxRecDepth 20000 in
theorem gX7_opens_X7_refusalOfDuel : GoodIn wsX7_opens (wsV RX7 254 RX7 yX7_refusalOfDuel wsX7_refusalOfDuel) := goodIn_app (goodIn_of _ (by decide +kernel)) ggX7_opens_X7_refusalOfDuel
set_option maxRecDepth 20000 in
theorem ggX7_opens_X1_firstBest : GoodIn wsX7_opens wsX1_firstBest := goodIn_r _ [26, 27, 28, 29, 25, 30, 31, 32, 33, 34, 35, 10, 36, 37, 38, 39, 40, 41, 42, 43, 44, 45, 46, 47, 48, 49, 50, 51, 52, 53, 54, 55, 56, 57, 58, 59, 60, 61, 62, 63, 64, 65, 66, 67, 68, 69, 70, 71, 72, 73, 74, 75, 76, 77, 17, 78, 79, 80, 81, 82, 83, 84, 85, 98, 99, 100, 101, 102, 103, 104, 105, 106, 107, 108, 109, 110] (by decide +kernel) (by decide +kernel)
set_option maxRecDepth 20000 in
theorem gX7_opens_X1_firstBest : GoodIn wsX7_opens (va_wsS RX7 263 yX1_firstBest wsX1_firstBest) := goodIn_app (goodIn_of _ (by decide +kernel)) ggX7_opens_X1_firstBest
theorem dX7_opens_0 : decode cX7_opens 0 = .ok (.aload_n 0, 1) := by decide +kernel
theorem dX7_opens_1 : decode cX7_opens 1 = .ok (.iload_n 1, 1) := by decide +kernel
theorem dX7_opens_2 : decode cX7_opens 2 = .ok (.iload_n 2, 1) := by decide +kernel
theorem dX7_opens_3 : decode cX7_opens 3 = .ok (.invokevirtual 254, 3) := by decide +kernel
theorem dX7_opens_6 : decode cX7_opens 6 = .ok (.istore_n 3, 1) := by decide +kernel
theorem dX7_opens_7 : decode cX7_opens 7 = .ok (.iload_n 3, 1) := by decide +kernel
theorem dX7_opens_8 : decode cX7_opens 8 = .ok (.ifCond .eq 7, 3) := by decide +kernel
theorem dX7_opens_11 : decode cX7_opens 11 = .ok (.iload_n 3, 1) := by decide +kernel
theorem dX7_opens_12 : decode cX7_opens 12 = .ok (.goto 12, 3) := by decide +kernel
theorem dX7_opens_15 : decode cX7_opens 15 = .ok (.aload_n 0, 1) := by decide +kernel
theorem dX7_opens_16 : decode cX7_opens 16 = .ok (.getfield 27, 3) := by decide +kernel
theorem dX7_opens_19 : decode cX7_opens 19 = .ok (.iload_n 1, 1) := by decide +kernel
theorem dX7_opens_20 : decode cX7_opens 20 = .ok (.iload_n 2, 1) := by decide +kernel
theorem dX7_opens_21 : decode cX7_opens 21 = .ok (.invokestatic 263, 3) := by decide +kernel
theorem dX7_opens_24 : decode cX7_opens 24 = .ok (.ireturn, 1) := by decide +kernel
set_option maxRecDepth 20000 in
theorem ggX7_refusalOfDuel_X2_hasPerson : GoodIn wsX7_refusalOfDuel wsX2_hasPerson := goodIn_r _ [6, 7, 30, 31, 32, 33, 34, 35, 36, 37, 38, 39, 40, 41, 42] (by decide +kernel) (by decide +kernel)
set_option maxRecDepth 20000 in
theorem gX7_refusalOfDuel_X2_hasPerson : GoodIn wsX7_refusalOfDuel (wsV RX7 158 RX2 yX2_hasPerson wsX2_hasPerson) := goodIn_app (goodIn_of _ (by decide +kernel)) ggX7_refusalOfDuel_X2_hasPerson
set_option maxRecDepth 20000 in
theorem ggX7_refusalOfDuel_X2_isAnyOver : GoodIn wsX7_refusalOfDuel wsX2_isAnyOver := goodIn_r _ [11, 12, 30, 31, 32, 33, 34, 35, 36, 37, 38, 39, 40, 41, 42] (by decide +kernel) (by decide +kernel)
set_option maxRecDepth 20000 in
theorem gX7_refusalOfDuel_X2_isAnyOver : GoodIn wsX7_refusalOfDuel (wsV RX7 164 RX2 yX2_isAnyOver wsX2_isAnyOver) := goodIn_app (goodIn_of _ (by decide +kernel)) ggX7_refusalOfDuel_X2_isAnyOver
set_option maxRecDepth 20000 in
theorem ggX7_refusalOfDuel_X2_isEmpty : GoodIn wsX7_refusalOfDuel wsX2_isEmpty := goodIn_r _ [16, 17, 7, 30, 31, 32, 33, 34, 35, 36, 37, 38, 39, 40, 41, 42] (by decide +kernel) (by decide +kernel)
set_option maxRecDepth 20000 in
theorem gX7_refusalOfDuel_X2_isEmpty : GoodIn wsX7_refusalOfDuel (wsV RX7 181 RX2 yX2_isEmpty wsX2_isEmpty) := goodIn_app (goodIn_of _ (by decide +kernel)) ggX7_refusalOfDuel_X2_isEmpty
theorem dX7_refusalOfDuel_0 : decode cX7_refusalOfDuel 0 = .ok (.aload_n 0, 1) := by decide +kernel
theorem dX7_refusalOfDuel_1 : decode cX7_refusalOfDuel 1 = .ok (.getfield 27, 3) := by decide +kernel
theorem dX7_refusalOfDuel_4 : decode cX7_refusalOfDuel 4 = .ok (.iload_n 1, 1) := by decide +kernel
theorem dX7_refusalOfDuel_5 : decode cX7_refusalOfDuel 5 = .ok (.invokevirtual 158, 3) := by decide +kernel
theorem dX7_refusalOfDuel_8 : decode cX7_refusalOfDuel 8 = .ok (.ifCond .eq 19, 3) := by decide +kernel
theorem dX7_refusalOfDuel_11 : decode cX7_refusalOfDuel 11 = .ok (.aload_n 0, 1) := by decide +kernel
theorem dX7_refusalOfDuel_12 : decode cX7_refusalOfDuel 12 = .ok (.getfield 27, 3) := by decide +kernel
theorem dX7_refusalOfDuel_15 : decode cX7_refusalOfDuel 15 = .ok (.iload_n 2, 1) := by decide +kernel
theorem dX7_refusalOfDuel_16 : decode cX7_refusalOfDuel 16 = .ok (.invokevirtual 158, 3) := by decide +kernel
theorem dX7_refusalOfDuel_19 : decode cX7_refusalOfDuel 19 = .ok (.ifCond .eq 8, 3) := by decide +kernel
theorem dX7_refusalOfDuel_22 : decode cX7_refusalOfDuel 22 = .ok (.iload_n 1, 1) := by decide +kernel
theorem dX7_refusalOfDuel_23 : decode cX7_refusalOfDuel 23 = .ok (.iload_n 2, 1) := by decide +kernel
