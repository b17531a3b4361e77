theorem dX8_family_111 : decode cX8_family 111 = .ok (.iaload, 1) := by decide +kernel
theorem dX8_family_112 : decode cX8_family 112 = .ok (.iastore, 1) := by decide +kernel
theorem dX8_family_113 : decode cX8_family 113 = .ok (.aload_n 0, 1) := by decide +kernel
theorem dX8_family_114 : decode cX8_family 114 = .ok (.getfield 19, 3) := by decide +kernel
theorem dX8_family_117 : decode cX8_family 117 = .ok (.iload_n 2, 1) := by decide +kernel
theorem dX8_family_118 : decode cX8_family 118 = .ok (.aload_n 0, 1) := by decide +kernel
theorem dX8_family_119 : decode cX8_family 119 = .ok (.getfield 47, 3) := by decide +kernel
theorem dX8_family_122 : decode cX8_family 122 = .ok (.iconst 3, 1) := by decide +kernel
theorem dX8_family_123 : decode cX8_family 123 = .ok (.iload_n 2, 1) := by decide +kernel
theorem dX8_family_124 : decode cX8_family 124 = .ok (.imul, 1) := by decide +kernel
theorem dX8_family_125 : decode cX8_family 125 = .ok (.iconst 1, 1) := by decide +kernel
theorem dX8_family_126 : decode cX8_family 126 = .ok (.iadd, 1) := by decide +kernel
theorem dX8_family_127 : decode cX8_family 127 = .ok (.iaload, 1) := by decide +kernel
theorem dX8_family_128 : decode cX8_family 128 = .ok (.iastore, 1) := by decide +kernel
theorem dX8_family_129 : decode cX8_family 129 = .ok (.aload_n 0, 1) := by decide +kernel
theorem dX8_family_130 : decode cX8_family 130 = .ok (.getfield 22, 3) := by decide +kernel
theorem dX8_family_133 : decode cX8_family 133 = .ok (.iload_n 2, 1) := by decide +kernel
theorem dX8_family_134 : decode cX8_family 134 = .ok (.aload_n 0, 1) := by decide +kernel
theorem dX8_family_135 : decode cX8_family 135 = .ok (.getfield 47, 3) := by decide +kernel
theorem dX8_family_138 : decode cX8_family 138 = .ok (.iconst 3, 1) := by decide +kernel
theorem dX8_family_139 : decode cX8_family 139 = .ok (.iload_n 2, 1) := by decide +kernel
theorem dX8_family_140 : decode cX8_family 140 = .ok (.imul, 1) := by decide +kernel
theorem dX8_family_141 : decode cX8_family 141 = .ok (.iconst 2, 1) := by decide +kernel
theorem dX8_family_142 : decode cX8_family 142 = .ok (.iadd, 1) := by decide +kernel
theorem dX8_family_143 : decode cX8_family 143 = .ok (.iaload, 1) := by decide +kernel
theorem dX8_family_144 : decode cX8_family 144 = .ok (.iastore, 1) := by decide +kernel
theorem dX8_family_145 : decode cX8_family 145 = .ok (.iinc 2 1, 3) := by decide +kernel
theorem dX8_family_148 : decode cX8_family 148 = .ok (.goto (-57), 3) := by decide +kernel
theorem dX8_family_151 : decode cX8_family 151 = .ok (.iconst 0, 1) := by decide +kernel
theorem dX8_family_152 : decode cX8_family 152 = .ok (.istore_n 2, 1) := by decide +kernel
theorem dX8_family_153 : decode cX8_family 153 = .ok (.iload_n 2, 1) := by decide +kernel
theorem dX8_family_154 : decode cX8_family 154 = .ok (.sipush 411, 3) := by decide +kernel
theorem dX8_family_157 : decode cX8_family 157 = .ok (.if_icmp .ge 16, 3) := by decide +kernel
theorem dX8_family_160 : decode cX8_family 160 = .ok (.aload_n 0, 1) := by decide +kernel
theorem dX8_family_161 : decode cX8_family 161 = .ok (.getfield 7, 3) := by decide +kernel
theorem dX8_family_164 : decode cX8_family 164 = .ok (.iload_n 2, 1) := by decide +kernel
theorem dX8_family_165 : decode cX8_family 165 = .ok (.iconst 0, 1) := by decide +kernel
theorem dX8_family_166 : decode cX8_family 166 = .ok (.iastore, 1) := by decide +kernel
theorem dX8_family_167 : decode cX8_family 167 = .ok (.iinc 2 1, 3) := by decide +kernel
theorem dX8_family_170 : decode cX8_family 170 = .ok (.goto (-17), 3) := by decide +kernel
theorem dX8_family_173 : decode cX8_family 173 = .ok (.aload_n 0, 1) := by decide +kernel
theorem dX8_family_174 : decode cX8_family 174 = .ok (.getfield 7, 3) := by decide +kernel
theorem dX8_family_177 : decode cX8_family 177 = .ok (.iconst 4, 1) := by decide +kernel
theorem dX8_family_178 : decode cX8_family 178 = .ok (.bipush (-9), 2) := by decide +kernel
theorem dX8_family_180 : decode cX8_family 180 = .ok (.iastore, 1) := by decide +kernel
theorem dX8_family_181 : decode cX8_family 181 = .ok (.iconst 1, 1) := by decide +kernel
theorem dX8_family_182 : decode cX8_family 182 = .ok (.istore_n 2, 1) := by decide +kernel
theorem dX8_family_183 : decode cX8_family 183 = .ok (.iload_n 2, 1) := by decide +kernel
theorem dX8_family_184 : decode cX8_family 184 = .ok (.iconst 4, 1) := by decide +kernel
theorem dX8_family_185 : decode cX8_family 185 = .ok (.if_icmp .ge 22, 3) := by decide +kernel
theorem dX8_family_188 : decode cX8_family 188 = .ok (.aload_n 0, 1) := by decide +kernel
theorem dX8_family_189 : decode cX8_family 189 = .ok (.getfield 7, 3) := by decide +kernel
theorem dX8_family_192 : decode cX8_family 192 = .ok (.sipush 411, 3) := by decide +kernel
theorem dX8_family_195 : decode cX8_family 195 = .ok (.iload_n 2, 1) := by decide +kernel
theorem dX8_family_196 : decode cX8_family 196 = .ok (.imul, 1) := by decide +kernel
theorem dX8_family_197 : decode cX8_family 197 = .ok (.iconst 0, 1) := by decide +kernel
theorem dX8_family_198 : decode cX8_family 198 = .ok (.iadd, 1) := by decide +kernel
theorem dX8_family_199 : decode cX8_family 199 = .ok (.iconst (-1), 1) := by decide +kernel
theorem dX8_family_200 : decode cX8_family 200 = .ok (.iastore, 1) := by decide +kernel
theorem dX8_family_201 : decode cX8_family 201 = .ok (.iinc 2 1, 3) := by decide +kernel
theorem dX8_family_204 : decode cX8_family 204 = .ok (.goto (-21), 3) := by decide +kernel
theorem dX8_family_207 : decode cX8_family 207 = .ok (.aload_n 0, 1) := by decide +kernel
theorem dX8_family_208 : decode cX8_family 208 = .ok (.getfield 167, 3) := by decide +kernel
theorem dX8_family_211 : decode cX8_family 211 = .ok (.ireturn, 1) := by decide +kernel
set_option maxRecDepth 20000 in
theorem ggX8_isOne_X8_in : GoodIn wsX8_isOne wsX8_in := goodIn_r _ [5] (by decide +kernel) (by decide +kernel)
set_option maxRecDepth 20000 in
theorem gX8_isOne_X8_in : GoodIn wsX8_isOne (va_wsS RX8 81 yX8_in wsX8_in) := goodIn_app (goodIn_of _ (by decide +kernel)) ggX8_isOne_X8_in
theorem dX8_isOne_0 : decode cX8_isOne 0 = .ok (.iload_n 1, 1) := by decide +kernel
theorem dX8_isOne_1 : decode cX8_isOne 1 = .ok (.i2l, 1) := by decide +kernel
theorem dX8_isOne_2 : decode cX8_isOne 2 = .ok (.lconst 0, 1) := by decide +kernel
theorem dX8_isOne_3 : decode cX8_isOne 3 = .ok (.aload_n 0, 1) := by decide +kernel
theorem dX8_isOne_4 : decode cX8_isOne 4 = .ok (.getfield 164, 3) := by decide +kernel
theorem dX8_isOne_7 : decode cX8_isOne 7 = .ok (.iconst 1, 1) := by decide +kernel
theorem dX8_isOne_8 : decode cX8_isOne 8 = .ok (.isub, 1) := by decide +kernel
theorem dX8_isOne_9 : decode cX8_isOne 9 = .ok (.i2l, 1) := by decide +kernel
theorem dX8_isOne_10 : decode cX8_isOne 10 = .ok (.invokestatic 81, 3) := by decide +kernel
theorem dX8_isOne_13 : decode cX8_isOne 13 = .ok (.ireturn, 1) := by decide +kernel
set_option maxRecDepth 20000 in
theorem ggX8_isSaying_X8_in : GoodIn wsX8_isSaying wsX8_in := goodIn_r _ [5] (by decide +kernel) (by decide +kernel)
set_option maxRecDepth 20000 in
theorem gX8_isSaying_X8_in : GoodIn wsX8_isSaying (va_wsS RX8 81 yX8_in wsX8_in) := goodIn_app (goodIn_of _ (by decide +kernel)) ggX8_isSaying_X8_in
theorem dX8_isSaying_0 : decode cX8_isSaying 0 = .ok (.iload_n 1, 1) := by decide +kernel
theorem dX8_isSaying_1 : decode cX8_isSaying 1 = .ok (.i2l, 1) := by decide +kernel
theorem dX8_isSaying_2 : decode cX8_isSaying 2 = .ok (.lconst 0, 1) := by decide +kernel
theorem dX8_isSaying_3 : decode cX8_isSaying 3 = .ok (.aload_n 0, 1) := by decide +kernel
theorem dX8_isSaying_4 : decode cX8_isSaying 4 = .ok (.getfield 167, 3) := by decide +kernel
theorem dX8_isSaying_7 : decode cX8_isSaying 7 = .ok (.iconst 1, 1) := by decide +kernel
theorem dX8_isSaying_8 : decode cX8_isSaying 8 = .ok (.isub, 1) := by decide +kernel
theorem dX8_isSaying_9 : decode cX8_isSaying 9 = .ok (.i2l, 1) := by decide +kernel
theorem dX8_isSaying_10 : decode cX8_isSaying 10 = .ok (.invokestatic 81, 3) := by decide +kernel
theorem dX8_isSaying_13 : decode cX8_isSaying 13 = .ok (.ireturn, 1) := by decide +kernel
theorem dX8_nearBy_0 : decode cX8_nearBy 0 = .ok (.iload_n 0, 1) := by decide +kernel
theorem dX8_nearBy_1 : decode cX8_nearBy 1 = .ok (.tableswitch 72 1 5 #[35, 39, 43, 60, 66], 35) := by decide +kernel
theorem dX8_nearBy_36 : decode cX8_nearBy 36 = .ok (.iload_n 1, 1) := by decide +kernel
theorem dX8_nearBy_37 : decode cX8_nearBy 37 = .ok (.iload_n 2, 1) := by decide +kernel
theorem dX8_nearBy_38 : decode cX8_nearBy 38 = .ok (.iadd, 1) := by decide +kernel
theorem dX8_nearBy_39 : decode cX8_nearBy 39 = .ok (.ireturn, 1) := by decide +kernel
theorem dX8_nearBy_40 : decode cX8_nearBy 40 = .ok (.iload_n 1, 1) := by decide +kernel
theorem dX8_nearBy_41 : decode cX8_nearBy 41 = .ok (.iconst 2, 1) := by decide +kernel
theorem dX8_nearBy_42 : decode cX8_nearBy 42 = .ok (.idiv, 1) := by decide +kernel
theorem dX8_nearBy_43 : decode cX8_nearBy 43 = .ok (.ireturn, 1) := by decide +kernel
theorem dX8_nearBy_44 : decode cX8_nearBy 44 = .ok (.iload_n 1, 1) := by decide +kernel
theorem dX8_nearBy_45 : decode cX8_nearBy 45 = .ok (.iload_n 2, 1) := by decide +kernel
theorem dX8_nearBy_46 : decode cX8_nearBy 46 = .ok (.iadd, 1) := by decide +kernel
theorem dX8_nearBy_47 : decode cX8_nearBy 47 = .ok (.iconst 2, 1) := by decide +kernel
theorem dX8_nearBy_48 : decode cX8_nearBy 48 = .ok (.if_icmp .ge 7, 3) := by decide +kernel
theorem dX8_nearBy_51 : decode cX8_nearBy 51 = .ok (.iconst 0, 1) := by decide +kernel
theorem dX8_nearBy_52 : decode cX8_nearBy 52 = .ok (.goto 8, 3) := by decide +kernel
theorem dX8_nearBy_55 : decode cX8_nearBy 55 = .ok (.iload_n 1, 1) := by decide +kernel
theorem dX8_nearBy_56 : decode cX8_nearBy 56 = .ok (.iload_n 2, 1) := by decide +kernel
theorem dX8_nearBy_57 : decode cX8_nearBy 57 = .ok (.iadd, 1) := by decide +kernel
theorem dX8_nearBy_58 : decode cX8_nearBy 58 = .ok (.iconst 2, 1) := by decide +kernel
theorem dX8_nearBy_59 : decode cX8_nearBy 59 = .ok (.isub, 1) := by decide +kernel
theorem dX8_nearBy_60 : decode cX8_nearBy 60 = .ok (.ireturn, 1) := by decide +kernel
theorem dX8_nearBy_61 : decode cX8_nearBy 61 = .ok (.iload_n 1, 1) := by decide +kernel
theorem dX8_nearBy_62 : decode cX8_nearBy 62 = .ok (.iconst 2, 1) := by decide +kernel
theorem dX8_nearBy_63 : decode cX8_nearBy 63 = .ok (.idiv, 1) := by decide +kernel
theorem dX8_nearBy_64 : decode cX8_nearBy 64 = .ok (.iload_n 3, 1) := by decide +kernel
theorem dX8_nearBy_65 : decode cX8_nearBy 65 = .ok (.iadd, 1) := by decide +kernel
theorem dX8_nearBy_66 : decode cX8_nearBy 66 = .ok (.ireturn, 1) := by decide +kernel
theorem dX8_nearBy_67 : decode cX8_nearBy 67 = .ok (.iconst 2, 1) := by decide +kernel
theorem dX8_nearBy_68 : decode cX8_nearBy 68 = .ok (.iload_n 1, 1) := by decide +kernel
theorem dX8_nearBy_69 : decode cX8_nearBy 69 = .ok (.iload_n 2, 1) := by decide +kernel
theorem dX8_nearBy_70 : decode cX8_nearBy 70 = .ok (.iadd, 1) := by decide +kernel
theorem dX8_nearBy_71 : decode cX8_nearBy 71 = .ok (.imul, 1) := by decide +kernel
theorem dX8_nearBy_72 : decode cX8_nearBy 72 = .ok (.ireturn, 1) := by decide +kernel
theorem dX8_nearBy_73 : decode cX8_nearBy 73 = .ok (.iload_n 1, 1) := by decide +kernel
theorem dX8_nearBy_74 : decode cX8_nearBy 74 = .ok (.ireturn, 1) := by decide +kernel
set_option maxRecDepth 20000 in
theorem ggX8_openOf_X8_bits : GoodIn wsX8_openOf wsX8_bits := goodIn_r _ [4] (by decide +kernel) (by decide +kernel)
set_option maxRecDepth 20000 in
theorem gX8_openOf_X8_bits : GoodIn wsX8_openOf (va_wsS RX8 173 yX8_bits wsX8_bits) := goodIn_app (goodIn_of _ (by decide +kernel)) ggX8_openOf_X8_bits
theorem dX8_openOf_0 : decode cX8_openOf 0 = .ok (.bipush 7, 2) := by decide +kernel
theorem dX8_openOf_2 : decode cX8_openOf 2 = .ok (.iload_n 0, 1) := by decide +kernel
theorem dX8_openOf_3 : decode cX8_openOf 3 = .ok (.iconst (-1), 1) := by decide +kernel
theorem dX8_openOf_4 : decode cX8_openOf 4 = .ok (.ixor, 1) := by decide +kernel
theorem dX8_openOf_5 : decode cX8_openOf 5 = .ok (.iand, 1) := by decide +kernel
theorem dX8_openOf_6 : decode cX8_openOf 6 = .ok (.invokestatic 173, 3) := by decide +kernel
theorem dX8_openOf_9 : decode cX8_openOf 9 = .ok (.ireturn, 1) := by decide +kernel
set_option maxRecDepth 20000 in
theorem ggX8_nearOf_X8_openOf : GoodIn wsX8_nearOf wsX8_openOf := goodIn_r _ [7, 8, 9, 6, 10] (by decide +kernel) (by decide +kernel)
set_option maxRecDepth 20000 in
theorem gX8_nearOf_X8_openOf : GoodIn wsX8_nearOf (va_wsS RX8 176 yX8_openOf wsX8_openOf) := goodIn_app (goodIn_of _ (by decide +kernel)) ggX8_nearOf_X8_openOf
set_option maxRecDepth 20000 in
theorem ggX8_nearOf_X8_nearBy : GoodIn wsX8_nearOf wsX8_nearBy := goodIn_r _ [13] (by decide +kernel) (by decide +kernel)
set_option maxRecDepth 20000 in
theorem gX8_nearOf_X8_nearBy : GoodIn wsX8_nearOf (va_wsS RX8 179 yX8_nearBy wsX8_nearBy) := goodIn_app (goodIn_of _ (by decide +kernel)) ggX8_nearOf_X8_nearBy
theorem dX8_nearOf_0 : decode cX8_nearOf 0 = .ok (.aload_n 0, 1) := by decide +kernel
theorem dX8_nearOf_1 : decode cX8_nearOf 1 = .ok (.getfield 16, 3) := by decide +kernel
theorem dX8_nearOf_4 : decode cX8_nearOf 4 = .ok (.iload_n 2, 1) := by decide +kernel
theorem dX8_nearOf_5 : decode cX8_nearOf 5 = .ok (.iaload, 1) := by decide +kernel
theorem dX8_nearOf_6 : decode cX8_nearOf 6 = .ok (.aload_n 0, 1) := by decide +kernel
theorem dX8_nearOf_7 : decode cX8_nearOf 7 = .ok (.getfield 19, 3) := by decide +kernel
theorem dX8_nearOf_10 : decode cX8_nearOf 10 = .ok (.iload_n 2, 1) := by decide +kernel
theorem dX8_nearOf_11 : decode cX8_nearOf 11 = .ok (.iaload, 1) := by decide +kernel
theorem dX8_nearOf_12 : decode cX8_nearOf 12 = .ok (.aload_n 0, 1) := by decide +kernel
theorem dX8_nearOf_13 : decode cX8_nearOf 13 = .ok (.getfield 7, 3) := by decide +kernel
theorem dX8_nearOf_16 : decode cX8_nearOf 16 = .ok (.iload_n 1, 1) := by decide +kernel
theorem dX8_nearOf_17 : decode cX8_nearOf 17 = .ok (.iconst 5, 1) := by decide +kernel
theorem dX8_nearOf_18 : decode cX8_nearOf 18 = .ok (.iadd, 1) := by decide +kernel
theorem dX8_nearOf_19 : decode cX8_nearOf 19 = .ok (.iload_n 2, 1) := by decide +kernel
theorem dX8_nearOf_20 : decode cX8_nearOf 20 = .ok (.iadd, 1) := by decide +kernel
theorem dX8_nearOf_21 : decode cX8_nearOf 21 = .ok (.iaload, 1) := by decide +kernel
theorem dX8_nearOf_22 : decode cX8_nearOf 22 = .ok (.aload_n 0, 1) := by decide +kernel
theorem dX8_nearOf_23 : decode cX8_nearOf 23 = .ok (.getfield 7, 3) := by decide +kernel
theorem dX8_nearOf_26 : decode cX8_nearOf 26 = .ok (.iload_n 1, 1) := by decide +kernel
theorem dX8_nearOf_27 : decode cX8_nearOf 27 = .ok (.iconst 3, 1) := by decide +kernel
theorem dX8_nearOf_28 : decode cX8_nearOf 28 = .ok (.iadd, 1) := by decide +kernel
theorem dX8_nearOf_29 : decode cX8_nearOf 29 = .ok (.iaload, 1) := by decide +kernel
theorem dX8_nearOf_30 : decode cX8_nearOf 30 = .ok (.invokestatic 176, 3) := by decide +kernel
theorem dX8_nearOf_33 : decode cX8_nearOf 33 = .ok (.invokestatic 179, 3) := by decide +kernel
theorem dX8_nearOf_36 : decode cX8_nearOf 36 = .ok (.ireturn, 1) := by decide +kernel
set_option maxRecDepth 20000 in
theorem ggX8_says_X8_nearOf : GoodIn wsX8_says wsX8_nearOf := goodIn_r _ [8, 9, 10, 1, 11, 12, 7, 13, 14, 15, 16, 17, 18, 19, 20, 21, 22, 23, 24, 25, 26, 27, 28, 29, 30, 31, 32, 33, 34, 35, 36, 37, 38, 39, 40, 41, 42, 43, 44, 45, 46, 47, 48, 49, 50, 51, 52] (by decide +kernel) (by decide +kernel)
set_option maxRecDepth 20000 in
theorem gX8_says_X8_nearOf : GoodIn wsX8_says (wsV RX8 183 RX8 yX8_nearOf wsX8_nearOf) := goodIn_app (goodIn_of _ (by decide +kernel)) ggX8_says_X8_nearOf
theorem dX8_says_0 : decode cX8_says 0 = .ok (.aload_n 0, 1) := by decide +kernel
theorem dX8_says_1 : decode cX8_says 1 = .ok (.getfield 7, 3) := by decide +kernel
theorem dX8_says_4 : decode cX8_says 4 = .ok (.iload_n 1, 1) := by decide +kernel
theorem dX8_says_5 : decode cX8_says 5 = .ok (.iconst 2, 1) := by decide +kernel
theorem dX8_says_6 : decode cX8_says 6 = .ok (.iadd, 1) := by decide +kernel
theorem dX8_says_7 : decode cX8_says 7 = .ok (.dup2, 1) := by decide +kernel
theorem dX8_says_8 : decode cX8_says 8 = .ok (.iaload, 1) := by decide +kernel
theorem dX8_says_9 : decode cX8_says 9 = .ok (.aload_n 0, 1) := by decide +kernel
theorem dX8_says_10 : decode cX8_says 10 = .ok (.iload_n 1, 1) := by decide +kernel
theorem dX8_says_11 : decode cX8_says 11 = .ok (.iload_n 3, 1) := by decide +kernel
theorem dX8_says_12 : decode cX8_says 12 = .ok (.invokevirtual 183, 3) := by decide +kernel
theorem dX8_says_15 : decode cX8_says 15 = .ok (.iadd, 1) := by decide +kernel
theorem dX8_says_16 : decode cX8_says 16 = .ok (.iastore, 1) := by decide +kernel
theorem dX8_says_17 : decode cX8_says 17 = .ok (.aload_n 0, 1) := by decide +kernel
theorem dX8_says_18 : decode cX8_says 18 = .ok (.getfield 7, 3) := by decide +kernel
theorem dX8_says_21 : decode cX8_says 21 = .ok (.iload_n 1, 1) := by decide +kernel
theorem dX8_says_22 : decode cX8_says 22 = .ok (.iconst 3, 1) := by decide +kernel
theorem dX8_says_23 : decode cX8_says 23 = .ok (.iadd, 1) := by decide +kernel
theorem dX8_says_24 : decode cX8_says 24 = .ok (.dup2, 1) := by decide +kernel
theorem dX8_says_25 : decode cX8_says 25 = .ok (.iaload, 1) := by decide +kernel
theorem dX8_says_26 : decode cX8_says 26 = .ok (.aload_n 0, 1) := by decide +kernel
theorem dX8_says_27 : decode cX8_says 27 = .ok (.getfield 22, 3) := by decide +kernel
theorem dX8_says_30 : decode cX8_says 30 = .ok (.iload_n 3, 1) := by decide +kernel
theorem dX8_says_31 : decode cX8_says 31 = .ok (.iaload, 1) := by decide +kernel
theorem dX8_says_32 : decode cX8_says 32 = .ok (.ior, 1) := by decide +kernel
theorem dX8_says_33 : decode cX8_says 33 = .ok (.iastore, 1) := by decide +kernel
theorem dX8_says_34 : decode cX8_says 34 = .ok (.aload_n 0, 1) := by decide +kernel
theorem dX8_says_35 : decode cX8_says 35 = .ok (.getfield 7, 3) := by decide +kernel
theorem dX8_says_38 : decode cX8_says 38 = .ok (.iload_n 1, 1) := by decide +kernel
theorem dX8_says_39 : decode cX8_says 39 = .ok (.iconst 5, 1) := by decide +kernel
theorem dX8_says_40 : decode cX8_says 40 = .ok (.iadd, 1) := by decide +kernel
theorem dX8_says_41 : decode cX8_says 41 = .ok (.iload_n 3, 1) := by decide +kernel
theorem dX8_says_42 : decode cX8_says 42 = .ok (.iadd, 1) := by decide +kernel
theorem dX8_says_43 : decode cX8_says 43 = .ok (.dup2, 1) := by decide +kernel
theorem dX8_says_44 : decode cX8_says 44 = .ok (.iaload, 1) := by decide +kernel
theorem dX8_says_45 : decode cX8_says 45 = .ok (.iconst 1, 1) := by decide +kernel
theorem dX8_says_46 : decode cX8_says 46 = .ok (.iadd, 1) := by decide +kernel
theorem dX8_says_47 : decode cX8_says 47 = .ok (.iastore, 1) := by decide +kernel
theorem dX8_says_48 : decode cX8_says 48 = .ok (.aload_n 0, 1) := by decide +kernel
theorem dX8_says_49 : decode cX8_says 49 = .ok (.getfield 7, 3) := by decide +kernel
theorem dX8_says_52 : decode cX8_says 52 = .ok (.iload_n 1, 1) := by decide +kernel
theorem dX8_says_53 : decode cX8_says 53 = .ok (.iconst 4, 1) := by decide +kernel
theorem dX8_says_54 : decode cX8_says 54 = .ok (.iadd, 1) := by decide +kernel
theorem dX8_says_55 : decode cX8_says 55 = .ok (.aload_n 0, 1) := by decide +kernel
theorem dX8_says_56 : decode cX8_says 56 = .ok (.getfield 7, 3) := by decide +kernel
theorem dX8_says_59 : decode cX8_says 59 = .ok (.iload_n 1, 1) := by decide +kernel
theorem dX8_says_60 : decode cX8_says 60 = .ok (.iconst 2, 1) := by decide +kernel
theorem dX8_says_61 : decode cX8_says 61 = .ok (.iadd, 1) := by decide +kernel
theorem dX8_says_62 : decode cX8_says 62 = .ok (.iaload, 1) := by decide +kernel
theorem dX8_says_63 : decode cX8_says 63 = .ok (.aload_n 0, 1) := by decide +kernel
theorem dX8_says_64 : decode cX8_says 64 = .ok (.getfield 13, 3) := by decide +kernel
theorem dX8_says_67 : decode cX8_says 67 = .ok (.iload_n 2, 1) := by decide +kernel
theorem dX8_says_68 : decode cX8_says 68 = .ok (.iaload, 1) := by decide +kernel
theorem dX8_says_69 : decode cX8_says 69 = .ok (.if_icmp .le 7, 3) := by decide +kernel
theorem dX8_says_72 : decode cX8_says 72 = .ok (.iload_n 2, 1) := by decide +kernel
theorem dX8_says_73 : decode cX8_says 73 = .ok (.goto 5, 3) := by decide +kernel
theorem dX8_says_76 : decode cX8_says 76 = .ok (.bipush (-9), 2) := by decide +kernel
theorem dX8_says_78 : decode cX8_says 78 = .ok (.iastore, 1) := by decide +kernel
theorem dX8_says_79 : decode cX8_says 79 = .ok (.return_, 1) := by decide +kernel
theorem dX8_eases_0 : decode cX8_eases 0 = .ok (.aload_n 0, 1) := by decide +kernel
theorem dX8_eases_1 : decode cX8_eases 1 = .ok (.getfield 7, 3) := by decide +kernel
theorem dX8_eases_4 : decode cX8_eases 4 = .ok (.iload_n 1, 1) := by decide +kernel
theorem dX8_eases_5 : decode cX8_eases 5 = .ok (.iconst 2, 1) := by decide +kernel
theorem dX8_eases_6 : decode cX8_eases 6 = .ok (.iadd, 1) := by decide +kernel
theorem dX8_eases_7 : decode cX8_eases 7 = .ok (.dup2, 1) := by decide +kernel
theorem dX8_eases_8 : decode cX8_eases 8 = .ok (.iaload, 1) := by decide +kernel
theorem dX8_eases_9 : decode cX8_eases 9 = .ok (.aload_n 0, 1) := by decide +kernel
theorem dX8_eases_10 : decode cX8_eases 10 = .ok (.getfield 7, 3) := by decide +kernel
theorem dX8_eases_13 : decode cX8_eases 13 = .ok (.iload_n 1, 1) := by decide +kernel
theorem dX8_eases_14 : decode cX8_eases 14 = .ok (.iconst 2, 1) := by decide +kernel
theorem dX8_eases_15 : decode cX8_eases 15 = .ok (.iadd, 1) := by decide +kernel
theorem dX8_eases_16 : decode cX8_eases 16 = .ok (.iaload, 1) := by decide +kernel
theorem dX8_eases_17 : decode cX8_eases 17 = .ok (.ifCond .le 7, 3) := by decide +kernel
theorem dX8_eases_20 : decode cX8_eases 20 = .ok (.iconst 1, 1) := by decide +kernel
theorem dX8_eases_21 : decode cX8_eases 21 = .ok (.goto 4, 3) := by decide +kernel
theorem dX8_eases_24 : decode cX8_eases 24 = .ok (.iconst 0, 1) := by decide +kernel
theorem dX8_eases_25 : decode cX8_eases 25 = .ok (.isub, 1) := by decide +kernel
theorem dX8_eases_26 : decode cX8_eases 26 = .ok (.iastore, 1) := by decide +kernel
theorem dX8_eases_27 : decode cX8_eases 27 = .ok (.return_, 1) := by decide +kernel
theorem dX8_isOver_0 : decode cX8_isOver 0 = .ok (.aload_n 0, 1) := by decide +kernel
theorem dX8_isOver_1 : decode cX8_isOver 1 = .ok (.getfield 7, 3) := by decide +kernel
theorem dX8_isOver_4 : decode cX8_isOver 4 = .ok (.iconst 4, 1) := by decide +kernel
theorem dX8_isOver_5 : decode cX8_isOver 5 = .ok (.iaload, 1) := by decide +kernel
theorem dX8_isOver_6 : decode cX8_isOver 6 = .ok (.bipush (-9), 2) := by decide +kernel
theorem dX8_isOver_8 : decode cX8_isOver 8 = .ok (.if_icmp .eq 7, 3) := by decide +kernel
theorem dX8_isOver_11 : decode cX8_isOver 11 = .ok (.iconst 1, 1) := by decide +kernel
theorem dX8_isOver_12 : decode cX8_isOver 12 = .ok (.goto 4, 3) := by decide +kernel
theorem dX8_isOver_15 : decode cX8_isOver 15 = .ok (.iconst 0, 1) := by decide +kernel
theorem dX8_isOver_16 : decode cX8_isOver 16 = .ok (.ireturn, 1) := by decide +kernel
set_option maxRecDepth 20000 in
theorem ggX8_toldOf_X8_nearOf : GoodIn wsX8_toldOf wsX8_nearOf := goodIn_r _ [9, 1, 2, 4, 10, 11, 8, 12, 13, 14, 15, 16, 17, 18, 19, 20, 21, 22, 23, 24, 25, 26, 27, 28, 29, 30, 31, 32, 33, 34, 35, 36, 37, 38, 39, 40, 41, 42, 43, 44, 45, 46, 47, 48, 49, 50, 51] (by decide +kernel) (by decide +kernel)
set_option maxRecDepth 20000 in
theorem gX8_toldOf_X8_nearOf : GoodIn wsX8_toldOf (wsV RX8 183 RX8 yX8_nearOf wsX8_nearOf) := goodIn_app (goodIn_of _ (by decide +kernel)) ggX8_toldOf_X8_nearOf
theorem dX8_toldOf_0 : decode cX8_toldOf 0 = .ok (.iload_n 2, 1) := by decide +kernel
theorem dX8_toldOf_1 : decode cX8_toldOf 1 = .ok (.tableswitch 59 0 3 #[31, 38, 45, 52], 31) := by decide +kernel
theorem dX8_toldOf_32 : decode cX8_toldOf 32 = .ok (.aload_n 0, 1) := by decide +kernel
theorem dX8_toldOf_33 : decode cX8_toldOf 33 = .ok (.getfield 16, 3) := by decide +kernel
theorem dX8_toldOf_36 : decode cX8_toldOf 36 = .ok (.iload_n 1, 1) := by decide +kernel
theorem dX8_toldOf_37 : decode cX8_toldOf 37 = .ok (.iaload, 1) := by decide +kernel
theorem dX8_toldOf_38 : decode cX8_toldOf 38 = .ok (.ireturn, 1) := by decide +kernel
theorem dX8_toldOf_39 : decode cX8_toldOf 39 = .ok (.aload_n 0, 1) := by decide +kernel
theorem dX8_toldOf_40 : decode cX8_toldOf 40 = .ok (.getfield 19, 3) := by decide +kernel
theorem dX8_toldOf_43 : decode cX8_toldOf 43 = .ok (.iload_n 1, 1) := by decide +kernel
theorem dX8_toldOf_44 : decode cX8_toldOf 44 = .ok (.iaload, 1) := by decide +kernel
theorem dX8_toldOf_45 : decode cX8_toldOf 45 = .ok (.ireturn, 1) := by decide +kernel
theorem dX8_toldOf_46 : decode cX8_toldOf 46 = .ok (.aload_n 0, 1) := by decide +kernel
theorem dX8_toldOf_47 : decode cX8_toldOf 47 = .ok (.iconst 0, 1) := by decide +kernel
theorem dX8_toldOf_48 : decode cX8_toldOf 48 = .ok (.iload_n 1, 1) := by decide +kernel
theorem dX8_toldOf_49 : decode cX8_toldOf 49 = .ok (.invokevirtual 183, 3) := by decide +kernel
theorem dX8_toldOf_52 : decode cX8_toldOf 52 = .ok (.ireturn, 1) := by decide +kernel
theorem dX8_toldOf_53 : decode cX8_toldOf 53 = .ok (.aload_n 0, 1) := by decide +kernel
theorem dX8_toldOf_54 : decode cX8_toldOf 54 = .ok (.getfield 22, 3) := by decide +kernel
theorem dX8_toldOf_57 : decode cX8_toldOf 57 = .ok (.iload_n 1, 1) := by decide +kernel
theorem dX8_toldOf_58 : decode cX8_toldOf 58 = .ok (.iaload, 1) := by decide +kernel
theorem dX8_toldOf_59 : decode cX8_toldOf 59 = .ok (.ireturn, 1) := by decide +kernel
theorem dX8_toldOf_60 : decode cX8_toldOf 60 = .ok (.aload_n 0, 1) := by decide +kernel
theorem dX8_toldOf_61 : decode cX8_toldOf 61 = .ok (.getfield 7, 3) := by decide +kernel
theorem dX8_toldOf_64 : decode cX8_toldOf 64 = .ok (.iconst 5, 1) := by decide +kernel
theorem dX8_toldOf_65 : decode cX8_toldOf 65 = .ok (.iload_n 1, 1) := by decide +kernel
theorem dX8_toldOf_66 : decode cX8_toldOf 66 = .ok (.iadd, 1) := by decide +kernel
theorem dX8_toldOf_67 : decode cX8_toldOf 67 = .ok (.iaload, 1) := by decide +kernel
theorem dX8_toldOf_68 : decode cX8_toldOf 68 = .ok (.ireturn, 1) := by decide +kernel
set_option maxRecDepth 20000 in
theorem ggX8_saying_X8_isSaying : GoodIn wsX8_saying wsX8_isSaying := goodIn_r _ [6, 7, 8, 9, 5, 10, 37, 38, 39, 40, 41, 42, 43, 44, 45, 46, 47, 48, 49, 50, 51, 52, 53, 54, 55, 56, 57, 58, 59, 60, 61, 62, 63, 64, 65, 66, 67, 68, 69] (by decide +kernel) (by decide +kernel)
set_option maxRecDepth 20000 in
theorem gX8_saying_X8_isSaying : GoodIn wsX8_saying (wsV RX8 186 RX8 yX8_isSaying wsX8_isSaying) := goodIn_app (goodIn_of _ (by decide +kernel)) ggX8_saying_X8_isSaying
set_option maxRecDepth 20000 in
theorem ggX8_saying_X8_in : GoodIn wsX8_saying wsX8_in := goodIn_r _ [10] (by decide +kernel) (by decide +kernel)
set_option maxRecDepth 20000 in
theorem gX8_saying_X8_in : GoodIn wsX8_saying (va_wsS RX8 81 yX8_in wsX8_in) := goodIn_app (goodIn_of _ (by decide +kernel)) ggX8_saying_X8_in
set_option maxRecDepth 20000 in
theorem ggX8_saying_X8_toldOf : GoodIn wsX8_saying wsX8_toldOf := goodIn_r _ [14, 15, 16, 17, 18, 19, 20, 21, 5, 22, 23, 24, 25, 26, 27, 28, 29, 30, 31, 37, 38, 39, 40, 41, 42, 43, 44, 45, 46, 47, 48, 49, 50, 51, 52, 53, 54, 55, 56, 57, 58, 59, 60, 61, 62, 63, 64, 65, 66, 67, 68, 69] (by decide +kernel) (by decide +kernel)
set_option maxRecDepth 20000 in
theorem gX8_saying_X8_toldOf : GoodIn wsX8_saying (wsV RX8 191 RX8 yX8_toldOf wsX8_toldOf) := goodIn_app (goodIn_of _ (by decide +kernel)) ggX8_saying_X8_toldOf
set_option maxRecDepth 20000 in
theorem ggX8_saying_X8_tell : GoodIn wsX8_saying wsX8_tell := goodIn_r _ [35, 36, 37, 38, 39, 40, 41, 42, 43, 44, 45, 46, 47, 48, 49, 50, 51, 52, 53, 54, 55, 56, 57, 58, 59, 60, 61, 62, 63, 64, 65, 66, 67, 68, 69] (by decide +kernel) (by decide +kernel)
set_option maxRecDepth 20000 in
theorem gX8_saying_X8_tell : GoodIn wsX8_saying (wsV RX8 103 RX8 yX8_tell wsX8_tell) := goodIn_app (goodIn_of _ (by decide +kernel)) ggX8_saying_X8_tell
theorem dX8_saying_0 : decode cX8_saying 0 = .ok (.aload_n 0, 1) := by decide +kernel
theorem dX8_saying_1 : decode cX8_saying 1 = .ok (.iload_n 1, 1) := by decide +kernel
theorem dX8_saying_2 : decode cX8_saying 2 = .ok (.invokevirtual 186, 3) := by decide +kernel
theorem dX8_saying_5 : decode cX8_saying 5 = .ok (.ifCond .eq 28, 3) := by decide +kernel
theorem dX8_saying_8 : decode cX8_saying 8 = .ok (.iload_n 2, 1) := by decide +kernel
theorem dX8_saying_9 : decode cX8_saying 9 = .ok (.i2l, 1) := by decide +kernel
theorem dX8_saying_10 : decode cX8_saying 10 = .ok (.lconst 0, 1) := by decide +kernel
theorem dX8_saying_11 : decode cX8_saying 11 = .ok (.ldc2_w 189, 3) := by decide +kernel
theorem dX8_saying_14 : decode cX8_saying 14 = .ok (.invokestatic 81, 3) := by decide +kernel
theorem dX8_saying_17 : decode cX8_saying 17 = .ok (.ifCond .eq 16, 3) := by decide +kernel
theorem dX8_saying_20 : decode cX8_saying 20 = .ok (.aload_n 0, 1) := by decide +kernel
theorem dX8_saying_21 : decode cX8_saying 21 = .ok (.aload_n 0, 1) := by decide +kernel
theorem dX8_saying_22 : decode cX8_saying 22 = .ok (.iload_n 1, 1) := by decide +kernel
theorem dX8_saying_23 : decode cX8_saying 23 = .ok (.iload_n 2, 1) := by decide +kernel
theorem dX8_saying_24 : decode cX8_saying 24 = .ok (.invokevirtual 191, 3) := by decide +kernel
theorem dX8_saying_27 : decode cX8_saying 27 = .ok (.invokevirtual 103, 3) := by decide +kernel
theorem dX8_saying_30 : decode cX8_saying 30 = .ok (.goto 4, 3) := by decide +kernel
theorem dX8_saying_33 : decode cX8_saying 33 = .ok (.iconst (-1), 1) := by decide +kernel
theorem dX8_saying_34 : decode cX8_saying 34 = .ok (.ireturn, 1) := by decide +kernel
theorem dX8_isOf_0 : decode cX8_isOf 0 = .ok (.aload_n 0, 1) := by decide +kernel
theorem dX8_isOf_1 : decode cX8_isOf 1 = .ok (.getfield 16, 3) := by decide +kernel
theorem dX8_isOf_4 : decode cX8_isOf 4 = .ok (.iload_n 1, 1) := by decide +kernel
theorem dX8_isOf_5 : decode cX8_isOf 5 = .ok (.iaload, 1) := by decide +kernel
theorem dX8_isOf_6 : decode cX8_isOf 6 = .ok (.istore_n 3, 1) := by decide +kernel
theorem dX8_isOf_7 : decode cX8_isOf 7 = .ok (.iload_n 3, 1) := by decide +kernel
theorem dX8_isOf_8 : decode cX8_isOf 8 = .ok (.iload_n 2, 1) := by decide +kernel
theorem dX8_isOf_9 : decode cX8_isOf 9 = .ok (.if_icmp .eq 28, 3) := by decide +kernel
theorem dX8_isOf_12 : decode cX8_isOf 12 = .ok (.iload_n 2, 1) := by decide +kernel
theorem dX8_isOf_13 : decode cX8_isOf 13 = .ok (.iconst 1, 1) := by decide +kernel
theorem dX8_isOf_14 : decode cX8_isOf 14 = .ok (.if_icmp .ne 13, 3) := by decide +kernel
theorem dX8_isOf_17 : decode cX8_isOf 17 = .ok (.iload_n 3, 1) := by decide +kernel
theorem dX8_isOf_18 : decode cX8_isOf 18 = .ok (.iconst 3, 1) := by decide +kernel
theorem dX8_isOf_19 : decode cX8_isOf 19 = .ok (.if_icmp .eq 18, 3) := by decide +kernel
theorem dX8_isOf_22 : decode cX8_isOf 22 = .ok (.iload_n 3, 1) := by decide +kernel
theorem dX8_isOf_23 : decode cX8_isOf 23 = .ok (.iconst 5, 1) := by decide +kernel
theorem dX8_isOf_24 : decode cX8_isOf 24 = .ok (.if_icmp .eq 13, 3) := by decide +kernel
theorem dX8_isOf_27 : decode cX8_isOf 27 = .ok (.iload_n 2, 1) := by decide +kernel
theorem dX8_isOf_28 : decode cX8_isOf 28 = .ok (.iconst 2, 1) := by decide +kernel
theorem dX8_isOf_29 : decode cX8_isOf 29 = .ok (.if_icmp .ne 12, 3) := by decide +kernel
theorem dX8_isOf_32 : decode cX8_isOf 32 = .ok (.iload_n 3, 1) := by decide +kernel
theorem dX8_isOf_33 : decode cX8_isOf 33 = .ok (.iconst 4, 1) := by decide +kernel
theorem dX8_isOf_34 : decode cX8_isOf 34 = .ok (.if_icmp .ne 7, 3) := by decide +kernel
theorem dX8_isOf_37 : decode cX8_isOf 37 = .ok (.iconst 1, 1) := by decide +kernel
theorem dX8_isOf_38 : decode cX8_isOf 38 = .ok (.goto 4, 3) := by decide +kernel
theorem dX8_isOf_41 : decode cX8_isOf 41 = .ok (.iconst 0, 1) := by decide +kernel
theorem dX8_isOf_42 : decode cX8_isOf 42 = .ok (.ireturn, 1) := by decide +kernel
set_option maxRecDepth 20000 in
theorem ggX8_mark_X8_isSaying : GoodIn wsX8_mark wsX8_isSaying := goodIn_r _ [8, 9, 10, 11, 7, 12, 51, 52, 53, 54, 55, 56, 57, 58, 59, 60, 61, 62, 63, 64, 65, 66, 67, 68, 69, 70, 71, 72, 73, 74, 75, 76, 77, 78, 79, 80, 81, 82, 83] (by decide +kernel) (by decide +kernel)
set_option maxRecDepth 20000 in
theorem gX8_mark_X8_isSaying : GoodIn wsX8_mark (wsV RX8 186 RX8 yX8_isSaying wsX8_isSaying) := goodIn_app (goodIn_of _ (by decide +kernel)) ggX8_mark_X8_isSaying
set_option maxRecDepth 20000 in
theorem ggX8_mark_X8_in : GoodIn wsX8_mark wsX8_in := goodIn_r _ [12] (by decide +kernel) (by decide +kernel)
set_option maxRecDepth 20000 in
theorem gX8_mark_X8_in : GoodIn wsX8_mark (va_wsS RX8 81 yX8_in wsX8_in) := goodIn_app (goodIn_of _ (by decide +kernel)) ggX8_mark_X8_in
set_option maxRecDepth 20000 in
theorem ggX8_mark_X8_isOf : GoodIn wsX8_mark wsX8_isOf := goodIn_r _ [16, 17, 51, 52, 53, 54, 55, 56, 57, 58, 59, 60, 61, 62, 63, 64, 65, 66, 67, 68, 69, 70, 71, 72, 73, 74, 75, 76, 77, 78, 79, 80, 81, 82, 83] (by decide +kernel) (by decide +kernel)
set_option maxRecDepth 20000 in
theorem gX8_mark_X8_isOf : GoodIn wsX8_mark (wsV RX8 194 RX8 yX8_isOf wsX8_isOf) := goodIn_app (goodIn_of _ (by decide +kernel)) ggX8_mark_X8_isOf
set_option maxRecDepth 20000 in
theorem ggX8_mark_X8_find : GoodIn wsX8_mark wsX8_find := goodIn_r _ [21, 22, 23, 51, 52, 53, 54, 55, 56, 57, 58, 59, 60, 61, 62, 63, 64, 65, 66, 67, 68, 69, 70, 71, 72, 73, 74, 75, 76, 77, 78, 79, 80, 81, 82, 83] (by decide +kernel) (by decide +kernel)
set_option maxRecDepth 20000 in
theorem gX8_mark_X8_find : GoodIn wsX8_mark (wsV RX8 91 RX8 yX8_find wsX8_find) := goodIn_app (goodIn_of _ (by decide +kernel)) ggX8_mark_X8_find
set_option maxRecDepth 20000 in
theorem ggX8_mark_X8_openOf : GoodIn wsX8_mark wsX8_openOf := goodIn_r _ [26, 27, 28, 7, 29] (by decide +kernel) (by decide +kernel)
set_option maxRecDepth 20000 in
theorem gX8_mark_X8_openOf : GoodIn wsX8_mark (va_wsS RX8 176 yX8_openOf wsX8_openOf) := goodIn_app (goodIn_of _ (by decide +kernel)) ggX8_mark_X8_openOf
set_option maxRecDepth 20000 in
theorem ggX8_mark_X8_overOf : GoodIn wsX8_mark wsX8_overOf := goodIn_r _ [33, 34, 35, 36, 37, 7, 38, 2, 39, 40, 41, 42, 43, 44, 45, 46, 47, 17, 3, 24, 25, 26, 27, 28, 29, 48, 49, 50, 51, 52, 53, 54, 55, 56, 57, 58, 59, 60, 61, 62, 63, 64, 65, 66, 67, 68, 69, 70, 71, 72, 73, 74, 75, 76, 77, 78, 79, 80, 81, 82, 83] (by decide +kernel) (by decide +kernel)
set_option maxRecDepth 20000 in
theorem gX8_mark_X8_overOf : GoodIn wsX8_mark (wsV RX8 197 RX8 yX8_overOf wsX8_overOf) := goodIn_app (goodIn_of _ (by decide +kernel)) ggX8_mark_X8_overOf
set_option maxRecDepth 20000 in
theorem ggX8_mark_X8_bits : GoodIn wsX8_mark wsX8_bits := goodIn_r _ [29] (by decide +kernel) (by decide +kernel)
set_option maxRecDepth 20000 in
theorem gX8_mark_X8_bits : GoodIn wsX8_mark (va_wsS RX8 173 yX8_bits wsX8_bits) := goodIn_app (goodIn_of _ (by decide +kernel)) ggX8_mark_X8_bits
theorem dX8_mark_0 : decode cX8_mark 0 = .ok (.aload_n 0, 1) := by decide +kernel
theorem dX8_mark_1 : decode cX8_mark 1 = .ok (.iload_n 1, 1) := by decide +kernel
theorem dX8_mark_2 : decode cX8_mark 2 = .ok (.invokevirtual 186, 3) := by decide +kernel
theorem dX8_mark_5 : decode cX8_mark 5 = .ok (.ifCond .eq 15, 3) := by decide +kernel
theorem dX8_mark_8 : decode cX8_mark 8 = .ok (.iload_n 2, 1) := by decide +kernel
theorem dX8_mark_9 : decode cX8_mark 9 = .ok (.i2l, 1) := by decide +kernel
theorem dX8_mark_10 : decode cX8_mark 10 = .ok (.lconst 1, 1) := by decide +kernel
theorem dX8_mark_11 : decode cX8_mark 11 = .ok (.ldc2_w 79, 3) := by decide +kernel
theorem dX8_mark_14 : decode cX8_mark 14 = .ok (.invokestatic 81, 3) := by decide +kernel
theorem dX8_mark_17 : decode cX8_mark 17 = .ok (.ifCond .ne 5, 3) := by decide +kernel
theorem dX8_mark_20 : decode cX8_mark 20 = .ok (.iconst (-1), 1) := by decide +kernel
theorem dX8_mark_21 : decode cX8_mark 21 = .ok (.ireturn, 1) := by decide +kernel
theorem dX8_mark_22 : decode cX8_mark 22 = .ok (.aload_n 0, 1) := by decide +kernel
theorem dX8_mark_23 : decode cX8_mark 23 = .ok (.iload_n 1, 1) := by decide +kernel
theorem dX8_mark_24 : decode cX8_mark 24 = .ok (.iload_n 2, 1) := by decide +kernel
theorem dX8_mark_25 : decode cX8_mark 25 = .ok (.invokevirtual 194, 3) := by decide +kernel
theorem dX8_mark_28 : decode cX8_mark 28 = .ok (.ifCond .ne 9, 3) := by decide +kernel
theorem dX8_mark_31 : decode cX8_mark 31 = .ok (.aload_n 0, 1) := by decide +kernel
theorem dX8_mark_32 : decode cX8_mark 32 = .ok (.iconst 3, 1) := by decide +kernel
theorem dX8_mark_33 : decode cX8_mark 33 = .ok (.invokevirtual 91, 3) := by decide +kernel
theorem dX8_mark_36 : decode cX8_mark 36 = .ok (.ireturn, 1) := by decide +kernel
theorem dX8_mark_37 : decode cX8_mark 37 = .ok (.iload_n 2, 1) := by decide +kernel
theorem dX8_mark_38 : decode cX8_mark 38 = .ok (.tableswitch 93 1 4 #[30, 39, 55, 83], 30) := by decide +kernel
theorem dX8_mark_68 : decode cX8_mark 68 = .ok (.aload_n 0, 1) := by decide +kernel
theorem dX8_mark_69 : decode cX8_mark 69 = .ok (.getfield 7, 3) := by decide +kernel
theorem dX8_mark_72 : decode cX8_mark 72 = .ok (.iconst 5, 1) := by decide +kernel
theorem dX8_mark_73 : decode cX8_mark 73 = .ok (.iload_n 1, 1) := by decide +kernel
theorem dX8_mark_74 : decode cX8_mark 74 = .ok (.iadd, 1) := by decide +kernel
theorem dX8_mark_75 : decode cX8_mark 75 = .ok (.iaload, 1) := by decide +kernel
theorem dX8_mark_76 : decode cX8_mark 76 = .ok (.ireturn, 1) := by decide +kernel
theorem dX8_mark_77 : decode cX8_mark 77 = .ok (.aload_n 0, 1) := by decide +kernel
theorem dX8_mark_78 : decode cX8_mark 78 = .ok (.getfield 19, 3) := by decide +kernel
theorem dX8_mark_81 : decode cX8_mark 81 = .ok (.iload_n 1, 1) := by decide +kernel
theorem dX8_mark_82 : decode cX8_mark 82 = .ok (.iaload, 1) := by decide +kernel
theorem dX8_mark_83 : decode cX8_mark 83 = .ok (.aload_n 0, 1) := by decide +kernel
theorem dX8_mark_84 : decode cX8_mark 84 = .ok (.getfield 19, 3) := by decide +kernel
theorem dX8_mark_87 : decode cX8_mark 87 = .ok (.iload_n 1, 1) := by decide +kernel
theorem dX8_mark_88 : decode cX8_mark 88 = .ok (.iaload, 1) := by decide +kernel
theorem dX8_mark_89 : decode cX8_mark 89 = .ok (.iconst 2, 1) := by decide +kernel
theorem dX8_mark_90 : decode cX8_mark 90 = .ok (.idiv, 1) := by decide +kernel
theorem dX8_mark_91 : decode cX8_mark 91 = .ok (.isub, 1) := by decide +kernel
theorem dX8_mark_92 : decode cX8_mark 92 = .ok (.ireturn, 1) := by decide +kernel
theorem dX8_mark_93 : decode cX8_mark 93 = .ok (.iconst 3, 1) := by decide +kernel
theorem dX8_mark_94 : decode cX8_mark 94 = .ok (.aload_n 0, 1) := by decide +kernel
theorem dX8_mark_95 : decode cX8_mark 95 = .ok (.getfield 19, 3) := by decide +kernel
theorem dX8_mark_98 : decode cX8_mark 98 = .ok (.iload_n 1, 1) := by decide +kernel
theorem dX8_mark_99 : decode cX8_mark 99 = .ok (.iaload, 1) := by decide +kernel
theorem dX8_mark_100 : decode cX8_mark 100 = .ok (.isub, 1) := by decide +kernel
theorem dX8_mark_101 : decode cX8_mark 101 = .ok (.aload_n 0, 1) := by decide +kernel
theorem dX8_mark_102 : decode cX8_mark 102 = .ok (.getfield 7, 3) := by decide +kernel
theorem dX8_mark_105 : decode cX8_mark 105 = .ok (.iconst 5, 1) := by decide +kernel
theorem dX8_mark_106 : decode cX8_mark 106 = .ok (.iload_n 1, 1) := by decide +kernel
theorem dX8_mark_107 : decode cX8_mark 107 = .ok (.iadd, 1) := by decide +kernel
theorem dX8_mark_108 : decode cX8_mark 108 = .ok (.iaload, 1) := by decide +kernel
theorem dX8_mark_109 : decode cX8_mark 109 = .ok (.isub, 1) := by decide +kernel
theorem dX8_mark_110 : decode cX8_mark 110 = .ok (.istore_n 3, 1) := by decide +kernel
theorem dX8_mark_111 : decode cX8_mark 111 = .ok (.iload_n 3, 1) := by decide +kernel
theorem dX8_mark_112 : decode cX8_mark 112 = .ok (.ifCond .ge 7, 3) := by decide +kernel
theorem dX8_mark_115 : decode cX8_mark 115 = .ok (.iconst 0, 1) := by decide +kernel
theorem dX8_mark_116 : decode cX8_mark 116 = .ok (.goto 4, 3) := by decide +kernel
theorem dX8_mark_119 : decode cX8_mark 119 = .ok (.iload_n 3, 1) := by decide +kernel
theorem dX8_mark_120 : decode cX8_mark 120 = .ok (.ireturn, 1) := by decide +kernel
theorem dX8_mark_121 : decode cX8_mark 121 = .ok (.aload_n 0, 1) := by decide +kernel
theorem dX8_mark_122 : decode cX8_mark 122 = .ok (.getfield 7, 3) := by decide +kernel
theorem dX8_mark_125 : decode cX8_mark 125 = .ok (.iconst 3, 1) := by decide +kernel
theorem dX8_mark_126 : decode cX8_mark 126 = .ok (.iaload, 1) := by decide +kernel
theorem dX8_mark_127 : decode cX8_mark 127 = .ok (.invokestatic 176, 3) := by decide +kernel
theorem dX8_mark_130 : decode cX8_mark 130 = .ok (.ireturn, 1) := by decide +kernel
theorem dX8_mark_131 : decode cX8_mark 131 = .ok (.aload_n 0, 1) := by decide +kernel
theorem dX8_mark_132 : decode cX8_mark 132 = .ok (.iload_n 1, 1) := by decide +kernel
theorem dX8_mark_133 : decode cX8_mark 133 = .ok (.invokevirtual 197, 3) := by decide +kernel
theorem dX8_mark_136 : decode cX8_mark 136 = .ok (.invokestatic 173, 3) := by decide +kernel
theorem dX8_mark_139 : decode cX8_mark 139 = .ok (.ireturn, 1) := by decide +kernel
set_option maxRecDepth 20000 in
theorem ggX8_bears_X8_isOne : GoodIn wsX8_bears wsX8_isOne := goodIn_r _ [6, 7, 8, 9, 5, 10, 11, 12, 13, 14, 15, 16, 17, 18, 19, 20, 21, 22, 23, 24, 25, 26, 27, 28, 29, 30, 31, 32, 33, 34, 35, 36, 37, 38, 39, 40, 41, 42, 43] (by decide +kernel) (by decide +kernel)
set_option maxRecDepth 20000 in
theorem gX8_bears_X8_isOne : GoodIn wsX8_bears (wsV RX8 200 RX8 yX8_isOne wsX8_isOne) := goodIn_app (goodIn_of _ (by decide +kernel)) ggX8_bears_X8_isOne
theorem dX8_bears_0 : decode cX8_bears 0 = .ok (.aload_n 0, 1) := by decide +kernel
theorem dX8_bears_1 : decode cX8_bears 1 = .ok (.iload_n 1, 1) := by decide +kernel
theorem dX8_bears_2 : decode cX8_bears 2 = .ok (.invokevirtual 200, 3) := by decide +kernel
theorem dX8_bears_5 : decode cX8_bears 5 = .ok (.ifCond .eq 12, 3) := by decide +kernel
theorem dX8_bears_8 : decode cX8_bears 8 = .ok (.aload_n 0, 1) := by decide +kernel
theorem dX8_bears_9 : decode cX8_bears 9 = .ok (.getfield 13, 3) := by decide +kernel
theorem dX8_bears_12 : decode cX8_bears 12 = .ok (.iload_n 1, 1) := by decide +kernel
theorem dX8_bears_13 : decode cX8_bears 13 = .ok (.iaload, 1) := by decide +kernel
theorem dX8_bears_14 : decode cX8_bears 14 = .ok (.goto 4, 3) := by decide +kernel
theorem dX8_bears_17 : decode cX8_bears 17 = .ok (.iconst (-1), 1) := by decide +kernel
theorem dX8_bears_18 : decode cX8_bears 18 = .ok (.ireturn, 1) := by decide +kernel
theorem dX8_keepPast_0 : decode cX8_keepPast 0 = .ok (.iconst 0, 1) := by decide +kernel
theorem dX8_keepPast_1 : decode cX8_keepPast 1 = .ok (.istore_n 1, 1) := by decide +kernel
theorem dX8_keepPast_2 : decode cX8_keepPast 2 = .ok (.iload_n 1, 1) := by decide +kernel
theorem dX8_keepPast_3 : decode cX8_keepPast 3 = .ok (.bipush 10, 2) := by decide +kernel
theorem dX8_keepPast_5 : decode cX8_keepPast 5 = .ok (.if_icmp .ge 36, 3) := by decide +kernel
theorem dX8_keepPast_8 : decode cX8_keepPast 8 = .ok (.aload_n 0, 1) := by decide +kernel
theorem dX8_keepPast_9 : decode cX8_keepPast 9 = .ok (.getfield 7, 3) := by decide +kernel
theorem dX8_keepPast_12 : decode cX8_keepPast 12 = .ok (.bipush 11, 2) := by decide +kernel
theorem dX8_keepPast_14 : decode cX8_keepPast 14 = .ok (.bipush 10, 2) := by decide +kernel
theorem dX8_keepPast_16 : decode cX8_keepPast 16 = .ok (.aload_n 0, 1) := by decide +kernel
theorem dX8_keepPast_17 : decode cX8_keepPast 17 = .ok (.getfield 7, 3) := by decide +kernel
theorem dX8_keepPast_20 : decode cX8_keepPast 20 = .ok (.iconst 0, 1) := by decide +kernel
theorem dX8_keepPast_21 : decode cX8_keepPast 21 = .ok (.iaload, 1) := by decide +kernel
theorem dX8_keepPast_22 : decode cX8_keepPast 22 = .ok (.imul, 1) := by decide +kernel
theorem dX8_keepPast_23 : decode cX8_keepPast 23 = .ok (.iadd, 1) := by decide +kernel
theorem dX8_keepPast_24 : decode cX8_keepPast 24 = .ok (.iload_n 1, 1) := by decide +kernel
theorem dX8_keepPast_25 : decode cX8_keepPast 25 = .ok (.iadd, 1) := by decide +kernel
theorem dX8_keepPast_26 : decode cX8_keepPast 26 = .ok (.aload_n 0, 1) := by decide +kernel
theorem dX8_keepPast_27 : decode cX8_keepPast 27 = .ok (.getfield 7, 3) := by decide +kernel
theorem dX8_keepPast_30 : decode cX8_keepPast 30 = .ok (.iconst 1, 1) := by decide +kernel
theorem dX8_keepPast_31 : decode cX8_keepPast 31 = .ok (.iload_n 1, 1) := by decide +kernel
theorem dX8_keepPast_32 : decode cX8_keepPast 32 = .ok (.iadd, 1) := by decide +kernel
theorem dX8_keepPast_33 : decode cX8_keepPast 33 = .ok (.iaload, 1) := by decide +kernel
theorem dX8_keepPast_34 : decode cX8_keepPast 34 = .ok (.iastore, 1) := by decide +kernel
theorem dX8_keepPast_35 : decode cX8_keepPast 35 = .ok (.iinc 1 1, 3) := by decide +kernel
theorem dX8_keepPast_38 : decode cX8_keepPast 38 = .ok (.goto (-36), 3) := by decide +kernel
theorem dX8_keepPast_41 : decode cX8_keepPast 41 = .ok (.aload_n 0, 1) := by decide +kernel
theorem dX8_keepPast_42 : decode cX8_keepPast 42 = .ok (.getfield 7, 3) := by decide +kernel
theorem dX8_keepPast_45 : decode cX8_keepPast 45 = .ok (.iconst 0, 1) := by decide +kernel
theorem dX8_keepPast_46 : decode cX8_keepPast 46 = .ok (.dup2, 1) := by decide +kernel
theorem dX8_keepPast_47 : decode cX8_keepPast 47 = .ok (.iaload, 1) := by decide +kernel
theorem dX8_keepPast_48 : decode cX8_keepPast 48 = .ok (.iconst 1, 1) := by decide +kernel
theorem dX8_keepPast_49 : decode cX8_keepPast 49 = .ok (.iadd, 1) := by decide +kernel
theorem dX8_keepPast_50 : decode cX8_keepPast 50 = .ok (.iastore, 1) := by decide +kernel
theorem dX8_keepPast_51 : decode cX8_keepPast 51 = .ok (.return_, 1) := by decide +kernel
set_option maxRecDepth 20000 in
theorem ggX8_say_X8_isOne : GoodIn wsX8_say wsX8_isOne := goodIn_r _ [6, 7, 8, 9, 5, 10, 45, 46, 47, 48, 49, 50, 51, 52, 53, 54, 55, 56, 57, 58, 59, 60, 61, 62, 63, 64, 65, 66, 67, 68, 69, 70, 71, 72, 73, 74, 75, 76, 77] (by decide +kernel) (by decide +kernel)
set_option maxRecDepth 20000 in
theorem gX8_say_X8_isOne : GoodIn wsX8_say (wsV RX8 200 RX8 yX8_isOne wsX8_isOne) := goodIn_app (goodIn_of _ (by decide +kernel)) ggX8_say_X8_isOne
set_option maxRecDepth 20000 in
theorem ggX8_say_X8_isSaying : GoodIn wsX8_say wsX8_isSaying := goodIn_r _ [14, 15, 8, 9, 5, 10, 45, 46, 47, 48, 49, 50, 51, 52, 53, 54, 55, 56, 57, 58, 59, 60, 61, 62, 63, 64, 65, 66, 67, 68, 69, 70, 71, 72, 73, 74, 75, 76, 77] (by decide +kernel) (by decide +kernel)
set_option maxRecDepth 20000 in
theorem gX8_say_X8_isSaying : GoodIn wsX8_say (wsV RX8 186 RX8 yX8_isSaying wsX8_isSaying) := goodIn_app (goodIn_of _ (by decide +kernel)) ggX8_say_X8_isSaying
set_option maxRecDepth 20000 in
theorem ggX8_say_X8_isOver : GoodIn wsX8_say wsX8_isOver := goodIn_r _ [19, 1, 45, 46, 47, 48, 49, 50, 51, 52, 53, 54, 55, 56, 57, 58, 59, 60, 61, 62, 63, 64, 65, 66, 67, 68, 69, 70, 71, 72, 73, 74, 75, 76, 77] (by decide +kernel) (by decide +kernel)
set_option maxRecDepth 20000 in
theorem gX8_say_X8_isOver : GoodIn wsX8_say (wsV RX8 203 RX8 yX8_isOver wsX8_isOver) := goodIn_app (goodIn_of _ (by decide +kernel)) ggX8_say_X8_isOver
set_option maxRecDepth 20000 in
theorem ggX8_say_X8_keepPast : GoodIn wsX8_say wsX8_keepPast := goodIn_r _ [23, 1, 45, 46, 47, 48, 49, 50, 51, 52, 53, 54, 55, 56, 57, 58, 59, 60, 61, 62, 63, 64, 65, 66, 67, 68, 69, 70, 71, 72, 73, 74, 75, 76, 77] (by decide +kernel) (by decide +kernel)
set_option maxRecDepth 20000 in
theorem gX8_say_X8_keepPast : GoodIn wsX8_say (wsV RX8 206 RX8 yX8_keepPast wsX8_keepPast) := goodIn_app (goodIn_of _ (by decide +kernel)) ggX8_say_X8_keepPast
set_option maxRecDepth 20000 in
theorem ggX8_say_X8_says : GoodIn wsX8_say wsX8_says := goodIn_r _ [27, 1, 28, 29, 30, 31, 32, 5, 33, 34, 35, 36, 37, 38, 39, 40, 41, 42, 43, 44, 45, 46, 47, 48, 49, 50, 51, 52, 53, 54, 55, 56, 57, 58, 59, 60, 61, 62, 63, 64, 65, 66, 67, 68, 69, 70, 71, 72, 73, 74, 75, 76, 77] (by decide +kernel) (by decide +kernel)
set_option maxRecDepth 20000 in
theorem gX8_say_X8_says : GoodIn wsX8_say (wsV RX8 209 RX8 yX8_says wsX8_says) := goodIn_app (goodIn_of _ (by decide +kernel)) ggX8_say_X8_says
theorem dX8_say_0 : decode cX8_say 0 = .ok (.aload_n 0, 1) := by decide +kernel
theorem dX8_say_1 : decode cX8_say 1 = .ok (.iload_n 1, 1) := by decide +kernel
theorem dX8_say_2 : decode cX8_say 2 = .ok (.invokevirtual 200, 3) := by decide +kernel
theorem dX8_say_5 : decode cX8_say 5 = .ok (.ifCond .eq 11, 3) := by decide +kernel
theorem dX8_say_8 : decode cX8_say 8 = .ok (.aload_n 0, 1) := by decide +kernel
theorem dX8_say_9 : decode cX8_say 9 = .ok (.iload_n 2, 1) := by decide +kernel
theorem dX8_say_10 : decode cX8_say 10 = .ok (.invokevirtual 186, 3) := by decide +kernel
theorem dX8_say_13 : decode cX8_say 13 = .ok (.ifCond .ne 5, 3) := by decide +kernel
theorem dX8_say_16 : decode cX8_say 16 = .ok (.iconst (-1), 1) := by decide +kernel
theorem dX8_say_17 : decode cX8_say 17 = .ok (.ireturn, 1) := by decide +kernel
theorem dX8_say_18 : decode cX8_say 18 = .ok (.aload_n 0, 1) := by decide +kernel
theorem dX8_say_19 : decode cX8_say 19 = .ok (.invokevirtual 203, 3) := by decide +kernel
theorem dX8_say_22 : decode cX8_say 22 = .ok (.ifCond .eq 6, 3) := by decide +kernel
theorem dX8_say_25 : decode cX8_say 25 = .ok (.bipush (-4), 2) := by decide +kernel
theorem dX8_say_27 : decode cX8_say 27 = .ok (.ireturn, 1) := by decide +kernel
theorem dX8_say_28 : decode cX8_say 28 = .ok (.aload_n 0, 1) := by decide +kernel
theorem dX8_say_29 : decode cX8_say 29 = .ok (.getfield 7, 3) := by decide +kernel
theorem dX8_say_32 : decode cX8_say 32 = .ok (.iconst 0, 1) := by decide +kernel
theorem dX8_say_33 : decode cX8_say 33 = .ok (.iaload, 1) := by decide +kernel
theorem dX8_say_34 : decode cX8_say 34 = .ok (.bipush 40, 2) := by decide +kernel
theorem dX8_say_36 : decode cX8_say 36 = .ok (.if_icmp .ne 6, 3) := by decide +kernel
theorem dX8_say_39 : decode cX8_say 39 = .ok (.bipush (-2), 2) := by decide +kernel
theorem dX8_say_41 : decode cX8_say 41 = .ok (.ireturn, 1) := by decide +kernel
theorem dX8_say_42 : decode cX8_say 42 = .ok (.aload_n 0, 1) := by decide +kernel
theorem dX8_say_43 : decode cX8_say 43 = .ok (.invokevirtual 206, 3) := by decide +kernel
theorem dX8_say_46 : decode cX8_say 46 = .ok (.aload_n 0, 1) := by decide +kernel
theorem dX8_say_47 : decode cX8_say 47 = .ok (.iconst 0, 1) := by decide +kernel
theorem dX8_say_48 : decode cX8_say 48 = .ok (.iload_n 1, 1) := by decide +kernel
theorem dX8_say_49 : decode cX8_say 49 = .ok (.iload_n 2, 1) := by decide +kernel
theorem dX8_say_50 : decode cX8_say 50 = .ok (.invokevirtual 209, 3) := by decide +kernel
theorem dX8_say_53 : decode cX8_say 53 = .ok (.aload_n 0, 1) := by decide +kernel
theorem dX8_say_54 : decode cX8_say 54 = .ok (.getfield 7, 3) := by decide +kernel
theorem dX8_say_57 : decode cX8_say 57 = .ok (.iconst 2, 1) := by decide +kernel
theorem dX8_say_58 : decode cX8_say 58 = .ok (.iaload, 1) := by decide +kernel
theorem dX8_say_59 : decode cX8_say 59 = .ok (.ireturn, 1) := by decide +kernel
set_option maxRecDepth 20000 in
theorem ggX8_doDay_X8_keepPast : GoodIn wsX8_doDay wsX8_keepPast := goodIn_r _ [6, 1, 11, 12, 13, 14, 15, 16, 17, 18, 19, 20, 21, 22, 23, 24, 25, 26, 27, 28, 29, 30, 31, 32, 33, 34, 35, 36, 37, 38, 39, 40, 41, 42, 43] (by decide +kernel) (by decide +kernel)
set_option maxRecDepth 20000 in
theorem gX8_doDay_X8_keepPast : GoodIn wsX8_doDay (wsV RX8 206 RX8 yX8_keepPast wsX8_keepPast) := goodIn_app (goodIn_of _ (by decide +kernel)) ggX8_doDay_X8_keepPast
set_option maxRecDepth 20000 in
theorem ggX8_doDay_X8_eases : GoodIn wsX8_doDay wsX8_eases := goodIn_r _ [10, 1, 11, 12, 13, 14, 15, 16, 17, 18, 19, 20, 21, 22, 23, 24, 25, 26, 27, 28, 29, 30, 31, 32, 33, 34, 35, 36, 37, 38, 39, 40, 41, 42, 43] (by decide +kernel) (by decide +kernel)
set_option maxRecDepth 20000 in
theorem gX8_doDay_X8_eases : GoodIn wsX8_doDay (wsV RX8 213 RX8 yX8_eases wsX8_eases) := goodIn_app (goodIn_of _ (by decide +kernel)) ggX8_doDay_X8_eases
theorem dX8_doDay_0 : decode cX8_doDay 0 = .ok (.aload_n 0, 1) := by decide +kernel
theorem dX8_doDay_1 : decode cX8_doDay 1 = .ok (.invokevirtual 206, 3) := by decide +kernel
theorem dX8_doDay_4 : decode cX8_doDay 4 = .ok (.aload_n 0, 1) := by decide +kernel
theorem dX8_doDay_5 : decode cX8_doDay 5 = .ok (.getfield 7, 3) := by decide +kernel
theorem dX8_doDay_8 : decode cX8_doDay 8 = .ok (.iconst 1, 1) := by decide +kernel
theorem dX8_doDay_9 : decode cX8_doDay 9 = .ok (.dup2, 1) := by decide +kernel
theorem dX8_doDay_10 : decode cX8_doDay 10 = .ok (.iaload, 1) := by decide +kernel
theorem dX8_doDay_11 : decode cX8_doDay 11 = .ok (.iconst 1, 1) := by decide +kernel
theorem dX8_doDay_12 : decode cX8_doDay 12 = .ok (.iadd, 1) := by decide +kernel
theorem dX8_doDay_13 : decode cX8_doDay 13 = .ok (.iastore, 1) := by decide +kernel
theorem dX8_doDay_14 : decode cX8_doDay 14 = .ok (.aload_n 0, 1) := by decide +kernel
theorem dX8_doDay_15 : decode cX8_doDay 15 = .ok (.iconst 0, 1) := by decide +kernel
theorem dX8_doDay_16 : decode cX8_doDay 16 = .ok (.invokevirtual 213, 3) := by decide +kernel
theorem dX8_doDay_19 : decode cX8_doDay 19 = .ok (.return_, 1) := by decide +kernel
set_option maxRecDepth 20000 in
theorem ggX8_day_X8_doDay : GoodIn wsX8_day wsX8_doDay := goodIn_r _ [7, 2, 8, 9, 10, 6, 11, 12, 13, 14, 15, 16, 17, 18, 19, 20, 21, 22, 23, 24, 25, 26, 27, 28, 29, 30, 31, 32, 33, 34, 35, 36, 37, 38, 39, 40, 41, 42, 43, 44, 45, 46, 47, 48] (by decide +kernel) (by decide +kernel)
set_option maxRecDepth 20000 in
theorem gX8_day_X8_doDay : GoodIn wsX8_day (wsV RX8 217 RX8 yX8_doDay wsX8_doDay) := goodIn_app (goodIn_of _ (by decide +kernel)) ggX8_day_X8_doDay
theorem dX8_day_0 : decode cX8_day 0 = .ok (.aload_n 0, 1) := by decide +kernel
theorem dX8_day_1 : decode cX8_day 1 = .ok (.getfield 167, 3) := by decide +kernel
theorem dX8_day_4 : decode cX8_day 4 = .ok (.ifCond .ne 6, 3) := by decide +kernel
theorem dX8_day_7 : decode cX8_day 7 = .ok (.bipush (-4), 2) := by decide +kernel
theorem dX8_day_9 : decode cX8_day 9 = .ok (.ireturn, 1) := by decide +kernel
theorem dX8_day_10 : decode cX8_day 10 = .ok (.aload_n 0, 1) := by decide +kernel
theorem dX8_day_11 : decode cX8_day 11 = .ok (.getfield 7, 3) := by decide +kernel
theorem dX8_day_14 : decode cX8_day 14 = .ok (.iconst 0, 1) := by decide +kernel
theorem dX8_day_15 : decode cX8_day 15 = .ok (.iaload, 1) := by decide +kernel
theorem dX8_day_16 : decode cX8_day 16 = .ok (.bipush 40, 2) := by decide +kernel
theorem dX8_day_18 : decode cX8_day 18 = .ok (.if_icmp .ne 6, 3) := by decide +kernel
theorem dX8_day_21 : decode cX8_day 21 = .ok (.bipush (-2), 2) := by decide +kernel
theorem dX8_day_23 : decode cX8_day 23 = .ok (.ireturn, 1) := by decide +kernel
theorem dX8_day_24 : decode cX8_day 24 = .ok (.aload_n 0, 1) := by decide +kernel
theorem dX8_day_25 : decode cX8_day 25 = .ok (.invokevirtual 217, 3) := by decide +kernel
theorem dX8_day_28 : decode cX8_day 28 = .ok (.aload_n 0, 1) := by decide +kernel
theorem dX8_day_29 : decode cX8_day 29 = .ok (.getfield 7, 3) := by decide +kernel
theorem dX8_day_32 : decode cX8_day 32 = .ok (.iconst 2, 1) := by decide +kernel
theorem dX8_day_33 : decode cX8_day 33 = .ok (.iaload, 1) := by decide +kernel
theorem dX8_day_34 : decode cX8_day 34 = .ok (.ireturn, 1) := by decide +kernel
set_option maxRecDepth 20000 in
theorem ggX8_undo_X8_in : GoodIn wsX8_undo wsX8_in := goodIn_r _ [5] (by decide +kernel) (by decide +kernel)
set_option maxRecDepth 20000 in
theorem gX8_undo_X8_in : GoodIn wsX8_undo (va_wsS RX8 81 yX8_in wsX8_in) := goodIn_app (goodIn_of _ (by decide +kernel)) ggX8_undo_X8_in
theorem dX8_undo_0 : decode cX8_undo 0 = .ok (.iload_n 1, 1) := by decide +kernel
theorem dX8_undo_1 : decode cX8_undo 1 = .ok (.i2l, 1) := by decide +kernel
theorem dX8_undo_2 : decode cX8_undo 2 = .ok (.lconst 0, 1) := by decide +kernel
theorem dX8_undo_3 : decode cX8_undo 3 = .ok (.aload_n 0, 1) := by decide +kernel
theorem dX8_undo_4 : decode cX8_undo 4 = .ok (.getfield 7, 3) := by decide +kernel
theorem dX8_undo_7 : decode cX8_undo 7 = .ok (.iconst 0, 1) := by decide +kernel
theorem dX8_undo_8 : decode cX8_undo 8 = .ok (.iaload, 1) := by decide +kernel
theorem dX8_undo_9 : decode cX8_undo 9 = .ok (.i2l, 1) := by decide +kernel
theorem dX8_undo_10 : decode cX8_undo 10 = .ok (.invokestatic 81, 3) := by decide +kernel
theorem dX8_undo_13 : decode cX8_undo 13 = .ok (.ifCond .ne 5, 3) := by decide +kernel
theorem dX8_undo_16 : decode cX8_undo 16 = .ok (.iconst (-1), 1) := by decide +kernel
theorem dX8_undo_17 : decode cX8_undo 17 = .ok (.ireturn, 1) := by decide +kernel
theorem dX8_undo_18 : decode cX8_undo 18 = .ok (.aload_n 0, 1) := by decide +kernel
theorem dX8_undo_19 : decode cX8_undo 19 = .ok (.getfield 7, 3) := by decide +kernel
theorem dX8_undo_22 : decode cX8_undo 22 = .ok (.iconst 0, 1) := by decide +kernel
theorem dX8_undo_23 : decode cX8_undo 23 = .ok (.iaload, 1) := by decide +kernel
theorem dX8_undo_24 : decode cX8_undo 24 = .ok (.iload_n 1, 1) := by decide +kernel
theorem dX8_undo_25 : decode cX8_undo 25 = .ok (.isub, 1) := by decide +kernel
theorem dX8_undo_26 : decode cX8_undo 26 = .ok (.istore_n 2, 1) := by decide +kernel
theorem dX8_undo_27 : decode cX8_undo 27 = .ok (.iconst 0, 1) := by decide +kernel
theorem dX8_undo_28 : decode cX8_undo 28 = .ok (.istore_n 3, 1) := by decide +kernel
theorem dX8_undo_29 : decode cX8_undo 29 = .ok (.iload_n 3, 1) := by decide +kernel
theorem dX8_undo_30 : decode cX8_undo 30 = .ok (.bipush 10, 2) := by decide +kernel
theorem dX8_undo_32 : decode cX8_undo 32 = .ok (.if_icmp .ge 35, 3) := by decide +kernel
theorem dX8_undo_35 : decode cX8_undo 35 = .ok (.iload_n 2, 1) := by decide +kernel
theorem dX8_undo_36 : decode cX8_undo 36 = .ok (.ifCond .le 31, 3) := by decide +kernel
theorem dX8_undo_39 : decode cX8_undo 39 = .ok (.aload_n 0, 1) := by decide +kernel
theorem dX8_undo_40 : decode cX8_undo 40 = .ok (.getfield 7, 3) := by decide +kernel
theorem dX8_undo_43 : decode cX8_undo 43 = .ok (.iconst 1, 1) := by decide +kernel
theorem dX8_undo_44 : decode cX8_undo 44 = .ok (.iload_n 3, 1) := by decide +kernel
theorem dX8_undo_45 : decode cX8_undo 45 = .ok (.iadd, 1) := by decide +kernel
theorem dX8_undo_46 : decode cX8_undo 46 = .ok (.aload_n 0, 1) := by decide +kernel
theorem dX8_undo_47 : decode cX8_undo 47 = .ok (.getfield 7, 3) := by decide +kernel
theorem dX8_undo_50 : decode cX8_undo 50 = .ok (.bipush 11, 2) := by decide +kernel
theorem dX8_undo_52 : decode cX8_undo 52 = .ok (.bipush 10, 2) := by decide +kernel
theorem dX8_undo_54 : decode cX8_undo 54 = .ok (.iload_n 1, 1) := by decide +kernel
theorem dX8_undo_55 : decode cX8_undo 55 = .ok (.imul, 1) := by decide +kernel
theorem dX8_undo_56 : decode cX8_undo 56 = .ok (.iadd, 1) := by decide +kernel
theorem dX8_undo_57 : decode cX8_undo 57 = .ok (.iload_n 3, 1) := by decide +kernel
theorem dX8_undo_58 : decode cX8_undo 58 = .ok (.iadd, 1) := by decide +kernel
theorem dX8_undo_59 : decode cX8_undo 59 = .ok (.iaload, 1) := by decide +kernel
theorem dX8_undo_60 : decode cX8_undo 60 = .ok (.iastore, 1) := by decide +kernel
theorem dX8_undo_61 : decode cX8_undo 61 = .ok (.iinc 3 1, 3) := by decide +kernel
theorem dX8_undo_64 : decode cX8_undo 64 = .ok (.goto (-35), 3) := by decide +kernel
theorem dX8_undo_67 : decode cX8_undo 67 = .ok (.aload_n 0, 1) := by decide +kernel
theorem dX8_undo_68 : decode cX8_undo 68 = .ok (.getfield 7, 3) := by decide +kernel
theorem dX8_undo_71 : decode cX8_undo 71 = .ok (.iconst 0, 1) := by decide +kernel
theorem dX8_undo_72 : decode cX8_undo 72 = .ok (.iload_n 1, 1) := by decide +kernel
theorem dX8_undo_73 : decode cX8_undo 73 = .ok (.iastore, 1) := by decide +kernel
theorem dX8_undo_74 : decode cX8_undo 74 = .ok (.iload_n 2, 1) := by decide +kernel
theorem dX8_undo_75 : decode cX8_undo 75 = .ok (.ireturn, 1) := by decide +kernel
theorem dX8_copyFamily_0 : decode cX8_copyFamily 0 = .ok (.iconst 0, 1) := by decide +kernel
theorem dX8_copyFamily_1 : decode cX8_copyFamily 1 = .ok (.istore_n 3, 1) := by decide +kernel
theorem dX8_copyFamily_2 : decode cX8_copyFamily 2 = .ok (.iload_n 3, 1) := by decide +kernel
theorem dX8_copyFamily_3 : decode cX8_copyFamily 3 = .ok (.sipush 411, 3) := by decide +kernel
theorem dX8_copyFamily_6 : decode cX8_copyFamily 6 = .ok (.if_icmp .ge 25, 3) := by decide +kernel
theorem dX8_copyFamily_9 : decode cX8_copyFamily 9 = .ok (.aload_n 0, 1) := by decide +kernel
theorem dX8_copyFamily_10 : decode cX8_copyFamily 10 = .ok (.getfield 7, 3) := by decide +kernel
theorem dX8_copyFamily_13 : decode cX8_copyFamily 13 = .ok (.iload_n 2, 1) := by decide +kernel
theorem dX8_copyFamily_14 : decode cX8_copyFamily 14 = .ok (.iload_n 3, 1) := by decide +kernel
theorem dX8_copyFamily_15 : decode cX8_copyFamily 15 = .ok (.iadd, 1) := by decide +kernel
theorem dX8_copyFamily_16 : decode cX8_copyFamily 16 = .ok (.aload_n 0, 1) := by decide +kernel
theorem dX8_copyFamily_17 : decode cX8_copyFamily 17 = .ok (.getfield 7, 3) := by decide +kernel
theorem dX8_copyFamily_20 : decode cX8_copyFamily 20 = .ok (.iload_n 1, 1) := by decide +kernel
theorem dX8_copyFamily_21 : decode cX8_copyFamily 21 = .ok (.iload_n 3, 1) := by decide +kernel
theorem dX8_copyFamily_22 : decode cX8_copyFamily 22 = .ok (.iadd, 1) := by decide +kernel
theorem dX8_copyFamily_23 : decode cX8_copyFamily 23 = .ok (.iaload, 1) := by decide +kernel
theorem dX8_copyFamily_24 : decode cX8_copyFamily 24 = .ok (.iastore, 1) := by decide +kernel
theorem dX8_copyFamily_25 : decode cX8_copyFamily 25 = .ok (.iinc 3 1, 3) := by decide +kernel
theorem dX8_copyFamily_28 : decode cX8_copyFamily 28 = .ok (.goto (-26), 3) := by decide +kernel
theorem dX8_copyFamily_31 : decode cX8_copyFamily 31 = .ok (.return_, 1) := by decide +kernel
set_option maxRecDepth 20000 in
theorem ggX8_keep_X8_in : GoodIn wsX8_keep wsX8_in := goodIn_r _ [7] (by decide +kernel) (by decide +kernel)
set_option maxRecDepth 20000 in
theorem gX8_keep_X8_in : GoodIn wsX8_keep (va_wsS RX8 81 yX8_in wsX8_in) := goodIn_app (goodIn_of _ (by decide +kernel)) ggX8_keep_X8_in
set_option maxRecDepth 20000 in
theorem ggX8_keep_X8_copyFamily : GoodIn wsX8_keep wsX8_copyFamily := goodIn_r _ [11, 3, 12, 13, 14, 15, 16, 17, 18, 19, 20, 21, 22, 23, 24, 25, 26, 27, 28, 29, 30, 31, 32, 33, 34, 35, 36, 37, 38, 39, 40, 41, 42, 43, 44] (by decide +kernel) (by decide +kernel)
set_option maxRecDepth 20000 in
theorem gX8_keep_X8_copyFamily : GoodIn wsX8_keep (wsV RX8 222 RX8 yX8_copyFamily wsX8_copyFamily) := goodIn_app (goodIn_of _ (by decide +kernel)) ggX8_keep_X8_copyFamily
theorem dX8_keep_0 : decode cX8_keep 0 = .ok (.iload_n 1, 1) := by decide +kernel
theorem dX8_keep_1 : decode cX8_keep 1 = .ok (.i2l, 1) := by decide +kernel
theorem dX8_keep_2 : decode cX8_keep 2 = .ok (.lconst 0, 1) := by decide +kernel
theorem dX8_keep_3 : decode cX8_keep 3 = .ok (.ldc2_w 220, 3) := by decide +kernel
theorem dX8_keep_6 : decode cX8_keep 6 = .ok (.invokestatic 81, 3) := by decide +kernel
theorem dX8_keep_9 : decode cX8_keep 9 = .ok (.ifCond .ne 5, 3) := by decide +kernel
theorem dX8_keep_12 : decode cX8_keep 12 = .ok (.iconst (-1), 1) := by decide +kernel
theorem dX8_keep_13 : decode cX8_keep 13 = .ok (.ireturn, 1) := by decide +kernel
theorem dX8_keep_14 : decode cX8_keep 14 = .ok (.aload_n 0, 1) := by decide +kernel
theorem dX8_keep_15 : decode cX8_keep 15 = .ok (.getfield 167, 3) := by decide +kernel
theorem dX8_keep_18 : decode cX8_keep 18 = .ok (.ifCond .ne 6, 3) := by decide +kernel
theorem dX8_keep_21 : decode cX8_keep 21 = .ok (.bipush (-4), 2) := by decide +kernel
theorem dX8_keep_23 : decode cX8_keep 23 = .ok (.ireturn, 1) := by decide +kernel
theorem dX8_keep_24 : decode cX8_keep 24 = .ok (.aload_n 0, 1) := by decide +kernel
theorem dX8_keep_25 : decode cX8_keep 25 = .ok (.iconst 0, 1) := by decide +kernel
theorem dX8_keep_26 : decode cX8_keep 26 = .ok (.sipush 411, 3) := by decide +kernel
theorem dX8_keep_29 : decode cX8_keep 29 = .ok (.iconst 1, 1) := by decide +kernel
theorem dX8_keep_30 : decode cX8_keep 30 = .ok (.iload_n 1, 1) := by decide +kernel
theorem dX8_keep_31 : decode cX8_keep 31 = .ok (.iadd, 1) := by decide +kernel
theorem dX8_keep_32 : decode cX8_keep 32 = .ok (.imul, 1) := by decide +kernel
theorem dX8_keep_33 : decode cX8_keep 33 = .ok (.invokevirtual 222, 3) := by decide +kernel
theorem dX8_keep_36 : decode cX8_keep 36 = .ok (.aload_n 0, 1) := by decide +kernel
theorem dX8_keep_37 : decode cX8_keep 37 = .ok (.getfield 7, 3) := by decide +kernel
theorem dX8_keep_40 : decode cX8_keep 40 = .ok (.iconst 0, 1) := by decide +kernel
theorem dX8_keep_41 : decode cX8_keep 41 = .ok (.iaload, 1) := by decide +kernel
theorem dX8_keep_42 : decode cX8_keep 42 = .ok (.ireturn, 1) := by decide +kernel
set_option maxRecDepth 20000 in
theorem ggX8_on_X8_in : GoodIn wsX8_on wsX8_in := goodIn_r _ [6] (by decide +kernel) (by decide +kernel)
set_option maxRecDepth 20000 in
theorem gX8_on_X8_in : GoodIn wsX8_on (va_wsS RX8 81 yX8_in wsX8_in) := goodIn_app (goodIn_of _ (by decide +kernel)) ggX8_on_X8_in
set_option maxRecDepth 20000 in
theorem ggX8_on_X8_find : GoodIn wsX8_on wsX8_find := goodIn_r _ [10, 11, 12, 17, 18, 19, 20, 21, 22, 23, 24, 25, 26, 27, 28, 29, 30, 31, 32, 33, 34, 35, 36, 37, 38, 39, 40, 41, 42, 43, 44, 45, 46, 47, 48, 49] (by decide +kernel) (by decide +kernel)
set_option maxRecDepth 20000 in
theorem gX8_on_X8_find : GoodIn wsX8_on (wsV RX8 91 RX8 yX8_find wsX8_find) := goodIn_app (goodIn_of _ (by decide +kernel)) ggX8_on_X8_find
set_option maxRecDepth 20000 in
theorem ggX8_on_X8_copyFamily : GoodIn wsX8_on wsX8_copyFamily := goodIn_r _ [16, 2, 17, 18, 19, 20, 21, 22, 23, 24, 25, 26, 27, 28, 29, 30, 31, 32, 33, 34, 35, 36, 37, 38, 39, 40, 41, 42, 43, 44, 45, 46, 47, 48, 49] (by decide +kernel) (by decide +kernel)
set_option maxRecDepth 20000 in
theorem gX8_on_X8_copyFamily : GoodIn wsX8_on (wsV RX8 222 RX8 yX8_copyFamily wsX8_copyFamily) := goodIn_app (goodIn_of _ (by decide +kernel)) ggX8_on_X8_copyFamily
theorem dX8_on_0 : decode cX8_on 0 = .ok (.iload_n 1, 1) := by decide +kernel
theorem dX8_on_1 : decode cX8_on 1 = .ok (.i2l, 1) := by decide +kernel
theorem dX8_on_2 : decode cX8_on 2 = .ok (.lconst 0, 1) := by decide +kernel
theorem dX8_on_3 : decode cX8_on 3 = .ok (.ldc2_w 220, 3) := by decide +kernel
theorem dX8_on_6 : decode cX8_on 6 = .ok (.invokestatic 81, 3) := by decide +kernel
theorem dX8_on_9 : decode cX8_on 9 = .ok (.ifCond .ne 5, 3) := by decide +kernel
theorem dX8_on_12 : decode cX8_on 12 = .ok (.iconst (-1), 1) := by decide +kernel
theorem dX8_on_13 : decode cX8_on 13 = .ok (.ireturn, 1) := by decide +kernel
theorem dX8_on_14 : decode cX8_on 14 = .ok (.aload_n 0, 1) := by decide +kernel
theorem dX8_on_15 : decode cX8_on 15 = .ok (.getfield 7, 3) := by decide +kernel
theorem dX8_on_18 : decode cX8_on 18 = .ok (.sipush 411, 3) := by decide +kernel
theorem dX8_on_21 : decode cX8_on 21 = .ok (.iconst 1, 1) := by decide +kernel
theorem dX8_on_22 : decode cX8_on 22 = .ok (.iload_n 1, 1) := by decide +kernel
theorem dX8_on_23 : decode cX8_on 23 = .ok (.iadd, 1) := by decide +kernel
theorem dX8_on_24 : decode cX8_on 24 = .ok (.imul, 1) := by decide +kernel
theorem dX8_on_25 : decode cX8_on 25 = .ok (.iconst 0, 1) := by decide +kernel
theorem dX8_on_26 : decode cX8_on 26 = .ok (.iadd, 1) := by decide +kernel
theorem dX8_on_27 : decode cX8_on 27 = .ok (.iaload, 1) := by decide +kernel
theorem dX8_on_28 : decode cX8_on 28 = .ok (.ifCond .ge 9, 3) := by decide +kernel
theorem dX8_on_31 : decode cX8_on 31 = .ok (.aload_n 0, 1) := by decide +kernel
theorem dX8_on_32 : decode cX8_on 32 = .ok (.iconst 1, 1) := by decide +kernel
theorem dX8_on_33 : decode cX8_on 33 = .ok (.invokevirtual 91, 3) := by decide +kernel
theorem dX8_on_36 : decode cX8_on 36 = .ok (.ireturn, 1) := by decide +kernel
theorem dX8_on_37 : decode cX8_on 37 = .ok (.aload_n 0, 1) := by decide +kernel
theorem dX8_on_38 : decode cX8_on 38 = .ok (.sipush 411, 3) := by decide +kernel
theorem dX8_on_41 : decode cX8_on 41 = .ok (.iconst 1, 1) := by decide +kernel
theorem dX8_on_42 : decode cX8_on 42 = .ok (.iload_n 1, 1) := by decide +kernel
theorem dX8_on_43 : decode cX8_on 43 = .ok (.iadd, 1) := by decide +kernel
theorem dX8_on_44 : decode cX8_on 44 = .ok (.imul, 1) := by decide +kernel
theorem dX8_on_45 : decode cX8_on 45 = .ok (.iconst 0, 1) := by decide +kernel
theorem dX8_on_46 : decode cX8_on 46 = .ok (.invokevirtual 222, 3) := by decide +kernel
theorem dX8_on_49 : decode cX8_on 49 = .ok (.aload_n 0, 1) := by decide +kernel
theorem dX8_on_50 : decode cX8_on 50 = .ok (.getfield 7, 3) := by decide +kernel
theorem dX8_on_53 : decode cX8_on 53 = .ok (.iconst 0, 1) := by decide +kernel
theorem dX8_on_54 : decode cX8_on 54 = .ok (.iaload, 1) := by decide +kernel
theorem dX8_on_55 : decode cX8_on 55 = .ok (.ireturn, 1) := by decide +kernel
set_option maxRecDepth 20000 in
theorem ggX8_bearsIt_X8_nearOf : GoodIn wsX8_bearsIt wsX8_nearOf := goodIn_r _ [7, 8, 9, 1, 10, 11, 6, 12, 13, 14, 15, 16, 17, 18, 19, 20, 21, 22, 23, 24, 25, 26, 27, 28, 29, 30, 31, 32, 33, 34, 35, 36, 37, 38, 39, 40, 41, 42, 43, 44, 45, 46, 47, 48, 49, 50, 51] (by decide +kernel) (by decide +kernel)
set_option maxRecDepth 20000 in
theorem gX8_bearsIt_X8_nearOf : GoodIn wsX8_bearsIt (wsV RX8 183 RX8 yX8_nearOf wsX8_nearOf) := goodIn_app (goodIn_of _ (by decide +kernel)) ggX8_bearsIt_X8_nearOf
theorem dX8_bearsIt_0 : decode cX8_bearsIt 0 = .ok (.aload_n 0, 1) := by decide +kernel
theorem dX8_bearsIt_1 : decode cX8_bearsIt 1 = .ok (.getfield 7, 3) := by decide +kernel
theorem dX8_bearsIt_4 : decode cX8_bearsIt 4 = .ok (.iconst 2, 1) := by decide +kernel
theorem dX8_bearsIt_5 : decode cX8_bearsIt 5 = .ok (.iaload, 1) := by decide +kernel
theorem dX8_bearsIt_6 : decode cX8_bearsIt 6 = .ok (.aload_n 0, 1) := by decide +kernel
theorem dX8_bearsIt_7 : decode cX8_bearsIt 7 = .ok (.iconst 0, 1) := by decide +kernel
theorem dX8_bearsIt_8 : decode cX8_bearsIt 8 = .ok (.iload_n 2, 1) := by decide +kernel
theorem dX8_bearsIt_9 : decode cX8_bearsIt 9 = .ok (.invokevirtual 183, 3) := by decide +kernel
theorem dX8_bearsIt_12 : decode cX8_bearsIt 12 = .ok (.iadd, 1) := by decide +kernel
theorem dX8_bearsIt_13 : decode cX8_bearsIt 13 = .ok (.aload_n 0, 1) := by decide +kernel
theorem dX8_bearsIt_14 : decode cX8_bearsIt 14 = .ok (.getfield 13, 3) := by decide +kernel
theorem dX8_bearsIt_17 : decode cX8_bearsIt 17 = .ok (.iload_n 1, 1) := by decide +kernel
theorem dX8_bearsIt_18 : decode cX8_bearsIt 18 = .ok (.iaload, 1) := by decide +kernel
theorem dX8_bearsIt_19 : decode cX8_bearsIt 19 = .ok (.if_icmp .gt 7, 3) := by decide +kernel
theorem dX8_bearsIt_22 : decode cX8_bearsIt 22 = .ok (.iconst 1, 1) := by decide +kernel
theorem dX8_bearsIt_23 : decode cX8_bearsIt 23 = .ok (.goto 4, 3) := by decide +kernel
theorem dX8_bearsIt_26 : decode cX8_bearsIt 26 = .ok (.iconst 0, 1) := by decide +kernel
theorem dX8_bearsIt_27 : decode cX8_bearsIt 27 = .ok (.ireturn, 1) := by decide +kernel
set_option maxRecDepth 20000 in
theorem ggX8_can_X8_isOne : GoodIn wsX8_can wsX8_isOne := goodIn_r _ [6, 7, 8, 9, 5, 10, 36, 37, 38, 39, 40, 41, 42, 43, 44, 45, 46, 47, 48, 49, 50, 51, 52, 53, 54, 55, 56, 57, 58, 59, 60, 61, 62, 63, 64, 65, 66, 67, 68] (by decide +kernel) (by decide +kernel)
set_option maxRecDepth 20000 in
theorem gX8_can_X8_isOne : GoodIn wsX8_can (wsV RX8 200 RX8 yX8_isOne wsX8_isOne) := goodIn_app (goodIn_of _ (by decide +kernel)) ggX8_can_X8_isOne
set_option maxRecDepth 20000 in
theorem ggX8_can_X8_isOver : GoodIn wsX8_can wsX8_isOver := goodIn_r _ [14, 15, 36, 37, 38, 39, 40, 41, 42, 43, 44, 45, 46, 47, 48, 49, 50, 51, 52, 53, 54, 55, 56, 57, 58, 59, 60, 61, 62, 63, 64, 65, 66, 67, 68] (by decide +kernel) (by decide +kernel)
set_option maxRecDepth 20000 in
theorem gX8_can_X8_isOver : GoodIn wsX8_can (wsV RX8 203 RX8 yX8_isOver wsX8_isOver) := goodIn_app (goodIn_of _ (by decide +kernel)) ggX8_can_X8_isOver
set_option maxRecDepth 20000 in
theorem ggX8_can_X8_bearsIt : GoodIn wsX8_can wsX8_bearsIt := goodIn_r _ [19, 15, 20, 21, 22, 23, 5, 24, 25, 26, 27, 28, 29, 30, 31, 32, 33, 34, 35, 36, 37, 38, 39, 40, 41, 42, 43, 44, 45, 46, 47, 48, 49, 50, 51, 52, 53, 54, 55, 56, 57, 58, 59, 60, 61, 62, 63, 64, 65, 66, 67, 68] (by decide +kernel) (by decide +kernel)
set_option maxRecDepth 20000 in
theorem gX8_can_X8_bearsIt : GoodIn wsX8_can (wsV RX8 225 RX8 yX8_bearsIt wsX8_bearsIt) := goodIn_app (goodIn_of _ (by decide +kernel)) ggX8_can_X8_bearsIt
theorem dX8_can_0 : decode cX8_can 0 = .ok (.aload_n 0, 1) := by decide +kernel
theorem dX8_can_1 : decode cX8_can 1 = .ok (.iload_n 1, 1) := by decide +kernel
theorem dX8_can_2 : decode cX8_can 2 = .ok (.invokevirtual 200, 3) := by decide +kernel
theorem dX8_can_5 : decode cX8_can 5 = .ok (.ifCond .ne 5, 3) := by decide +kernel
theorem dX8_can_8 : decode cX8_can 8 = .ok (.iconst (-1), 1) := by decide +kernel
theorem dX8_can_9 : decode cX8_can 9 = .ok (.ireturn, 1) := by decide +kernel
theorem dX8_can_10 : decode cX8_can 10 = .ok (.iconst 0, 1) := by decide +kernel
theorem dX8_can_11 : decode cX8_can 11 = .ok (.istore_n 2, 1) := by decide +kernel
theorem dX8_can_12 : decode cX8_can 12 = .ok (.iconst 0, 1) := by decide +kernel
theorem dX8_can_13 : decode cX8_can 13 = .ok (.istore_n 3, 1) := by decide +kernel
theorem dX8_can_14 : decode cX8_can 14 = .ok (.iload_n 3, 1) := by decide +kernel
theorem dX8_can_15 : decode cX8_can 15 = .ok (.aload_n 0, 1) := by decide +kernel
theorem dX8_can_16 : decode cX8_can 16 = .ok (.getfield 167, 3) := by decide +kernel
theorem dX8_can_19 : decode cX8_can 19 = .ok (.if_icmp .ge 35, 3) := by decide +kernel
theorem dX8_can_22 : decode cX8_can 22 = .ok (.iload_n 2, 1) := by decide +kernel
theorem dX8_can_23 : decode cX8_can 23 = .ok (.aload_n 0, 1) := by decide +kernel
theorem dX8_can_24 : decode cX8_can 24 = .ok (.invokevirtual 203, 3) := by decide +kernel
theorem dX8_can_27 : decode cX8_can 27 = .ok (.ifCond .ne 18, 3) := by decide +kernel
theorem dX8_can_30 : decode cX8_can 30 = .ok (.aload_n 0, 1) := by decide +kernel
theorem dX8_can_31 : decode cX8_can 31 = .ok (.iload_n 1, 1) := by decide +kernel
theorem dX8_can_32 : decode cX8_can 32 = .ok (.iload_n 3, 1) := by decide +kernel
theorem dX8_can_33 : decode cX8_can 33 = .ok (.invokevirtual 225, 3) := by decide +kernel
theorem dX8_can_36 : decode cX8_can 36 = .ok (.ifCond .eq 9, 3) := by decide +kernel
theorem dX8_can_39 : decode cX8_can 39 = .ok (.iconst 1, 1) := by decide +kernel
theorem dX8_can_40 : decode cX8_can 40 = .ok (.iload_n 3, 1) := by decide +kernel
theorem dX8_can_41 : decode cX8_can 41 = .ok (.ishl, 1) := by decide +kernel
theorem dX8_can_42 : decode cX8_can 42 = .ok (.goto 4, 3) := by decide +kernel
theorem dX8_can_45 : decode cX8_can 45 = .ok (.iconst 0, 1) := by decide +kernel
theorem dX8_can_46 : decode cX8_can 46 = .ok (.ior, 1) := by decide +kernel
theorem dX8_can_47 : decode cX8_can 47 = .ok (.istore_n 2, 1) := by decide +kernel
theorem dX8_can_48 : decode cX8_can 48 = .ok (.iinc 3 1, 3) := by decide +kernel
theorem dX8_can_51 : decode cX8_can 51 = .ok (.goto (-37), 3) := by decide +kernel
theorem dX8_can_54 : decode cX8_can 54 = .ok (.iload_n 2, 1) := by decide +kernel
theorem dX8_can_55 : decode cX8_can 55 = .ok (.ireturn, 1) := by decide +kernel
set_option maxRecDepth 20000 in
theorem ggX8_overOf_X8_isOver : GoodIn wsX8_overOf wsX8_isOver := goodIn_r _ [6, 7, 28, 29, 30, 31, 32, 33, 34, 35, 36, 37, 38, 39, 40, 41, 42, 43, 44, 45, 46, 47, 48, 49, 50, 51, 52, 53, 54, 55, 56, 57, 58, 59, 60] (by decide +kernel) (by decide +kernel)
set_option maxRecDepth 20000 in
theorem gX8_overOf_X8_isOver : GoodIn wsX8_overOf (wsV RX8 203 RX8 yX8_isOver wsX8_isOver) := goodIn_app (goodIn_of _ (by decide +kernel)) ggX8_overOf_X8_isOver
set_option maxRecDepth 20000 in
theorem ggX8_overOf_X8_bearsIt : GoodIn wsX8_overOf wsX8_bearsIt := goodIn_r _ [11, 7, 12, 13, 14, 15, 5, 16, 17, 18, 19, 20, 21, 22, 23, 24, 25, 26, 27, 28, 29, 30, 31, 32, 33, 34, 35, 36, 37, 38, 39, 40, 41, 42, 43, 44, 45, 46, 47, 48, 49, 50, 51, 52, 53, 54, 55, 56, 57, 58, 59, 60] (by decide +kernel) (by decide +kernel)
set_option maxRecDepth 20000 in
theorem gX8_overOf_X8_bearsIt : GoodIn wsX8_overOf (wsV RX8 225 RX8 yX8_bearsIt wsX8_bearsIt) := goodIn_app (goodIn_of _ (by decide +kernel)) ggX8_overOf_X8_bearsIt
theorem dX8_overOf_0 : decode cX8_overOf 0 = .ok (.iconst 0, 1) := by decide +kernel
theorem dX8_overOf_1 : decode cX8_overOf 1 = .ok (.istore_n 2, 1) := by decide +kernel
theorem dX8_overOf_2 : decode cX8_overOf 2 = .ok (.iconst 0, 1) := by decide +kernel
theorem dX8_overOf_3 : decode cX8_overOf 3 = .ok (.istore_n 3, 1) := by decide +kernel
theorem dX8_overOf_4 : decode cX8_overOf 4 = .ok (.iload_n 3, 1) := by decide +kernel
theorem dX8_overOf_5 : decode cX8_overOf 5 = .ok (.aload_n 0, 1) := by decide +kernel
theorem dX8_overOf_6 : decode cX8_overOf 6 = .ok (.getfield 164, 3) := by decide +kernel
theorem dX8_overOf_9 : decode cX8_overOf 9 = .ok (.if_icmp .ge 35, 3) := by decide +kernel
theorem dX8_overOf_12 : decode cX8_overOf 12 = .ok (.iload_n 2, 1) := by decide +kernel
theorem dX8_overOf_13 : decode cX8_overOf 13 = .ok (.aload_n 0, 1) := by decide +kernel
theorem dX8_overOf_14 : decode cX8_overOf 14 = .ok (.invokevirtual 203, 3) := by decide +kernel
theorem dX8_overOf_17 : decode cX8_overOf 17 = .ok (.ifCond .ne 12, 3) := by decide +kernel
theorem dX8_overOf_20 : decode cX8_overOf 20 = .ok (.aload_n 0, 1) := by decide +kernel
theorem dX8_overOf_21 : decode cX8_overOf 21 = .ok (.iload_n 3, 1) := by decide +kernel
theorem dX8_overOf_22 : decode cX8_overOf 22 = .ok (.iload_n 1, 1) := by decide +kernel
theorem dX8_overOf_23 : decode cX8_overOf 23 = .ok (.invokevirtual 225, 3) := by decide +kernel
theorem dX8_overOf_26 : decode cX8_overOf 26 = .ok (.ifCond .eq 7, 3) := by decide +kernel
theorem dX8_overOf_29 : decode cX8_overOf 29 = .ok (.iconst 0, 1) := by decide +kernel
theorem dX8_overOf_30 : decode cX8_overOf 30 = .ok (.goto 6, 3) := by decide +kernel
theorem dX8_overOf_33 : decode cX8_overOf 33 = .ok (.iconst 1, 1) := by decide +kernel
theorem dX8_overOf_34 : decode cX8_overOf 34 = .ok (.iload_n 3, 1) := by decide +kernel
theorem dX8_overOf_35 : decode cX8_overOf 35 = .ok (.ishl, 1) := by decide +kernel
theorem dX8_overOf_36 : decode cX8_overOf 36 = .ok (.ior, 1) := by decide +kernel
theorem dX8_overOf_37 : decode cX8_overOf 37 = .ok (.istore_n 2, 1) := by decide +kernel
theorem dX8_overOf_38 : decode cX8_overOf 38 = .ok (.iinc 3 1, 3) := by decide +kernel
theorem dX8_overOf_41 : decode cX8_overOf 41 = .ok (.goto (-37), 3) := by decide +kernel
theorem dX8_overOf_44 : decode cX8_overOf 44 = .ok (.iload_n 2, 1) := by decide +kernel
theorem dX8_overOf_45 : decode cX8_overOf 45 = .ok (.ireturn, 1) := by decide +kernel
set_option maxRecDepth 20000 in
theorem ggX8_over_X8_isSaying : GoodIn wsX8_over wsX8_isSaying := goodIn_r _ [5, 6, 7, 8, 4, 9, 40, 41, 42, 43, 44, 45, 46, 47, 48, 49, 50, 51, 52, 53, 54, 55, 56, 57, 58, 59, 60, 61, 62, 63, 64, 65, 66, 67, 68, 69, 70, 71, 72] (by decide +kernel) (by decide +kernel)
set_option maxRecDepth 20000 in
theorem gX8_over_X8_isSaying : GoodIn wsX8_over (wsV RX8 186 RX8 yX8_isSaying wsX8_isSaying) := goodIn_app (goodIn_of _ (by decide +kernel)) ggX8_over_X8_isSaying
set_option maxRecDepth 20000 in
theorem ggX8_over_X8_overOf : GoodIn wsX8_over wsX8_overOf := goodIn_r _ [13, 14, 15, 16, 17, 4, 18, 19, 20, 21, 22, 23, 24, 25, 26, 27, 28, 29, 30, 31, 32, 33, 34, 35, 36, 37, 38, 39, 40, 41, 42, 43, 44, 45, 46, 47, 48, 49, 50, 51, 52, 53, 54, 55, 56, 57, 58, 59, 60, 61, 62, 63, 64, 65, 66, 67, 68, 69, 70, 71, 72] (by decide +kernel) (by decide +kernel)
set_option maxRecDepth 20000 in
theorem gX8_over_X8_overOf : GoodIn wsX8_over (wsV RX8 197 RX8 yX8_overOf wsX8_overOf) := goodIn_app (goodIn_of _ (by decide +kernel)) ggX8_over_X8_overOf
theorem dX8_over_0 : decode cX8_over 0 = .ok (.aload_n 0, 1) := by decide +kernel
theorem dX8_over_1 : decode cX8_over 1 = .ok (.iload_n 1, 1) := by decide +kernel
theorem dX8_over_2 : decode cX8_over 2 = .ok (.invokevirtual 186, 3) := by decide +kernel
theorem dX8_over_5 : decode cX8_over 5 = .ok (.ifCond .eq 11, 3) := by decide +kernel
theorem dX8_over_8 : decode cX8_over 8 = .ok (.aload_n 0, 1) := by decide +kernel
theorem dX8_over_9 : decode cX8_over 9 = .ok (.iload_n 1, 1) := by decide +kernel
theorem dX8_over_10 : decode cX8_over 10 = .ok (.invokevirtual 197, 3) := by decide +kernel
theorem dX8_over_13 : decode cX8_over 13 = .ok (.goto 4, 3) := by decide +kernel
theorem dX8_over_16 : decode cX8_over 16 = .ok (.iconst (-1), 1) := by decide +kernel
theorem dX8_over_17 : decode cX8_over 17 = .ok (.ireturn, 1) := by decide +kernel
theorem dX8_layTried_0 : decode cX8_layTried 0 = .ok (.iconst 0, 1) := by decide +kernel
theorem dX8_layTried_1 : decode cX8_layTried 1 = .ok (.istore_n 1, 1) := by decide +kernel
theorem dX8_layTried_2 : decode cX8_layTried 2 = .ok (.iload_n 1, 1) := by decide +kernel
theorem dX8_layTried_3 : decode cX8_layTried 3 = .ok (.bipush 11, 2) := by decide +kernel
theorem dX8_layTried_5 : decode cX8_layTried 5 = .ok (.if_icmp .ge 25, 3) := by decide +kernel
theorem dX8_layTried_8 : decode cX8_layTried 8 = .ok (.aload_n 0, 1) := by decide +kernel
theorem dX8_layTried_9 : decode cX8_layTried 9 = .ok (.getfield 7, 3) := by decide +kernel
theorem dX8_layTried_12 : decode cX8_layTried 12 = .ok (.sipush 1644, 3) := by decide +kernel
