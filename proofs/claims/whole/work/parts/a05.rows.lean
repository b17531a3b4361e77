theorem dX6_attemptFrom_105 : decode cX6_attemptFrom 105 = .ok (.iload_n 3, 1) := by decide +kernel
theorem dX6_attemptFrom_106 : decode cX6_attemptFrom 106 = .ok (.iload 7, 2) := by decide +kernel
theorem dX6_attemptFrom_108 : decode cX6_attemptFrom 108 = .ok (.iastore, 1) := by decide +kernel
theorem dX6_attemptFrom_109 : decode cX6_attemptFrom 109 = .ok (.aload_n 1, 1) := by decide +kernel
theorem dX6_attemptFrom_110 : decode cX6_attemptFrom 110 = .ok (.iload_n 2, 1) := by decide +kernel
theorem dX6_attemptFrom_111 : decode cX6_attemptFrom 111 = .ok (.iload 7, 2) := by decide +kernel
theorem dX6_attemptFrom_113 : decode cX6_attemptFrom 113 = .ok (.invokevirtual 52, 3) := by decide +kernel
theorem dX6_attemptFrom_116 : decode cX6_attemptFrom 116 = .ok (.aload_n 0, 1) := by decide +kernel
theorem dX6_attemptFrom_117 : decode cX6_attemptFrom 117 = .ok (.aload_n 1, 1) := by decide +kernel
theorem dX6_attemptFrom_118 : decode cX6_attemptFrom 118 = .ok (.iload 6, 2) := by decide +kernel
theorem dX6_attemptFrom_120 : decode cX6_attemptFrom 120 = .ok (.iload_n 3, 1) := by decide +kernel
theorem dX6_attemptFrom_121 : decode cX6_attemptFrom 121 = .ok (.iconst 1, 1) := by decide +kernel
theorem dX6_attemptFrom_122 : decode cX6_attemptFrom 122 = .ok (.iadd, 1) := by decide +kernel
theorem dX6_attemptFrom_123 : decode cX6_attemptFrom 123 = .ok (.iload 4, 2) := by decide +kernel
theorem dX6_attemptFrom_125 : decode cX6_attemptFrom 125 = .ok (.iload 5, 2) := by decide +kernel
theorem dX6_attemptFrom_127 : decode cX6_attemptFrom 127 = .ok (.invokevirtual 26, 3) := by decide +kernel
theorem dX6_attemptFrom_130 : decode cX6_attemptFrom 130 = .ok (.istore 10, 2) := by decide +kernel
theorem dX6_attemptFrom_132 : decode cX6_attemptFrom 132 = .ok (.aload_n 1, 1) := by decide +kernel
theorem dX6_attemptFrom_133 : decode cX6_attemptFrom 133 = .ok (.iload 7, 2) := by decide +kernel
theorem dX6_attemptFrom_135 : decode cX6_attemptFrom 135 = .ok (.iload 8, 2) := by decide +kernel
theorem dX6_attemptFrom_137 : decode cX6_attemptFrom 137 = .ok (.iload 9, 2) := by decide +kernel
theorem dX6_attemptFrom_139 : decode cX6_attemptFrom 139 = .ok (.invokevirtual 56, 3) := by decide +kernel
theorem dX6_attemptFrom_142 : decode cX6_attemptFrom 142 = .ok (.iload 10, 2) := by decide +kernel
theorem dX6_attemptFrom_144 : decode cX6_attemptFrom 144 = .ok (.ifCond .eq 5, 3) := by decide +kernel
theorem dX6_attemptFrom_147 : decode cX6_attemptFrom 147 = .ok (.iconst 1, 1) := by decide +kernel
theorem dX6_attemptFrom_148 : decode cX6_attemptFrom 148 = .ok (.ireturn, 1) := by decide +kernel
theorem dX6_attemptFrom_149 : decode cX6_attemptFrom 149 = .ok (.iinc 7 1, 3) := by decide +kernel
theorem dX6_attemptFrom_152 : decode cX6_attemptFrom 152 = .ok (.goto (-91), 3) := by decide +kernel
theorem dX6_attemptFrom_155 : decode cX6_attemptFrom 155 = .ok (.iconst 0, 1) := by decide +kernel
theorem dX6_attemptFrom_156 : decode cX6_attemptFrom 156 = .ok (.ireturn, 1) := by decide +kernel
theorem dX6_noteEnd_0 : decode cX6_noteEnd 0 = .ok (.aload_n 0, 1) := by decide +kernel
theorem dX6_noteEnd_1 : decode cX6_noteEnd 1 = .ok (.dup, 1) := by decide +kernel
theorem dX6_noteEnd_2 : decode cX6_noteEnd 2 = .ok (.getfield 15, 3) := by decide +kernel
theorem dX6_noteEnd_5 : decode cX6_noteEnd 5 = .ok (.lconst 1, 1) := by decide +kernel
theorem dX6_noteEnd_6 : decode cX6_noteEnd 6 = .ok (.ladd, 1) := by decide +kernel
theorem dX6_noteEnd_7 : decode cX6_noteEnd 7 = .ok (.putfield 15, 3) := by decide +kernel
theorem dX6_noteEnd_10 : decode cX6_noteEnd 10 = .ok (.aload_n 0, 1) := by decide +kernel
theorem dX6_noteEnd_11 : decode cX6_noteEnd 11 = .ok (.dup, 1) := by decide +kernel
theorem dX6_noteEnd_12 : decode cX6_noteEnd 12 = .ok (.getfield 19, 3) := by decide +kernel
theorem dX6_noteEnd_15 : decode cX6_noteEnd 15 = .ok (.aload_n 1, 1) := by decide +kernel
theorem dX6_noteEnd_16 : decode cX6_noteEnd 16 = .ok (.getfield 30, 3) := by decide +kernel
theorem dX6_noteEnd_19 : decode cX6_noteEnd 19 = .ok (.ior, 1) := by decide +kernel
theorem dX6_noteEnd_20 : decode cX6_noteEnd 20 = .ok (.putfield 19, 3) := by decide +kernel
theorem dX6_noteEnd_23 : decode cX6_noteEnd 23 = .ok (.aload_n 1, 1) := by decide +kernel
theorem dX6_noteEnd_24 : decode cX6_noteEnd 24 = .ok (.getfield 30, 3) := by decide +kernel
theorem dX6_noteEnd_27 : decode cX6_noteEnd 27 = .ok (.bipush 7, 2) := by decide +kernel
theorem dX6_noteEnd_29 : decode cX6_noteEnd 29 = .ok (.if_icmp .ne 31, 3) := by decide +kernel
theorem dX6_noteEnd_32 : decode cX6_noteEnd 32 = .ok (.aload_n 0, 1) := by decide +kernel
theorem dX6_noteEnd_33 : decode cX6_noteEnd 33 = .ok (.getfield 23, 3) := by decide +kernel
theorem dX6_noteEnd_36 : decode cX6_noteEnd 36 = .ok (.bipush (-9), 2) := by decide +kernel
theorem dX6_noteEnd_38 : decode cX6_noteEnd 38 = .ok (.if_icmp .eq 14, 3) := by decide +kernel
theorem dX6_noteEnd_41 : decode cX6_noteEnd 41 = .ok (.aload_n 1, 1) := by decide +kernel
theorem dX6_noteEnd_42 : decode cX6_noteEnd 42 = .ok (.getfield 49, 3) := by decide +kernel
theorem dX6_noteEnd_45 : decode cX6_noteEnd 45 = .ok (.aload_n 0, 1) := by decide +kernel
theorem dX6_noteEnd_46 : decode cX6_noteEnd 46 = .ok (.getfield 23, 3) := by decide +kernel
theorem dX6_noteEnd_49 : decode cX6_noteEnd 49 = .ok (.if_icmp .ge 11, 3) := by decide +kernel
theorem dX6_noteEnd_52 : decode cX6_noteEnd 52 = .ok (.aload_n 0, 1) := by decide +kernel
theorem dX6_noteEnd_53 : decode cX6_noteEnd 53 = .ok (.aload_n 1, 1) := by decide +kernel
theorem dX6_noteEnd_54 : decode cX6_noteEnd 54 = .ok (.getfield 49, 3) := by decide +kernel
theorem dX6_noteEnd_57 : decode cX6_noteEnd 57 = .ok (.putfield 23, 3) := by decide +kernel
theorem dX6_noteEnd_60 : decode cX6_noteEnd 60 = .ok (.iconst 0, 1) := by decide +kernel
theorem dX6_noteEnd_61 : decode cX6_noteEnd 61 = .ok (.ireturn, 1) := by decide +kernel
set_option maxRecDepth 20000 in
theorem ggX7_init_X5_init : GoodIn wsX7_init wsX5_init := goodIn_r _ [34, 35, 2, 3, 36, 26, 37, 38, 39, 40, 41, 42, 79, 80] (by decide +kernel) (by decide +kernel)
set_option maxRecDepth 20000 in
theorem gX7_init_X5_init : GoodIn wsX7_init (wsX5_init) := ggX7_init_X5_init
set_option maxRecDepth 20000 in
theorem ggX7_init_X2_init : GoodIn wsX7_init wsX2_init := goodIn_r _ [44, 45, 2, 3, 46, 26, 47, 48, 49, 50, 51, 52, 53, 54, 55, 56, 57, 58, 93, 94, 95, 96, 97, 98, 99, 100, 101, 102, 103, 104, 105] (by decide +kernel) (by decide +kernel)
set_option maxRecDepth 20000 in
theorem gX7_init_X2_init_n26 : GoodIn wsX7_init (wsX2_init) := ggX7_init_X2_init
set_option maxRecDepth 20000 in
theorem ggX7_init_X4_init : GoodIn wsX7_init wsX4_init := goodIn_r _ [60, 61, 2, 3, 62, 11, 12, 63, 26, 64, 65, 43, 44, 45, 46, 47, 48, 49, 50, 51, 52, 53, 54, 55, 56, 57, 58, 93, 94, 95, 96, 97, 98, 99, 100, 101, 102, 103, 104, 105, 106, 107, 108] (by decide +kernel) (by decide +kernel)
set_option maxRecDepth 20000 in
theorem gX7_init_X4_init_n33 : GoodIn wsX7_init (wsX4_init) := ggX7_init_X4_init
set_option maxRecDepth 20000 in
theorem ggX7_init_X6_init : GoodIn wsX7_init wsX6_init := goodIn_r _ [67, 68, 2, 3, 26, 69, 70, 71, 72, 109, 110, 111, 112] (by decide +kernel) (by decide +kernel)
set_option maxRecDepth 20000 in
theorem gX7_init_X6_init_n40 : GoodIn wsX7_init (wsX6_init) := ggX7_init_X6_init
set_option maxRecDepth 20000 in
theorem ggX7_init_X0_init : GoodIn wsX7_init wsX0_init := goodIn_r _ [74, 75, 2, 3, 76, 77, 78, 113, 114] (by decide +kernel) (by decide +kernel)
set_option maxRecDepth 20000 in
theorem gX7_init_X0_init_n47 : GoodIn wsX7_init (wsX0_init) := ggX7_init_X0_init
theorem dX7_init_0 : decode cX7_init 0 = .ok (.aload_n 0, 1) := by decide +kernel
theorem dX7_init_1 : decode cX7_init 1 = .ok (.invokespecial 1, 3) := by decide +kernel
theorem dX7_init_4 : decode cX7_init 4 = .ok (.aload_n 0, 1) := by decide +kernel
theorem dX7_init_5 : decode cX7_init 5 = .ok (.new 7, 3) := by decide +kernel
theorem dX7_init_8 : decode cX7_init 8 = .ok (.dup, 1) := by decide +kernel
theorem dX7_init_9 : decode cX7_init 9 = .ok (.bipush 6, 2) := by decide +kernel
theorem dX7_init_11 : decode cX7_init 11 = .ok (.bipush 40, 2) := by decide +kernel
theorem dX7_init_13 : decode cX7_init 13 = .ok (.invokespecial 11, 3) := by decide +kernel
theorem dX7_init_16 : decode cX7_init 16 = .ok (.putfield 14, 3) := by decide +kernel
theorem dX7_init_19 : decode cX7_init 19 = .ok (.aload_n 0, 1) := by decide +kernel
theorem dX7_init_20 : decode cX7_init 20 = .ok (.new 7, 3) := by decide +kernel
theorem dX7_init_23 : decode cX7_init 23 = .ok (.dup, 1) := by decide +kernel
theorem dX7_init_24 : decode cX7_init 24 = .ok (.iconst 4, 1) := by decide +kernel
theorem dX7_init_25 : decode cX7_init 25 = .ok (.bipush 60, 2) := by decide +kernel
theorem dX7_init_27 : decode cX7_init 27 = .ok (.invokespecial 11, 3) := by decide +kernel
theorem dX7_init_30 : decode cX7_init 30 = .ok (.putfield 18, 3) := by decide +kernel
theorem dX7_init_33 : decode cX7_init 33 = .ok (.aload_n 0, 1) := by decide +kernel
theorem dX7_init_34 : decode cX7_init 34 = .ok (.new 7, 3) := by decide +kernel
theorem dX7_init_37 : decode cX7_init 37 = .ok (.dup, 1) := by decide +kernel
theorem dX7_init_38 : decode cX7_init 38 = .ok (.iconst 3, 1) := by decide +kernel
theorem dX7_init_39 : decode cX7_init 39 = .ok (.bipush 40, 2) := by decide +kernel
theorem dX7_init_41 : decode cX7_init 41 = .ok (.invokespecial 11, 3) := by decide +kernel
theorem dX7_init_44 : decode cX7_init 44 = .ok (.putfield 21, 3) := by decide +kernel
theorem dX7_init_47 : decode cX7_init 47 = .ok (.aload_n 0, 1) := by decide +kernel
theorem dX7_init_48 : decode cX7_init 48 = .ok (.new 24, 3) := by decide +kernel
theorem dX7_init_51 : decode cX7_init 51 = .ok (.dup, 1) := by decide +kernel
theorem dX7_init_52 : decode cX7_init 52 = .ok (.invokespecial 26, 3) := by decide +kernel
theorem dX7_init_55 : decode cX7_init 55 = .ok (.putfield 27, 3) := by decide +kernel
theorem dX7_init_58 : decode cX7_init 58 = .ok (.aload_n 0, 1) := by decide +kernel
theorem dX7_init_59 : decode cX7_init 59 = .ok (.new 31, 3) := by decide +kernel
theorem dX7_init_62 : decode cX7_init 62 = .ok (.dup, 1) := by decide +kernel
theorem dX7_init_63 : decode cX7_init 63 = .ok (.invokespecial 33, 3) := by decide +kernel
theorem dX7_init_66 : decode cX7_init 66 = .ok (.putfield 34, 3) := by decide +kernel
theorem dX7_init_69 : decode cX7_init 69 = .ok (.aload_n 0, 1) := by decide +kernel
theorem dX7_init_70 : decode cX7_init 70 = .ok (.new 38, 3) := by decide +kernel
theorem dX7_init_73 : decode cX7_init 73 = .ok (.dup, 1) := by decide +kernel
theorem dX7_init_74 : decode cX7_init 74 = .ok (.invokespecial 40, 3) := by decide +kernel
theorem dX7_init_77 : decode cX7_init 77 = .ok (.putfield 41, 3) := by decide +kernel
theorem dX7_init_80 : decode cX7_init 80 = .ok (.aload_n 0, 1) := by decide +kernel
theorem dX7_init_81 : decode cX7_init 81 = .ok (.new 45, 3) := by decide +kernel
theorem dX7_init_84 : decode cX7_init 84 = .ok (.dup, 1) := by decide +kernel
theorem dX7_init_85 : decode cX7_init 85 = .ok (.invokespecial 47, 3) := by decide +kernel
theorem dX7_init_88 : decode cX7_init 88 = .ok (.putfield 48, 3) := by decide +kernel
theorem dX7_init_91 : decode cX7_init 91 = .ok (.aload_n 0, 1) := by decide +kernel
theorem dX7_init_92 : decode cX7_init 92 = .ok (.bipush 6, 2) := by decide +kernel
theorem dX7_init_94 : decode cX7_init 94 = .ok (.newarray .int, 2) := by decide +kernel
theorem dX7_init_96 : decode cX7_init 96 = .ok (.putfield 52, 3) := by decide +kernel
theorem dX7_init_99 : decode cX7_init 99 = .ok (.aload_n 0, 1) := by decide +kernel
theorem dX7_init_100 : decode cX7_init 100 = .ok (.iconst 0, 1) := by decide +kernel
theorem dX7_init_101 : decode cX7_init 101 = .ok (.putfield 56, 3) := by decide +kernel
theorem dX7_init_104 : decode cX7_init 104 = .ok (.aload_n 0, 1) := by decide +kernel
theorem dX7_init_105 : decode cX7_init 105 = .ok (.iconst 0, 1) := by decide +kernel
theorem dX7_init_106 : decode cX7_init 106 = .ok (.putfield 60, 3) := by decide +kernel
theorem dX7_init_109 : decode cX7_init 109 = .ok (.aload_n 0, 1) := by decide +kernel
theorem dX7_init_110 : decode cX7_init 110 = .ok (.lconst 0, 1) := by decide +kernel
theorem dX7_init_111 : decode cX7_init 111 = .ok (.putfield 63, 3) := by decide +kernel
theorem dX7_init_114 : decode cX7_init 114 = .ok (.aload_n 0, 1) := by decide +kernel
theorem dX7_init_115 : decode cX7_init 115 = .ok (.lconst 1, 1) := by decide +kernel
theorem dX7_init_116 : decode cX7_init 116 = .ok (.putfield 67, 3) := by decide +kernel
theorem dX7_init_119 : decode cX7_init 119 = .ok (.return_, 1) := by decide +kernel
set_option maxRecDepth 20000 in
theorem ggX7_row_X5_isNumber : GoodIn wsX7_row wsX5_isNumber := goodIn_r _ [6, 7, 37, 38] (by decide +kernel) (by decide +kernel)
set_option maxRecDepth 20000 in
theorem gX7_row_X5_isNumber : GoodIn wsX7_row (wsV RX7 70 RX5 yX5_isNumber wsX5_isNumber) := goodIn_app (goodIn_of _ (by decide +kernel)) ggX7_row_X5_isNumber
set_option maxRecDepth 20000 in
theorem ggX7_row_X7_refuse : GoodIn wsX7_row wsX7_refuse := goodIn_r _ [12, 13, 14, 25, 26, 27, 28, 29, 30, 31, 32, 33, 34, 35, 36] (by decide +kernel) (by decide +kernel)
set_option maxRecDepth 20000 in
theorem gX7_row_X7_refuse : GoodIn wsX7_row (wsV RX7 74 RX7 yX7_refuse wsX7_refuse) := goodIn_app (goodIn_of _ (by decide +kernel)) ggX7_row_X7_refuse
set_option maxRecDepth 20000 in
theorem ggX7_row_X5_make : GoodIn wsX7_row wsX5_make := goodIn_r _ [18, 19, 7, 20, 3, 4, 5, 6, 21, 22, 23, 24, 37, 38] (by decide +kernel) (by decide +kernel)
set_option maxRecDepth 20000 in
theorem gX7_row_X5_make : GoodIn wsX7_row (wsV RX7 78 RX5 yX5_make wsX5_make) := goodIn_app (goodIn_of _ (by decide +kernel)) ggX7_row_X5_make
theorem dX7_row_0 : decode cX7_row 0 = .ok (.aload_n 0, 1) := by decide +kernel
theorem dX7_row_1 : decode cX7_row 1 = .ok (.getfield 14, 3) := by decide +kernel
theorem dX7_row_4 : decode cX7_row 4 = .ok (.iload_n 1, 1) := by decide +kernel
theorem dX7_row_5 : decode cX7_row 5 = .ok (.invokevirtual 70, 3) := by decide +kernel
theorem dX7_row_8 : decode cX7_row 8 = .ok (.ifCond .eq 9, 3) := by decide +kernel
theorem dX7_row_11 : decode cX7_row 11 = .ok (.iload_n 2, 1) := by decide +kernel
theorem dX7_row_12 : decode cX7_row 12 = .ok (.bipush 40, 2) := by decide +kernel
theorem dX7_row_14 : decode cX7_row 14 = .ok (.if_icmp .le 5, 3) := by decide +kernel
theorem dX7_row_17 : decode cX7_row 17 = .ok (.iconst (-1), 1) := by decide +kernel
theorem dX7_row_18 : decode cX7_row 18 = .ok (.ireturn, 1) := by decide +kernel
theorem dX7_row_19 : decode cX7_row 19 = .ok (.iload_n 2, 1) := by decide +kernel
theorem dX7_row_20 : decode cX7_row 20 = .ok (.ifCond .ge 9, 3) := by decide +kernel
theorem dX7_row_23 : decode cX7_row 23 = .ok (.aload_n 0, 1) := by decide +kernel
theorem dX7_row_24 : decode cX7_row 24 = .ok (.iconst 5, 1) := by decide +kernel
theorem dX7_row_25 : decode cX7_row 25 = .ok (.invokevirtual 74, 3) := by decide +kernel
theorem dX7_row_28 : decode cX7_row 28 = .ok (.ireturn, 1) := by decide +kernel
theorem dX7_row_29 : decode cX7_row 29 = .ok (.aload_n 0, 1) := by decide +kernel
theorem dX7_row_30 : decode cX7_row 30 = .ok (.getfield 14, 3) := by decide +kernel
theorem dX7_row_33 : decode cX7_row 33 = .ok (.iload_n 1, 1) := by decide +kernel
theorem dX7_row_34 : decode cX7_row 34 = .ok (.iload_n 2, 1) := by decide +kernel
theorem dX7_row_35 : decode cX7_row 35 = .ok (.iconst 0, 1) := by decide +kernel
theorem dX7_row_36 : decode cX7_row 36 = .ok (.invokevirtual 78, 3) := by decide +kernel
theorem dX7_row_39 : decode cX7_row 39 = .ok (.iload_n 2, 1) := by decide +kernel
theorem dX7_row_40 : decode cX7_row 40 = .ok (.ireturn, 1) := by decide +kernel
set_option maxRecDepth 20000 in
theorem ggX7_lay_X7_refusalOfPlace : GoodIn wsX7_lay wsX7_refusalOfPlace := goodIn_r _ [8, 9, 10, 11, 7, 12, 13, 14, 15, 16, 17, 18, 19, 20, 21, 22, 23, 24, 25, 26, 27, 28, 29, 30, 31, 32, 33, 34, 47, 48, 35, 36, 37, 38, 39, 40, 41, 42, 43, 44, 45, 46] (by decide +kernel) (by decide +kernel)
set_option maxRecDepth 20000 in
theorem gX7_lay_X7_refusalOfPlace : GoodIn wsX7_lay (wsV RX7 82 RX7 yX7_refusalOfPlace wsX7_refusalOfPlace) := goodIn_app (goodIn_of _ (by decide +kernel)) ggX7_lay_X7_refusalOfPlace
theorem dX7_lay_0 : decode cX7_lay 0 = .ok (.aload_n 0, 1) := by decide +kernel
theorem dX7_lay_1 : decode cX7_lay 1 = .ok (.aload_n 0, 1) := by decide +kernel
theorem dX7_lay_2 : decode cX7_lay 2 = .ok (.getfield 14, 3) := by decide +kernel
theorem dX7_lay_5 : decode cX7_lay 5 = .ok (.iload_n 1, 1) := by decide +kernel
theorem dX7_lay_6 : decode cX7_lay 6 = .ok (.iload_n 2, 1) := by decide +kernel
theorem dX7_lay_7 : decode cX7_lay 7 = .ok (.invokevirtual 82, 3) := by decide +kernel
theorem dX7_lay_10 : decode cX7_lay 10 = .ok (.istore 4, 2) := by decide +kernel
theorem dX7_lay_12 : decode cX7_lay 12 = .ok (.iload 4, 2) := by decide +kernel
theorem dX7_lay_14 : decode cX7_lay 14 = .ok (.ifCond .eq 6, 3) := by decide +kernel
theorem dX7_lay_17 : decode cX7_lay 17 = .ok (.iload 4, 2) := by decide +kernel
theorem dX7_lay_19 : decode cX7_lay 19 = .ok (.ireturn, 1) := by decide +kernel
theorem dX7_lay_20 : decode cX7_lay 20 = .ok (.aload_n 0, 1) := by decide +kernel
theorem dX7_lay_21 : decode cX7_lay 21 = .ok (.aload_n 0, 1) := by decide +kernel
theorem dX7_lay_22 : decode cX7_lay 22 = .ok (.getfield 14, 3) := by decide +kernel
theorem dX7_lay_25 : decode cX7_lay 25 = .ok (.getfield 86, 3) := by decide +kernel
theorem dX7_lay_28 : decode cX7_lay 28 = .ok (.iload_n 1, 1) := by decide +kernel
theorem dX7_lay_29 : decode cX7_lay 29 = .ok (.aaload, 1) := by decide +kernel
theorem dX7_lay_30 : decode cX7_lay 30 = .ok (.iload_n 2, 1) := by decide +kernel
theorem dX7_lay_31 : decode cX7_lay 31 = .ok (.iaload, 1) := by decide +kernel
theorem dX7_lay_32 : decode cX7_lay 32 = .ok (.putfield 60, 3) := by decide +kernel
theorem dX7_lay_35 : decode cX7_lay 35 = .ok (.aload_n 0, 1) := by decide +kernel
theorem dX7_lay_36 : decode cX7_lay 36 = .ok (.getfield 14, 3) := by decide +kernel
theorem dX7_lay_39 : decode cX7_lay 39 = .ok (.getfield 86, 3) := by decide +kernel
theorem dX7_lay_42 : decode cX7_lay 42 = .ok (.iload_n 1, 1) := by decide +kernel
theorem dX7_lay_43 : decode cX7_lay 43 = .ok (.aaload, 1) := by decide +kernel
theorem dX7_lay_44 : decode cX7_lay 44 = .ok (.iload_n 2, 1) := by decide +kernel
theorem dX7_lay_45 : decode cX7_lay 45 = .ok (.iload_n 3, 1) := by decide +kernel
theorem dX7_lay_46 : decode cX7_lay 46 = .ok (.iastore, 1) := by decide +kernel
theorem dX7_lay_47 : decode cX7_lay 47 = .ok (.iconst 1, 1) := by decide +kernel
theorem dX7_lay_48 : decode cX7_lay 48 = .ok (.ireturn, 1) := by decide +kernel
set_option maxRecDepth 20000 in
theorem ggX7_at_X7_refusalOfPlace : GoodIn wsX7_at wsX7_refusalOfPlace := goodIn_r _ [8, 9, 10, 11, 7, 12, 13, 14, 15, 16, 17, 18, 19, 20, 21, 22, 23, 24, 25, 26, 27, 28, 29, 30, 31, 32, 33, 34, 47, 48, 35, 36, 37, 38, 39, 40, 41, 42, 43, 44, 45, 46] (by decide +kernel) (by decide +kernel)
set_option maxRecDepth 20000 in
theorem gX7_at_X7_refusalOfPlace : GoodIn wsX7_at (wsV RX7 82 RX7 yX7_refusalOfPlace wsX7_refusalOfPlace) := goodIn_app (goodIn_of _ (by decide +kernel)) ggX7_at_X7_refusalOfPlace
theorem dX7_at_0 : decode cX7_at 0 = .ok (.aload_n 0, 1) := by decide +kernel
theorem dX7_at_1 : decode cX7_at 1 = .ok (.aload_n 0, 1) := by decide +kernel
theorem dX7_at_2 : decode cX7_at 2 = .ok (.getfield 14, 3) := by decide +kernel
theorem dX7_at_5 : decode cX7_at 5 = .ok (.iload_n 1, 1) := by decide +kernel
theorem dX7_at_6 : decode cX7_at 6 = .ok (.iload_n 2, 1) := by decide +kernel
theorem dX7_at_7 : decode cX7_at 7 = .ok (.invokevirtual 82, 3) := by decide +kernel
theorem dX7_at_10 : decode cX7_at 10 = .ok (.istore_n 3, 1) := by decide +kernel
theorem dX7_at_11 : decode cX7_at 11 = .ok (.iload_n 3, 1) := by decide +kernel
theorem dX7_at_12 : decode cX7_at 12 = .ok (.ifCond .eq 5, 3) := by decide +kernel
theorem dX7_at_15 : decode cX7_at 15 = .ok (.iload_n 3, 1) := by decide +kernel
theorem dX7_at_16 : decode cX7_at 16 = .ok (.ireturn, 1) := by decide +kernel
theorem dX7_at_17 : decode cX7_at 17 = .ok (.aload_n 0, 1) := by decide +kernel
theorem dX7_at_18 : decode cX7_at 18 = .ok (.aload_n 0, 1) := by decide +kernel
theorem dX7_at_19 : decode cX7_at 19 = .ok (.getfield 14, 3) := by decide +kernel
theorem dX7_at_22 : decode cX7_at 22 = .ok (.getfield 86, 3) := by decide +kernel
theorem dX7_at_25 : decode cX7_at 25 = .ok (.iload_n 1, 1) := by decide +kernel
theorem dX7_at_26 : decode cX7_at 26 = .ok (.aaload, 1) := by decide +kernel
theorem dX7_at_27 : decode cX7_at 27 = .ok (.iload_n 2, 1) := by decide +kernel
theorem dX7_at_28 : decode cX7_at 28 = .ok (.iaload, 1) := by decide +kernel
theorem dX7_at_29 : decode cX7_at 29 = .ok (.putfield 60, 3) := by decide +kernel
theorem dX7_at_32 : decode cX7_at 32 = .ok (.iconst 1, 1) := by decide +kernel
theorem dX7_at_33 : decode cX7_at 33 = .ok (.ireturn, 1) := by decide +kernel
set_option maxRecDepth 20000 in
theorem ggX7_tear_X7_refusalOfRow : GoodIn wsX7_tear wsX7_refusalOfRow := goodIn_r _ [7, 8, 9, 10, 11, 12, 13, 14, 15, 16, 17, 18, 19, 20, 21, 6, 22, 23, 24, 37, 38, 25, 26, 27, 28, 29, 30, 31, 32, 33, 34, 35, 36] (by decide +kernel) (by decide +kernel)
set_option maxRecDepth 20000 in
theorem gX7_tear_X7_refusalOfRow : GoodIn wsX7_tear (wsV RX7 90 RX7 yX7_refusalOfRow wsX7_refusalOfRow) := goodIn_app (goodIn_of _ (by decide +kernel)) ggX7_tear_X7_refusalOfRow
theorem dX7_tear_0 : decode cX7_tear 0 = .ok (.aload_n 0, 1) := by decide +kernel
theorem dX7_tear_1 : decode cX7_tear 1 = .ok (.aload_n 0, 1) := by decide +kernel
theorem dX7_tear_2 : decode cX7_tear 2 = .ok (.getfield 14, 3) := by decide +kernel
theorem dX7_tear_5 : decode cX7_tear 5 = .ok (.iload_n 1, 1) := by decide +kernel
theorem dX7_tear_6 : decode cX7_tear 6 = .ok (.invokevirtual 90, 3) := by decide +kernel
theorem dX7_tear_9 : decode cX7_tear 9 = .ok (.istore_n 2, 1) := by decide +kernel
theorem dX7_tear_10 : decode cX7_tear 10 = .ok (.iload_n 2, 1) := by decide +kernel
theorem dX7_tear_11 : decode cX7_tear 11 = .ok (.ifCond .eq 5, 3) := by decide +kernel
theorem dX7_tear_14 : decode cX7_tear 14 = .ok (.iload_n 2, 1) := by decide +kernel
theorem dX7_tear_15 : decode cX7_tear 15 = .ok (.ireturn, 1) := by decide +kernel
theorem dX7_tear_16 : decode cX7_tear 16 = .ok (.aload_n 0, 1) := by decide +kernel
theorem dX7_tear_17 : decode cX7_tear 17 = .ok (.getfield 14, 3) := by decide +kernel
theorem dX7_tear_20 : decode cX7_tear 20 = .ok (.getfield 94, 3) := by decide +kernel
theorem dX7_tear_23 : decode cX7_tear 23 = .ok (.iload_n 1, 1) := by decide +kernel
theorem dX7_tear_24 : decode cX7_tear 24 = .ok (.iconst (-1), 1) := by decide +kernel
theorem dX7_tear_25 : decode cX7_tear 25 = .ok (.iastore, 1) := by decide +kernel
theorem dX7_tear_26 : decode cX7_tear 26 = .ok (.iconst 1, 1) := by decide +kernel
theorem dX7_tear_27 : decode cX7_tear 27 = .ok (.ireturn, 1) := by decide +kernel
set_option maxRecDepth 20000 in
theorem ggX7_copy_X5_isNumber : GoodIn wsX7_copy wsX5_isNumber := goodIn_r _ [11, 12, 42, 43] (by decide +kernel) (by decide +kernel)
set_option maxRecDepth 20000 in
theorem gX7_copy_X5_isNumber : GoodIn wsX7_copy (wsV RX7 70 RX5 yX5_isNumber wsX5_isNumber) := goodIn_app (goodIn_of _ (by decide +kernel)) ggX7_copy_X5_isNumber
set_option maxRecDepth 20000 in
theorem ggX7_copy_X7_refuse : GoodIn wsX7_copy wsX7_refuse := goodIn_r _ [17, 18, 19, 30, 31, 32, 33, 34, 35, 36, 37, 38, 39, 40, 41] (by decide +kernel) (by decide +kernel)
set_option maxRecDepth 20000 in
theorem gX7_copy_X7_refuse : GoodIn wsX7_copy (wsV RX7 74 RX7 yX7_refuse wsX7_refuse) := goodIn_app (goodIn_of _ (by decide +kernel)) ggX7_copy_X7_refuse
set_option maxRecDepth 20000 in
theorem ggX7_copy_X5_isThere : GoodIn wsX7_copy wsX5_isThere := goodIn_r _ [23, 12, 24, 8, 9, 10, 11, 42, 43] (by decide +kernel) (by decide +kernel)
set_option maxRecDepth 20000 in
theorem gX7_copy_X5_isThere : GoodIn wsX7_copy (wsV RX7 97 RX5 yX5_isThere wsX5_isThere) := goodIn_app (goodIn_of _ (by decide +kernel)) ggX7_copy_X5_isThere
set_option maxRecDepth 20000 in
theorem ggX7_copy_X5_hasPlaces : GoodIn wsX7_copy wsX5_hasPlaces := goodIn_r _ [28, 12, 29, 21, 22, 10, 23, 24, 8, 9, 11, 42, 43] (by decide +kernel) (by decide +kernel)
set_option maxRecDepth 20000 in
theorem gX7_copy_X5_hasPlaces : GoodIn wsX7_copy (wsV RX7 100 RX5 yX5_hasPlaces wsX5_hasPlaces) := goodIn_app (goodIn_of _ (by decide +kernel)) ggX7_copy_X5_hasPlaces
theorem dX7_copy_0 : decode cX7_copy 0 = .ok (.aload_n 0, 1) := by decide +kernel
theorem dX7_copy_1 : decode cX7_copy 1 = .ok (.getfield 14, 3) := by decide +kernel
theorem dX7_copy_4 : decode cX7_copy 4 = .ok (.iload_n 1, 1) := by decide +kernel
theorem dX7_copy_5 : decode cX7_copy 5 = .ok (.invokevirtual 70, 3) := by decide +kernel
theorem dX7_copy_8 : decode cX7_copy 8 = .ok (.ifCond .eq 14, 3) := by decide +kernel
theorem dX7_copy_11 : decode cX7_copy 11 = .ok (.aload_n 0, 1) := by decide +kernel
theorem dX7_copy_12 : decode cX7_copy 12 = .ok (.getfield 14, 3) := by decide +kernel
theorem dX7_copy_15 : decode cX7_copy 15 = .ok (.iload_n 3, 1) := by decide +kernel
theorem dX7_copy_16 : decode cX7_copy 16 = .ok (.invokevirtual 70, 3) := by decide +kernel
theorem dX7_copy_19 : decode cX7_copy 19 = .ok (.ifCond .ne 5, 3) := by decide +kernel
theorem dX7_copy_22 : decode cX7_copy 22 = .ok (.iconst (-1), 1) := by decide +kernel
theorem dX7_copy_23 : decode cX7_copy 23 = .ok (.ireturn, 1) := by decide +kernel
theorem dX7_copy_24 : decode cX7_copy 24 = .ok (.iload 5, 2) := by decide +kernel
theorem dX7_copy_26 : decode cX7_copy 26 = .ok (.ifCond .ge 9, 3) := by decide +kernel
theorem dX7_copy_29 : decode cX7_copy 29 = .ok (.aload_n 0, 1) := by decide +kernel
theorem dX7_copy_30 : decode cX7_copy 30 = .ok (.iconst 5, 1) := by decide +kernel
theorem dX7_copy_31 : decode cX7_copy 31 = .ok (.invokevirtual 74, 3) := by decide +kernel
theorem dX7_copy_34 : decode cX7_copy 34 = .ok (.ireturn, 1) := by decide +kernel
theorem dX7_copy_35 : decode cX7_copy 35 = .ok (.aload_n 0, 1) := by decide +kernel
theorem dX7_copy_36 : decode cX7_copy 36 = .ok (.getfield 14, 3) := by decide +kernel
theorem dX7_copy_39 : decode cX7_copy 39 = .ok (.iload_n 1, 1) := by decide +kernel
theorem dX7_copy_40 : decode cX7_copy 40 = .ok (.invokevirtual 97, 3) := by decide +kernel
theorem dX7_copy_43 : decode cX7_copy 43 = .ok (.ifCond .eq 14, 3) := by decide +kernel
theorem dX7_copy_46 : decode cX7_copy 46 = .ok (.aload_n 0, 1) := by decide +kernel
theorem dX7_copy_47 : decode cX7_copy 47 = .ok (.getfield 14, 3) := by decide +kernel
theorem dX7_copy_50 : decode cX7_copy 50 = .ok (.iload_n 3, 1) := by decide +kernel
theorem dX7_copy_51 : decode cX7_copy 51 = .ok (.invokevirtual 97, 3) := by decide +kernel
theorem dX7_copy_54 : decode cX7_copy 54 = .ok (.ifCond .ne 9, 3) := by decide +kernel
theorem dX7_copy_57 : decode cX7_copy 57 = .ok (.aload_n 0, 1) := by decide +kernel
theorem dX7_copy_58 : decode cX7_copy 58 = .ok (.iconst 1, 1) := by decide +kernel
theorem dX7_copy_59 : decode cX7_copy 59 = .ok (.invokevirtual 74, 3) := by decide +kernel
theorem dX7_copy_62 : decode cX7_copy 62 = .ok (.ireturn, 1) := by decide +kernel
theorem dX7_copy_63 : decode cX7_copy 63 = .ok (.aload_n 0, 1) := by decide +kernel
theorem dX7_copy_64 : decode cX7_copy 64 = .ok (.getfield 14, 3) := by decide +kernel
theorem dX7_copy_67 : decode cX7_copy 67 = .ok (.iload_n 1, 1) := by decide +kernel
theorem dX7_copy_68 : decode cX7_copy 68 = .ok (.iload_n 2, 1) := by decide +kernel
theorem dX7_copy_69 : decode cX7_copy 69 = .ok (.iload 5, 2) := by decide +kernel
theorem dX7_copy_71 : decode cX7_copy 71 = .ok (.invokevirtual 100, 3) := by decide +kernel
theorem dX7_copy_74 : decode cX7_copy 74 = .ok (.ifCond .eq 18, 3) := by decide +kernel
theorem dX7_copy_77 : decode cX7_copy 77 = .ok (.aload_n 0, 1) := by decide +kernel
theorem dX7_copy_78 : decode cX7_copy 78 = .ok (.getfield 14, 3) := by decide +kernel
theorem dX7_copy_81 : decode cX7_copy 81 = .ok (.iload_n 3, 1) := by decide +kernel
theorem dX7_copy_82 : decode cX7_copy 82 = .ok (.iload 4, 2) := by decide +kernel
theorem dX7_copy_84 : decode cX7_copy 84 = .ok (.iload 5, 2) := by decide +kernel
theorem dX7_copy_86 : decode cX7_copy 86 = .ok (.invokevirtual 100, 3) := by decide +kernel
theorem dX7_copy_89 : decode cX7_copy 89 = .ok (.ifCond .ne 9, 3) := by decide +kernel
theorem dX7_copy_92 : decode cX7_copy 92 = .ok (.aload_n 0, 1) := by decide +kernel
theorem dX7_copy_93 : decode cX7_copy 93 = .ok (.iconst 2, 1) := by decide +kernel
theorem dX7_copy_94 : decode cX7_copy 94 = .ok (.invokevirtual 74, 3) := by decide +kernel
theorem dX7_copy_97 : decode cX7_copy 97 = .ok (.ireturn, 1) := by decide +kernel
theorem dX7_copy_98 : decode cX7_copy 98 = .ok (.aload_n 0, 1) := by decide +kernel
theorem dX7_copy_99 : decode cX7_copy 99 = .ok (.getfield 14, 3) := by decide +kernel
theorem dX7_copy_102 : decode cX7_copy 102 = .ok (.getfield 86, 3) := by decide +kernel
theorem dX7_copy_105 : decode cX7_copy 105 = .ok (.iload_n 1, 1) := by decide +kernel
theorem dX7_copy_106 : decode cX7_copy 106 = .ok (.aaload, 1) := by decide +kernel
theorem dX7_copy_107 : decode cX7_copy 107 = .ok (.iload_n 2, 1) := by decide +kernel
theorem dX7_copy_108 : decode cX7_copy 108 = .ok (.aload_n 0, 1) := by decide +kernel
theorem dX7_copy_109 : decode cX7_copy 109 = .ok (.getfield 14, 3) := by decide +kernel
theorem dX7_copy_112 : decode cX7_copy 112 = .ok (.getfield 86, 3) := by decide +kernel
theorem dX7_copy_115 : decode cX7_copy 115 = .ok (.iload_n 3, 1) := by decide +kernel
theorem dX7_copy_116 : decode cX7_copy 116 = .ok (.aaload, 1) := by decide +kernel
theorem dX7_copy_117 : decode cX7_copy 117 = .ok (.iload 4, 2) := by decide +kernel
theorem dX7_copy_119 : decode cX7_copy 119 = .ok (.iload 5, 2) := by decide +kernel
theorem dX7_copy_121 : decode cX7_copy 121 = .ok (.invokestatic 104, 3) := by decide +kernel
theorem dX7_copy_124 : decode cX7_copy 124 = .ok (.iconst 1, 1) := by decide +kernel
theorem dX7_copy_125 : decode cX7_copy 125 = .ok (.ireturn, 1) := by decide +kernel
set_option maxRecDepth 20000 in
theorem ggX7_mean_X7_refusalOfRow : GoodIn wsX7_mean wsX7_refusalOfRow := goodIn_r _ [9, 10, 11, 12, 13, 14, 15, 16, 17, 18, 19, 20, 21, 22, 23, 8, 24, 25, 26, 39, 40, 27, 28, 29, 30, 31, 32, 33, 34, 35, 36, 37, 38] (by decide +kernel) (by decide +kernel)
set_option maxRecDepth 20000 in
theorem gX7_mean_X7_refusalOfRow : GoodIn wsX7_mean (wsV RX7 90 RX7 yX7_refusalOfRow wsX7_refusalOfRow) := goodIn_app (goodIn_of _ (by decide +kernel)) ggX7_mean_X7_refusalOfRow
set_option maxRecDepth 20000 in
theorem ggX7_mean_X7_refuse : GoodIn wsX7_mean wsX7_refuse := goodIn_r _ [24, 25, 26, 27, 28, 29, 30, 31, 32, 33, 34, 35, 36, 37, 38] (by decide +kernel) (by decide +kernel)
set_option maxRecDepth 20000 in
theorem gX7_mean_X7_refuse : GoodIn wsX7_mean (wsV RX7 74 RX7 yX7_refuse wsX7_refuse) := goodIn_app (goodIn_of _ (by decide +kernel)) ggX7_mean_X7_refuse
theorem dX7_mean_0 : decode cX7_mean 0 = .ok (.aload_n 0, 1) := by decide +kernel
theorem dX7_mean_1 : decode cX7_mean 1 = .ok (.aload_n 0, 1) := by decide +kernel
theorem dX7_mean_2 : decode cX7_mean 2 = .ok (.getfield 14, 3) := by decide +kernel
theorem dX7_mean_5 : decode cX7_mean 5 = .ok (.iload_n 1, 1) := by decide +kernel
theorem dX7_mean_6 : decode cX7_mean 6 = .ok (.invokevirtual 90, 3) := by decide +kernel
theorem dX7_mean_9 : decode cX7_mean 9 = .ok (.istore_n 2, 1) := by decide +kernel
theorem dX7_mean_10 : decode cX7_mean 10 = .ok (.iload_n 2, 1) := by decide +kernel
theorem dX7_mean_11 : decode cX7_mean 11 = .ok (.ifCond .eq 5, 3) := by decide +kernel
theorem dX7_mean_14 : decode cX7_mean 14 = .ok (.iload_n 2, 1) := by decide +kernel
theorem dX7_mean_15 : decode cX7_mean 15 = .ok (.ireturn, 1) := by decide +kernel
theorem dX7_mean_16 : decode cX7_mean 16 = .ok (.aload_n 0, 1) := by decide +kernel
theorem dX7_mean_17 : decode cX7_mean 17 = .ok (.getfield 14, 3) := by decide +kernel
theorem dX7_mean_20 : decode cX7_mean 20 = .ok (.getfield 94, 3) := by decide +kernel
theorem dX7_mean_23 : decode cX7_mean 23 = .ok (.iload_n 1, 1) := by decide +kernel
theorem dX7_mean_24 : decode cX7_mean 24 = .ok (.iaload, 1) := by decide +kernel
theorem dX7_mean_25 : decode cX7_mean 25 = .ok (.istore_n 3, 1) := by decide +kernel
theorem dX7_mean_26 : decode cX7_mean 26 = .ok (.iload_n 3, 1) := by decide +kernel
theorem dX7_mean_27 : decode cX7_mean 27 = .ok (.ifCond .ne 9, 3) := by decide +kernel
theorem dX7_mean_30 : decode cX7_mean 30 = .ok (.aload_n 0, 1) := by decide +kernel
theorem dX7_mean_31 : decode cX7_mean 31 = .ok (.iconst 4, 1) := by decide +kernel
theorem dX7_mean_32 : decode cX7_mean 32 = .ok (.invokevirtual 74, 3) := by decide +kernel
theorem dX7_mean_35 : decode cX7_mean 35 = .ok (.ireturn, 1) := by decide +kernel
theorem dX7_mean_36 : decode cX7_mean 36 = .ok (.lconst 0, 1) := by decide +kernel
theorem dX7_mean_37 : decode cX7_mean 37 = .ok (.lstore 4, 2) := by decide +kernel
theorem dX7_mean_39 : decode cX7_mean 39 = .ok (.iconst 0, 1) := by decide +kernel
theorem dX7_mean_40 : decode cX7_mean 40 = .ok (.istore 6, 2) := by decide +kernel
theorem dX7_mean_42 : decode cX7_mean 42 = .ok (.iload 6, 2) := by decide +kernel
theorem dX7_mean_44 : decode cX7_mean 44 = .ok (.iload_n 3, 1) := by decide +kernel
theorem dX7_mean_45 : decode cX7_mean 45 = .ok (.if_icmp .ge 27, 3) := by decide +kernel
theorem dX7_mean_48 : decode cX7_mean 48 = .ok (.lload 4, 2) := by decide +kernel
theorem dX7_mean_50 : decode cX7_mean 50 = .ok (.aload_n 0, 1) := by decide +kernel
theorem dX7_mean_51 : decode cX7_mean 51 = .ok (.getfield 14, 3) := by decide +kernel
theorem dX7_mean_54 : decode cX7_mean 54 = .ok (.getfield 86, 3) := by decide +kernel
theorem dX7_mean_57 : decode cX7_mean 57 = .ok (.iload_n 1, 1) := by decide +kernel
theorem dX7_mean_58 : decode cX7_mean 58 = .ok (.aaload, 1) := by decide +kernel
theorem dX7_mean_59 : decode cX7_mean 59 = .ok (.iload 6, 2) := by decide +kernel
theorem dX7_mean_61 : decode cX7_mean 61 = .ok (.iaload, 1) := by decide +kernel
theorem dX7_mean_62 : decode cX7_mean 62 = .ok (.i2l, 1) := by decide +kernel
theorem dX7_mean_63 : decode cX7_mean 63 = .ok (.ladd, 1) := by decide +kernel
theorem dX7_mean_64 : decode cX7_mean 64 = .ok (.lstore 4, 2) := by decide +kernel
theorem dX7_mean_66 : decode cX7_mean 66 = .ok (.iinc 6 1, 3) := by decide +kernel
theorem dX7_mean_69 : decode cX7_mean 69 = .ok (.goto (-27), 3) := by decide +kernel
theorem dX7_mean_72 : decode cX7_mean 72 = .ok (.aload_n 0, 1) := by decide +kernel
theorem dX7_mean_73 : decode cX7_mean 73 = .ok (.lload 4, 2) := by decide +kernel
theorem dX7_mean_75 : decode cX7_mean 75 = .ok (.iload_n 3, 1) := by decide +kernel
theorem dX7_mean_76 : decode cX7_mean 76 = .ok (.i2l, 1) := by decide +kernel
theorem dX7_mean_77 : decode cX7_mean 77 = .ok (.ldiv, 1) := by decide +kernel
theorem dX7_mean_78 : decode cX7_mean 78 = .ok (.l2i, 1) := by decide +kernel
theorem dX7_mean_79 : decode cX7_mean 79 = .ok (.putfield 60, 3) := by decide +kernel
theorem dX7_mean_82 : decode cX7_mean 82 = .ok (.iconst 1, 1) := by decide +kernel
theorem dX7_mean_83 : decode cX7_mean 83 = .ok (.ireturn, 1) := by decide +kernel
set_option maxRecDepth 20000 in
theorem ggX7_text_X5_isNumber : GoodIn wsX7_text wsX5_isNumber := goodIn_r _ [6, 7, 37, 38] (by decide +kernel) (by decide +kernel)
set_option maxRecDepth 20000 in
theorem gX7_text_X5_isNumber : GoodIn wsX7_text (wsV RX7 70 RX5 yX5_isNumber wsX5_isNumber) := goodIn_app (goodIn_of _ (by decide +kernel)) ggX7_text_X5_isNumber
set_option maxRecDepth 20000 in
theorem ggX7_text_X7_refuse : GoodIn wsX7_text wsX7_refuse := goodIn_r _ [12, 13, 14, 25, 26, 27, 28, 29, 30, 31, 32, 33, 34, 35, 36] (by decide +kernel) (by decide +kernel)
set_option maxRecDepth 20000 in
theorem gX7_text_X7_refuse : GoodIn wsX7_text (wsV RX7 74 RX7 yX7_refuse wsX7_refuse) := goodIn_app (goodIn_of _ (by decide +kernel)) ggX7_text_X7_refuse
set_option maxRecDepth 20000 in
theorem ggX7_text_X5_make : GoodIn wsX7_text wsX5_make := goodIn_r _ [18, 19, 7, 20, 3, 4, 5, 6, 21, 22, 23, 24, 37, 38] (by decide +kernel) (by decide +kernel)
set_option maxRecDepth 20000 in
theorem gX7_text_X5_make : GoodIn wsX7_text (wsV RX7 78 RX5 yX5_make wsX5_make) := goodIn_app (goodIn_of _ (by decide +kernel)) ggX7_text_X5_make
theorem dX7_text_0 : decode cX7_text 0 = .ok (.aload_n 0, 1) := by decide +kernel
theorem dX7_text_1 : decode cX7_text 1 = .ok (.getfield 18, 3) := by decide +kernel
theorem dX7_text_4 : decode cX7_text 4 = .ok (.iload_n 1, 1) := by decide +kernel
theorem dX7_text_5 : decode cX7_text 5 = .ok (.invokevirtual 70, 3) := by decide +kernel
theorem dX7_text_8 : decode cX7_text 8 = .ok (.ifCond .eq 9, 3) := by decide +kernel
theorem dX7_text_11 : decode cX7_text 11 = .ok (.iload_n 2, 1) := by decide +kernel
theorem dX7_text_12 : decode cX7_text 12 = .ok (.bipush 60, 2) := by decide +kernel
theorem dX7_text_14 : decode cX7_text 14 = .ok (.if_icmp .le 5, 3) := by decide +kernel
theorem dX7_text_17 : decode cX7_text 17 = .ok (.iconst (-1), 1) := by decide +kernel
theorem dX7_text_18 : decode cX7_text 18 = .ok (.ireturn, 1) := by decide +kernel
theorem dX7_text_19 : decode cX7_text 19 = .ok (.iload_n 2, 1) := by decide +kernel
theorem dX7_text_20 : decode cX7_text 20 = .ok (.ifCond .ge 9, 3) := by decide +kernel
theorem dX7_text_23 : decode cX7_text 23 = .ok (.aload_n 0, 1) := by decide +kernel
theorem dX7_text_24 : decode cX7_text 24 = .ok (.iconst 5, 1) := by decide +kernel
theorem dX7_text_25 : decode cX7_text 25 = .ok (.invokevirtual 74, 3) := by decide +kernel
theorem dX7_text_28 : decode cX7_text 28 = .ok (.ireturn, 1) := by decide +kernel
theorem dX7_text_29 : decode cX7_text 29 = .ok (.aload_n 0, 1) := by decide +kernel
theorem dX7_text_30 : decode cX7_text 30 = .ok (.getfield 18, 3) := by decide +kernel
theorem dX7_text_33 : decode cX7_text 33 = .ok (.iload_n 1, 1) := by decide +kernel
theorem dX7_text_34 : decode cX7_text 34 = .ok (.iload_n 2, 1) := by decide +kernel
theorem dX7_text_35 : decode cX7_text 35 = .ok (.bipush 32, 2) := by decide +kernel
theorem dX7_text_37 : decode cX7_text 37 = .ok (.invokevirtual 78, 3) := by decide +kernel
theorem dX7_text_40 : decode cX7_text 40 = .ok (.iload_n 2, 1) := by decide +kernel
theorem dX7_text_41 : decode cX7_text 41 = .ok (.ireturn, 1) := by decide +kernel
set_option maxRecDepth 20000 in
theorem ggX7_put_X7_refusalOfPlace : GoodIn wsX7_put wsX7_refusalOfPlace := goodIn_r _ [7, 8, 9, 10, 6, 11, 12, 13, 14, 15, 16, 17, 18, 19, 20, 21, 22, 23, 24, 25, 26, 27, 28, 29, 30, 31, 32, 33, 46, 47, 34, 35, 36, 37, 38, 39, 40, 41, 42, 43, 44, 45] (by decide +kernel) (by decide +kernel)
set_option maxRecDepth 20000 in
theorem gX7_put_X7_refusalOfPlace : GoodIn wsX7_put (wsV RX7 82 RX7 yX7_refusalOfPlace wsX7_refusalOfPlace) := goodIn_app (goodIn_of _ (by decide +kernel)) ggX7_put_X7_refusalOfPlace
theorem dX7_put_0 : decode cX7_put 0 = .ok (.aload_n 0, 1) := by decide +kernel
theorem dX7_put_1 : decode cX7_put 1 = .ok (.aload_n 0, 1) := by decide +kernel
theorem dX7_put_2 : decode cX7_put 2 = .ok (.getfield 18, 3) := by decide +kernel
theorem dX7_put_5 : decode cX7_put 5 = .ok (.iload_n 1, 1) := by decide +kernel
theorem dX7_put_6 : decode cX7_put 6 = .ok (.iload_n 2, 1) := by decide +kernel
theorem dX7_put_7 : decode cX7_put 7 = .ok (.invokevirtual 82, 3) := by decide +kernel
theorem dX7_put_10 : decode cX7_put 10 = .ok (.istore 4, 2) := by decide +kernel
theorem dX7_put_12 : decode cX7_put 12 = .ok (.iload 4, 2) := by decide +kernel
theorem dX7_put_14 : decode cX7_put 14 = .ok (.ifCond .eq 6, 3) := by decide +kernel
theorem dX7_put_17 : decode cX7_put 17 = .ok (.iload 4, 2) := by decide +kernel
theorem dX7_put_19 : decode cX7_put 19 = .ok (.ireturn, 1) := by decide +kernel
theorem dX7_put_20 : decode cX7_put 20 = .ok (.aload_n 0, 1) := by decide +kernel
theorem dX7_put_21 : decode cX7_put 21 = .ok (.getfield 18, 3) := by decide +kernel
theorem dX7_put_24 : decode cX7_put 24 = .ok (.getfield 86, 3) := by decide +kernel
theorem dX7_put_27 : decode cX7_put 27 = .ok (.iload_n 1, 1) := by decide +kernel
theorem dX7_put_28 : decode cX7_put 28 = .ok (.aaload, 1) := by decide +kernel
theorem dX7_put_29 : decode cX7_put 29 = .ok (.iload_n 2, 1) := by decide +kernel
theorem dX7_put_30 : decode cX7_put 30 = .ok (.iaload, 1) := by decide +kernel
theorem dX7_put_31 : decode cX7_put 31 = .ok (.istore 5, 2) := by decide +kernel
theorem dX7_put_33 : decode cX7_put 33 = .ok (.aload_n 0, 1) := by decide +kernel
theorem dX7_put_34 : decode cX7_put 34 = .ok (.getfield 18, 3) := by decide +kernel
theorem dX7_put_37 : decode cX7_put 37 = .ok (.getfield 86, 3) := by decide +kernel
theorem dX7_put_40 : decode cX7_put 40 = .ok (.iload_n 1, 1) := by decide +kernel
theorem dX7_put_41 : decode cX7_put 41 = .ok (.aaload, 1) := by decide +kernel
theorem dX7_put_42 : decode cX7_put 42 = .ok (.iload_n 2, 1) := by decide +kernel
theorem dX7_put_43 : decode cX7_put 43 = .ok (.iload_n 3, 1) := by decide +kernel
theorem dX7_put_44 : decode cX7_put 44 = .ok (.i2b, 1) := by decide +kernel
theorem dX7_put_45 : decode cX7_put 45 = .ok (.iastore, 1) := by decide +kernel
theorem dX7_put_46 : decode cX7_put 46 = .ok (.iload 5, 2) := by decide +kernel
theorem dX7_put_48 : decode cX7_put 48 = .ok (.sipush 1000, 3) := by decide +kernel
theorem dX7_put_51 : decode cX7_put 51 = .ok (.iadd, 1) := by decide +kernel
theorem dX7_put_52 : decode cX7_put 52 = .ok (.ireturn, 1) := by decide +kernel
set_option maxRecDepth 20000 in
theorem ggX7_fault_X7_refusalOfRow : GoodIn wsX7_fault wsX7_refusalOfRow := goodIn_r _ [9, 10, 11, 12, 13, 14, 15, 16, 17, 18, 19, 20, 21, 22, 23, 8, 24, 25, 26, 96, 97, 84, 85, 86, 87, 88, 89, 90, 91, 92, 93, 94, 95] (by decide +kernel) (by decide +kernel)
set_option maxRecDepth 20000 in
theorem gX7_fault_X7_refusalOfRow : GoodIn wsX7_fault (wsV RX7 90 RX7 yX7_refusalOfRow wsX7_refusalOfRow) := goodIn_app (goodIn_of _ (by decide +kernel)) ggX7_fault_X7_refusalOfRow
set_option maxRecDepth 20000 in
theorem ggX7_fault_X4_faultOf : GoodIn wsX7_fault wsX4_faultOf := goodIn_r _ [31, 32, 33, 34, 35, 36, 37, 38, 39, 40, 41, 42, 43, 44, 45, 46, 47, 48, 49, 50, 30, 51, 52, 53, 54, 55, 56, 57, 58, 59, 60, 61, 62, 63, 64, 65, 66, 67, 68, 69, 70, 71, 72, 73, 74, 75, 76, 77, 78, 79, 80, 81, 82, 83, 98, 99, 100, 101, 102, 103, 104, 105, 106, 107, 108, 109, 110, 111, 112, 113] (by decide +kernel) (by decide +kernel)
set_option maxRecDepth 20000 in
theorem gX7_fault_X4_faultOf : GoodIn wsX7_fault (wsV RX7 110 RX4 yX4_faultOf wsX4_faultOf) := goodIn_app (goodIn_of _ (by decide +kernel)) ggX7_fault_X4_faultOf
theorem dX7_fault_0 : decode cX7_fault 0 = .ok (.aload_n 0, 1) := by decide +kernel
theorem dX7_fault_1 : decode cX7_fault 1 = .ok (.aload_n 0, 1) := by decide +kernel
theorem dX7_fault_2 : decode cX7_fault 2 = .ok (.getfield 18, 3) := by decide +kernel
theorem dX7_fault_5 : decode cX7_fault 5 = .ok (.iload_n 1, 1) := by decide +kernel
theorem dX7_fault_6 : decode cX7_fault 6 = .ok (.invokevirtual 90, 3) := by decide +kernel
theorem dX7_fault_9 : decode cX7_fault 9 = .ok (.istore_n 2, 1) := by decide +kernel
theorem dX7_fault_10 : decode cX7_fault 10 = .ok (.iload_n 2, 1) := by decide +kernel
theorem dX7_fault_11 : decode cX7_fault 11 = .ok (.ifCond .eq 5, 3) := by decide +kernel
theorem dX7_fault_14 : decode cX7_fault 14 = .ok (.iload_n 2, 1) := by decide +kernel
theorem dX7_fault_15 : decode cX7_fault 15 = .ok (.ireturn, 1) := by decide +kernel
theorem dX7_fault_16 : decode cX7_fault 16 = .ok (.aload_n 0, 1) := by decide +kernel
theorem dX7_fault_17 : decode cX7_fault 17 = .ok (.getfield 34, 3) := by decide +kernel
theorem dX7_fault_20 : decode cX7_fault 20 = .ok (.aload_n 0, 1) := by decide +kernel
theorem dX7_fault_21 : decode cX7_fault 21 = .ok (.getfield 18, 3) := by decide +kernel
theorem dX7_fault_24 : decode cX7_fault 24 = .ok (.getfield 86, 3) := by decide +kernel
theorem dX7_fault_27 : decode cX7_fault 27 = .ok (.iload_n 1, 1) := by decide +kernel
theorem dX7_fault_28 : decode cX7_fault 28 = .ok (.aaload, 1) := by decide +kernel
theorem dX7_fault_29 : decode cX7_fault 29 = .ok (.aload_n 0, 1) := by decide +kernel
theorem dX7_fault_30 : decode cX7_fault 30 = .ok (.getfield 18, 3) := by decide +kernel
theorem dX7_fault_33 : decode cX7_fault 33 = .ok (.getfield 94, 3) := by decide +kernel
theorem dX7_fault_36 : decode cX7_fault 36 = .ok (.iload_n 1, 1) := by decide +kernel
theorem dX7_fault_37 : decode cX7_fault 37 = .ok (.iaload, 1) := by decide +kernel
theorem dX7_fault_38 : decode cX7_fault 38 = .ok (.invokevirtual 110, 3) := by decide +kernel
theorem dX7_fault_41 : decode cX7_fault 41 = .ok (.ireturn, 1) := by decide +kernel
set_option maxRecDepth 20000 in
theorem ggX7_family_X7_refusalOfRow : GoodIn wsX7_family wsX7_refusalOfRow := goodIn_r _ [13, 14, 15, 16, 17, 18, 19, 20, 21, 22, 23, 24, 25, 26, 27, 12, 28, 29, 30, 125, 126, 113, 114, 115, 116, 117, 118, 119, 120, 121, 122, 123, 124] (by decide +kernel) (by decide +kernel)
set_option maxRecDepth 20000 in
theorem gX7_family_X7_refusalOfRow : GoodIn wsX7_family (wsV RX7 90 RX7 yX7_refusalOfRow wsX7_refusalOfRow) := goodIn_app (goodIn_of _ (by decide +kernel)) ggX7_family_X7_refusalOfRow
set_option maxRecDepth 20000 in
theorem ggX7_family_X4_faultOf : GoodIn wsX7_family wsX4_faultOf := goodIn_r _ [35, 36, 37, 38, 39, 40, 41, 42, 43, 44, 45, 46, 47, 48, 49, 50, 51, 52, 53, 54, 34, 55, 56, 57, 58, 59, 60, 61, 62, 63, 64, 65, 66, 67, 68, 69, 70, 71, 72, 73, 74, 75, 76, 77, 78, 79, 80, 81, 82, 83, 84, 85, 86, 87, 127, 128, 129, 130, 131, 132, 133, 134, 135, 136, 137, 138, 139, 140, 141, 142] (by decide +kernel) (by decide +kernel)
set_option maxRecDepth 20000 in
theorem gX7_family_X4_faultOf : GoodIn wsX7_family (wsV RX7 110 RX4 yX4_faultOf wsX4_faultOf) := goodIn_app (goodIn_of _ (by decide +kernel)) ggX7_family_X4_faultOf
set_option maxRecDepth 20000 in
theorem ggX7_family_X2_become : GoodIn wsX7_family wsX2_become := goodIn_r _ [91, 49, 50, 51, 92, 93, 94, 95, 96, 97, 98, 99, 100, 101, 102, 47, 103, 104, 105, 106, 107, 108, 109, 110, 111, 112, 130, 131, 132, 133, 134, 135, 136, 137, 138, 139, 140, 141, 142] (by decide +kernel) (by decide +kernel)
set_option maxRecDepth 20000 in
theorem gX7_family_X2_become : GoodIn wsX7_family (wsV RX7 117 RX2 yX2_become wsX2_become) := goodIn_app (goodIn_of _ (by decide +kernel)) ggX7_family_X2_become
theorem dX7_family_0 : decode cX7_family 0 = .ok (.aload_n 0, 1) := by decide +kernel
theorem dX7_family_1 : decode cX7_family 1 = .ok (.aload_n 0, 1) := by decide +kernel
theorem dX7_family_2 : decode cX7_family 2 = .ok (.getfield 18, 3) := by decide +kernel
theorem dX7_family_5 : decode cX7_family 5 = .ok (.iload_n 1, 1) := by decide +kernel
theorem dX7_family_6 : decode cX7_family 6 = .ok (.invokevirtual 90, 3) := by decide +kernel
theorem dX7_family_9 : decode cX7_family 9 = .ok (.istore_n 2, 1) := by decide +kernel
theorem dX7_family_10 : decode cX7_family 10 = .ok (.iload_n 2, 1) := by decide +kernel
theorem dX7_family_11 : decode cX7_family 11 = .ok (.ifCond .eq 5, 3) := by decide +kernel
theorem dX7_family_14 : decode cX7_family 14 = .ok (.iload_n 2, 1) := by decide +kernel
theorem dX7_family_15 : decode cX7_family 15 = .ok (.ireturn, 1) := by decide +kernel
theorem dX7_family_16 : decode cX7_family 16 = .ok (.aload_n 0, 1) := by decide +kernel
theorem dX7_family_17 : decode cX7_family 17 = .ok (.getfield 34, 3) := by decide +kernel
theorem dX7_family_20 : decode cX7_family 20 = .ok (.aload_n 0, 1) := by decide +kernel
theorem dX7_family_21 : decode cX7_family 21 = .ok (.getfield 18, 3) := by decide +kernel
theorem dX7_family_24 : decode cX7_family 24 = .ok (.getfield 86, 3) := by decide +kernel
theorem dX7_family_27 : decode cX7_family 27 = .ok (.iload_n 1, 1) := by decide +kernel
theorem dX7_family_28 : decode cX7_family 28 = .ok (.aaload, 1) := by decide +kernel
theorem dX7_family_29 : decode cX7_family 29 = .ok (.aload_n 0, 1) := by decide +kernel
theorem dX7_family_30 : decode cX7_family 30 = .ok (.getfield 18, 3) := by decide +kernel
theorem dX7_family_33 : decode cX7_family 33 = .ok (.getfield 94, 3) := by decide +kernel
theorem dX7_family_36 : decode cX7_family 36 = .ok (.iload_n 1, 1) := by decide +kernel
theorem dX7_family_37 : decode cX7_family 37 = .ok (.iaload, 1) := by decide +kernel
theorem dX7_family_38 : decode cX7_family 38 = .ok (.invokevirtual 110, 3) := by decide +kernel
theorem dX7_family_41 : decode cX7_family 41 = .ok (.bipush (-9), 2) := by decide +kernel
theorem dX7_family_43 : decode cX7_family 43 = .ok (.if_icmp .eq 6, 3) := by decide +kernel
theorem dX7_family_46 : decode cX7_family 46 = .ok (.bipush (-4), 2) := by decide +kernel
theorem dX7_family_48 : decode cX7_family 48 = .ok (.ireturn, 1) := by decide +kernel
theorem dX7_family_49 : decode cX7_family 49 = .ok (.aload_n 0, 1) := by decide +kernel
theorem dX7_family_50 : decode cX7_family 50 = .ok (.getfield 27, 3) := by decide +kernel
theorem dX7_family_53 : decode cX7_family 53 = .ok (.aload_n 0, 1) := by decide +kernel
theorem dX7_family_54 : decode cX7_family 54 = .ok (.getfield 34, 3) := by decide +kernel
theorem dX7_family_57 : decode cX7_family 57 = .ok (.getfield 114, 3) := by decide +kernel
theorem dX7_family_60 : decode cX7_family 60 = .ok (.invokevirtual 117, 3) := by decide +kernel
theorem dX7_family_63 : decode cX7_family 63 = .ok (.iconst 0, 1) := by decide +kernel
theorem dX7_family_64 : decode cX7_family 64 = .ok (.istore_n 3, 1) := by decide +kernel
theorem dX7_family_65 : decode cX7_family 65 = .ok (.iload_n 3, 1) := by decide +kernel
theorem dX7_family_66 : decode cX7_family 66 = .ok (.iconst 3, 1) := by decide +kernel
theorem dX7_family_67 : decode cX7_family 67 = .ok (.if_icmp .ge 19, 3) := by decide +kernel
theorem dX7_family_70 : decode cX7_family 70 = .ok (.aload_n 0, 1) := by decide +kernel
theorem dX7_family_71 : decode cX7_family 71 = .ok (.getfield 21, 3) := by decide +kernel
theorem dX7_family_74 : decode cX7_family 74 = .ok (.getfield 94, 3) := by decide +kernel
theorem dX7_family_77 : decode cX7_family 77 = .ok (.iload_n 3, 1) := by decide +kernel
theorem dX7_family_78 : decode cX7_family 78 = .ok (.iconst (-1), 1) := by decide +kernel
theorem dX7_family_79 : decode cX7_family 79 = .ok (.iastore, 1) := by decide +kernel
theorem dX7_family_80 : decode cX7_family 80 = .ok (.iinc 3 1, 3) := by decide +kernel
theorem dX7_family_83 : decode cX7_family 83 = .ok (.goto (-18), 3) := by decide +kernel
theorem dX7_family_86 : decode cX7_family 86 = .ok (.aload_n 0, 1) := by decide +kernel
theorem dX7_family_87 : decode cX7_family 87 = .ok (.getfield 27, 3) := by decide +kernel
theorem dX7_family_90 : decode cX7_family 90 = .ok (.getfield 121, 3) := by decide +kernel
theorem dX7_family_93 : decode cX7_family 93 = .ok (.ireturn, 1) := by decide +kernel
set_option maxRecDepth 20000 in
theorem ggX7_saying_X2_hasSaying : GoodIn wsX7_saying wsX2_hasSaying := goodIn_r _ [7, 8, 52, 53, 54, 55, 56, 57, 58, 59, 60, 61, 62, 63, 64] (by decide +kernel) (by decide +kernel)
set_option maxRecDepth 20000 in
theorem gX7_saying_X2_hasSaying : GoodIn wsX7_saying (wsV RX7 124 RX2 yX2_hasSaying wsX2_hasSaying) := goodIn_app (goodIn_of _ (by decide +kernel)) ggX7_saying_X2_hasSaying
set_option maxRecDepth 20000 in
theorem ggX7_saying_X2_aspect : GoodIn wsX7_saying wsX2_aspect := goodIn_r _ [12, 13, 14, 15, 16, 17, 18, 19, 6, 20, 21, 22, 23, 24, 25, 26, 27, 28, 29, 30, 31, 32, 33, 34, 35, 36, 37, 38, 39, 52, 53, 54, 55, 56, 57, 58, 59, 60, 61, 62, 63, 64] (by decide +kernel) (by decide +kernel)
set_option maxRecDepth 20000 in
theorem gX7_saying_X2_aspect : GoodIn wsX7_saying (wsV RX7 127 RX2 yX2_aspect wsX2_aspect) := goodIn_app (goodIn_of _ (by decide +kernel)) ggX7_saying_X2_aspect
theorem dX7_saying_0 : decode cX7_saying 0 = .ok (.aload_n 0, 1) := by decide +kernel
theorem dX7_saying_1 : decode cX7_saying 1 = .ok (.getfield 27, 3) := by decide +kernel
theorem dX7_saying_4 : decode cX7_saying 4 = .ok (.iload_n 1, 1) := by decide +kernel
theorem dX7_saying_5 : decode cX7_saying 5 = .ok (.invokevirtual 124, 3) := by decide +kernel
theorem dX7_saying_8 : decode cX7_saying 8 = .ok (.ifCond .eq 12, 3) := by decide +kernel
theorem dX7_saying_11 : decode cX7_saying 11 = .ok (.iload_n 2, 1) := by decide +kernel
theorem dX7_saying_12 : decode cX7_saying 12 = .ok (.ifCond .lt 8, 3) := by decide +kernel
theorem dX7_saying_15 : decode cX7_saying 15 = .ok (.iload_n 2, 1) := by decide +kernel
theorem dX7_saying_16 : decode cX7_saying 16 = .ok (.iconst 4, 1) := by decide +kernel
theorem dX7_saying_17 : decode cX7_saying 17 = .ok (.if_icmp .le 5, 3) := by decide +kernel
theorem dX7_saying_20 : decode cX7_saying 20 = .ok (.iconst (-1), 1) := by decide +kernel
theorem dX7_saying_21 : decode cX7_saying 21 = .ok (.ireturn, 1) := by decide +kernel
theorem dX7_saying_22 : decode cX7_saying 22 = .ok (.aload_n 0, 1) := by decide +kernel
theorem dX7_saying_23 : decode cX7_saying 23 = .ok (.aload_n 0, 1) := by decide +kernel
theorem dX7_saying_24 : decode cX7_saying 24 = .ok (.getfield 27, 3) := by decide +kernel
theorem dX7_saying_27 : decode cX7_saying 27 = .ok (.iload_n 1, 1) := by decide +kernel
theorem dX7_saying_28 : decode cX7_saying 28 = .ok (.iload_n 2, 1) := by decide +kernel
theorem dX7_saying_29 : decode cX7_saying 29 = .ok (.invokevirtual 127, 3) := by decide +kernel
theorem dX7_saying_32 : decode cX7_saying 32 = .ok (.putfield 60, 3) := by decide +kernel
theorem dX7_saying_35 : decode cX7_saying 35 = .ok (.iconst 1, 1) := by decide +kernel
theorem dX7_saying_36 : decode cX7_saying 36 = .ok (.ireturn, 1) := by decide +kernel
set_option maxRecDepth 20000 in
theorem ggX7_mark_X2_hasSaying : GoodIn wsX7_mark wsX2_hasSaying := goodIn_r _ [12, 13, 78, 79, 80, 81, 82, 83, 84, 85, 86, 87, 88, 89, 90] (by decide +kernel) (by decide +kernel)
set_option maxRecDepth 20000 in
theorem gX7_mark_X2_hasSaying : GoodIn wsX7_mark (wsV RX7 124 RX2 yX2_hasSaying wsX2_hasSaying) := goodIn_app (goodIn_of _ (by decide +kernel)) ggX7_mark_X2_hasSaying
set_option maxRecDepth 20000 in
theorem ggX7_mark_X2_isOfKind : GoodIn wsX7_mark wsX2_isOfKind := goodIn_r _ [17, 18, 78, 79, 80, 81, 82, 83, 84, 85, 86, 87, 88, 89, 90] (by decide +kernel) (by decide +kernel)
set_option maxRecDepth 20000 in
theorem gX7_mark_X2_isOfKind : GoodIn wsX7_mark (wsV RX7 131 RX2 yX2_isOfKind wsX2_isOfKind) := goodIn_app (goodIn_of _ (by decide +kernel)) ggX7_mark_X2_isOfKind
set_option maxRecDepth 20000 in
theorem ggX7_mark_X7_refuse : GoodIn wsX7_mark wsX7_refuse := goodIn_r _ [23, 24, 25, 66, 67, 68, 69, 70, 71, 72, 73, 74, 75, 76, 77] (by decide +kernel) (by decide +kernel)
set_option maxRecDepth 20000 in
theorem gX7_mark_X7_refuse : GoodIn wsX7_mark (wsV RX7 74 RX7 yX7_refuse wsX7_refuse) := goodIn_app (goodIn_of _ (by decide +kernel)) ggX7_mark_X7_refuse
set_option maxRecDepth 20000 in
theorem ggX7_mark_X2_openTopics : GoodIn wsX7_mark wsX2_openTopics := goodIn_r _ [29, 30, 31, 32, 33, 34, 35, 36, 37, 78, 79, 80, 81, 82, 83, 84, 85, 86, 87, 88, 89, 90] (by decide +kernel) (by decide +kernel)
set_option maxRecDepth 20000 in
theorem gX7_mark_X2_openTopics : GoodIn wsX7_mark (wsV RX7 146 RX2 yX2_openTopics wsX2_openTopics) := goodIn_app (goodIn_of _ (by decide +kernel)) ggX7_mark_X2_openTopics
set_option maxRecDepth 20000 in
theorem ggX7_mark_X2_whoWouldBeOver : GoodIn wsX7_mark wsX2_whoWouldBeOver := goodIn_r _ [41, 42, 43, 44, 45, 11, 46, 47, 48, 49, 50, 51, 52, 53, 54, 55, 56, 57, 18, 58, 59, 60, 27, 28, 29, 30, 31, 32, 33, 34, 35, 36, 37, 61, 62, 63, 64, 5, 6, 7, 78, 79, 80, 81, 82, 83, 84, 85, 86, 87, 88, 89, 90] (by decide +kernel) (by decide +kernel)
set_option maxRecDepth 20000 in
theorem gX7_mark_X2_whoWouldBeOver : GoodIn wsX7_mark (wsV RX7 150 RX2 yX2_whoWouldBeOver wsX2_whoWouldBeOver) := goodIn_app (goodIn_of _ (by decide +kernel)) ggX7_mark_X2_whoWouldBeOver
set_option maxRecDepth 20000 in
theorem ggX7_mark_J6_bitCount_0f7a4 : GoodIn wsX7_mark wsJ6_bitCount_0f7a4 := goodIn_r _ [34, 35, 36, 37] (by decide +kernel) (by decide +kernel)
set_option maxRecDepth 20000 in
theorem gX7_mark_J6_bitCount_0f7a4 : GoodIn wsX7_mark (va_wsS RX7 153 yJ6_bitCount_0f7a4 wsJ6_bitCount_0f7a4) := goodIn_app (goodIn_of _ (by decide +kernel)) ggX7_mark_J6_bitCount_0f7a4
theorem dX7_mark_0 : decode cX7_mark 0 = .ok (.aload_n 0, 1) := by decide +kernel
theorem dX7_mark_1 : decode cX7_mark 1 = .ok (.getfield 27, 3) := by decide +kernel
theorem dX7_mark_4 : decode cX7_mark 4 = .ok (.iload_n 1, 1) := by decide +kernel
theorem dX7_mark_5 : decode cX7_mark 5 = .ok (.invokevirtual 124, 3) := by decide +kernel
theorem dX7_mark_8 : decode cX7_mark 8 = .ok (.ifCond .eq 13, 3) := by decide +kernel
theorem dX7_mark_11 : decode cX7_mark 11 = .ok (.iload_n 2, 1) := by decide +kernel
theorem dX7_mark_12 : decode cX7_mark 12 = .ok (.iconst 1, 1) := by decide +kernel
theorem dX7_mark_13 : decode cX7_mark 13 = .ok (.if_icmp .lt 8, 3) := by decide +kernel
theorem dX7_mark_16 : decode cX7_mark 16 = .ok (.iload_n 2, 1) := by decide +kernel
theorem dX7_mark_17 : decode cX7_mark 17 = .ok (.iconst 5, 1) := by decide +kernel
theorem dX7_mark_18 : decode cX7_mark 18 = .ok (.if_icmp .le 5, 3) := by decide +kernel
theorem dX7_mark_21 : decode cX7_mark 21 = .ok (.iconst (-1), 1) := by decide +kernel
theorem dX7_mark_22 : decode cX7_mark 22 = .ok (.ireturn, 1) := by decide +kernel
theorem dX7_mark_23 : decode cX7_mark 23 = .ok (.aload_n 0, 1) := by decide +kernel
theorem dX7_mark_24 : decode cX7_mark 24 = .ok (.getfield 27, 3) := by decide +kernel
theorem dX7_mark_27 : decode cX7_mark 27 = .ok (.iload_n 1, 1) := by decide +kernel
theorem dX7_mark_28 : decode cX7_mark 28 = .ok (.iload_n 2, 1) := by decide +kernel
theorem dX7_mark_29 : decode cX7_mark 29 = .ok (.invokevirtual 131, 3) := by decide +kernel
theorem dX7_mark_32 : decode cX7_mark 32 = .ok (.ifCond .ne 9, 3) := by decide +kernel
theorem dX7_mark_35 : decode cX7_mark 35 = .ok (.aload_n 0, 1) := by decide +kernel
theorem dX7_mark_36 : decode cX7_mark 36 = .ok (.iconst 3, 1) := by decide +kernel
theorem dX7_mark_37 : decode cX7_mark 37 = .ok (.invokevirtual 74, 3) := by decide +kernel
theorem dX7_mark_40 : decode cX7_mark 40 = .ok (.ireturn, 1) := by decide +kernel
theorem dX7_mark_41 : decode cX7_mark 41 = .ok (.iload_n 2, 1) := by decide +kernel
theorem dX7_mark_42 : decode cX7_mark 42 = .ok (.tableswitch 96 1 4 #[30, 40, 62, 88], 30) := by decide +kernel
theorem dX7_mark_72 : decode cX7_mark 72 = .ok (.aload_n 0, 1) := by decide +kernel
theorem dX7_mark_73 : decode cX7_mark 73 = .ok (.getfield 27, 3) := by decide +kernel
theorem dX7_mark_76 : decode cX7_mark 76 = .ok (.getfield 135, 3) := by decide +kernel
theorem dX7_mark_79 : decode cX7_mark 79 = .ok (.iload_n 1, 1) := by decide +kernel
theorem dX7_mark_80 : decode cX7_mark 80 = .ok (.iaload, 1) := by decide +kernel
theorem dX7_mark_81 : decode cX7_mark 81 = .ok (.ireturn, 1) := by decide +kernel
theorem dX7_mark_82 : decode cX7_mark 82 = .ok (.aload_n 0, 1) := by decide +kernel
theorem dX7_mark_83 : decode cX7_mark 83 = .ok (.getfield 27, 3) := by decide +kernel
theorem dX7_mark_86 : decode cX7_mark 86 = .ok (.getfield 138, 3) := by decide +kernel
theorem dX7_mark_89 : decode cX7_mark 89 = .ok (.iload_n 1, 1) := by decide +kernel
theorem dX7_mark_90 : decode cX7_mark 90 = .ok (.iaload, 1) := by decide +kernel
theorem dX7_mark_91 : decode cX7_mark 91 = .ok (.aload_n 0, 1) := by decide +kernel
theorem dX7_mark_92 : decode cX7_mark 92 = .ok (.getfield 27, 3) := by decide +kernel
theorem dX7_mark_95 : decode cX7_mark 95 = .ok (.getfield 138, 3) := by decide +kernel
theorem dX7_mark_98 : decode cX7_mark 98 = .ok (.iload_n 1, 1) := by decide +kernel
theorem dX7_mark_99 : decode cX7_mark 99 = .ok (.iaload, 1) := by decide +kernel
theorem dX7_mark_100 : decode cX7_mark 100 = .ok (.iconst 2, 1) := by decide +kernel
theorem dX7_mark_101 : decode cX7_mark 101 = .ok (.idiv, 1) := by decide +kernel
theorem dX7_mark_102 : decode cX7_mark 102 = .ok (.isub, 1) := by decide +kernel
theorem dX7_mark_103 : decode cX7_mark 103 = .ok (.ireturn, 1) := by decide +kernel
theorem dX7_mark_104 : decode cX7_mark 104 = .ok (.iconst 0, 1) := by decide +kernel
theorem dX7_mark_105 : decode cX7_mark 105 = .ok (.iconst 3, 1) := by decide +kernel
theorem dX7_mark_106 : decode cX7_mark 106 = .ok (.aload_n 0, 1) := by decide +kernel
theorem dX7_mark_107 : decode cX7_mark 107 = .ok (.getfield 27, 3) := by decide +kernel
theorem dX7_mark_110 : decode cX7_mark 110 = .ok (.getfield 138, 3) := by decide +kernel
theorem dX7_mark_113 : decode cX7_mark 113 = .ok (.iload_n 1, 1) := by decide +kernel
theorem dX7_mark_114 : decode cX7_mark 114 = .ok (.iaload, 1) := by decide +kernel
theorem dX7_mark_115 : decode cX7_mark 115 = .ok (.isub, 1) := by decide +kernel
theorem dX7_mark_116 : decode cX7_mark 116 = .ok (.aload_n 0, 1) := by decide +kernel
theorem dX7_mark_117 : decode cX7_mark 117 = .ok (.getfield 27, 3) := by decide +kernel
theorem dX7_mark_120 : decode cX7_mark 120 = .ok (.getfield 135, 3) := by decide +kernel
theorem dX7_mark_123 : decode cX7_mark 123 = .ok (.iload_n 1, 1) := by decide +kernel
theorem dX7_mark_124 : decode cX7_mark 124 = .ok (.iaload, 1) := by decide +kernel
theorem dX7_mark_125 : decode cX7_mark 125 = .ok (.isub, 1) := by decide +kernel
theorem dX7_mark_126 : decode cX7_mark 126 = .ok (.invokestatic 141, 3) := by decide +kernel
theorem dX7_mark_129 : decode cX7_mark 129 = .ok (.ireturn, 1) := by decide +kernel
theorem dX7_mark_130 : decode cX7_mark 130 = .ok (.aload_n 0, 1) := by decide +kernel
theorem dX7_mark_131 : decode cX7_mark 131 = .ok (.getfield 27, 3) := by decide +kernel
theorem dX7_mark_134 : decode cX7_mark 134 = .ok (.invokevirtual 146, 3) := by decide +kernel
theorem dX7_mark_137 : decode cX7_mark 137 = .ok (.ireturn, 1) := by decide +kernel
theorem dX7_mark_138 : decode cX7_mark 138 = .ok (.aload_n 0, 1) := by decide +kernel
theorem dX7_mark_139 : decode cX7_mark 139 = .ok (.getfield 27, 3) := by decide +kernel
theorem dX7_mark_142 : decode cX7_mark 142 = .ok (.iload_n 1, 1) := by decide +kernel
theorem dX7_mark_143 : decode cX7_mark 143 = .ok (.invokevirtual 150, 3) := by decide +kernel
theorem dX7_mark_146 : decode cX7_mark 146 = .ok (.invokestatic 153, 3) := by decide +kernel
theorem dX7_mark_149 : decode cX7_mark 149 = .ok (.ireturn, 1) := by decide +kernel
set_option maxRecDepth 20000 in
theorem ggX7_bears_X2_hasPerson : GoodIn wsX7_bears wsX2_hasPerson := goodIn_r _ [7, 8, 21, 22, 23, 24, 25, 26, 27, 28, 29, 30, 31, 32, 33] (by decide +kernel) (by decide +kernel)
set_option maxRecDepth 20000 in
theorem gX7_bears_X2_hasPerson : GoodIn wsX7_bears (wsV RX7 158 RX2 yX2_hasPerson wsX2_hasPerson) := goodIn_app (goodIn_of _ (by decide +kernel)) ggX7_bears_X2_hasPerson
theorem dX7_bears_0 : decode cX7_bears 0 = .ok (.aload_n 0, 1) := by decide +kernel
theorem dX7_bears_1 : decode cX7_bears 1 = .ok (.getfield 27, 3) := by decide +kernel
theorem dX7_bears_4 : decode cX7_bears 4 = .ok (.iload_n 1, 1) := by decide +kernel
theorem dX7_bears_5 : decode cX7_bears 5 = .ok (.invokevirtual 158, 3) := by decide +kernel
theorem dX7_bears_8 : decode cX7_bears 8 = .ok (.ifCond .eq 15, 3) := by decide +kernel
theorem dX7_bears_11 : decode cX7_bears 11 = .ok (.aload_n 0, 1) := by decide +kernel
theorem dX7_bears_12 : decode cX7_bears 12 = .ok (.getfield 27, 3) := by decide +kernel
theorem dX7_bears_15 : decode cX7_bears 15 = .ok (.getfield 161, 3) := by decide +kernel
theorem dX7_bears_18 : decode cX7_bears 18 = .ok (.iload_n 1, 1) := by decide +kernel
theorem dX7_bears_19 : decode cX7_bears 19 = .ok (.iaload, 1) := by decide +kernel
theorem dX7_bears_20 : decode cX7_bears 20 = .ok (.goto 4, 3) := by decide +kernel
theorem dX7_bears_23 : decode cX7_bears 23 = .ok (.iconst (-1), 1) := by decide +kernel
theorem dX7_bears_24 : decode cX7_bears 24 = .ok (.ireturn, 1) := by decide +kernel
set_option maxRecDepth 20000 in
theorem ggX7_say_X2_hasPerson : GoodIn wsX7_say wsX2_hasPerson := goodIn_r _ [8, 9, 84, 85, 86, 87, 88, 89, 90, 91, 92, 93, 94, 95, 96] (by decide +kernel) (by decide +kernel)
set_option maxRecDepth 20000 in
theorem gX7_say_X2_hasPerson : GoodIn wsX7_say (wsV RX7 158 RX2 yX2_hasPerson wsX2_hasPerson) := goodIn_app (goodIn_of _ (by decide +kernel)) ggX7_say_X2_hasPerson
set_option maxRecDepth 20000 in
theorem ggX7_say_X2_hasSaying : GoodIn wsX7_say wsX2_hasSaying := goodIn_r _ [13, 14, 84, 85, 86, 87, 88, 89, 90, 91, 92, 93, 94, 95, 96] (by decide +kernel) (by decide +kernel)
set_option maxRecDepth 20000 in
theorem gX7_say_X2_hasSaying : GoodIn wsX7_say (wsV RX7 124 RX2 yX2_hasSaying wsX2_hasSaying) := goodIn_app (goodIn_of _ (by decide +kernel)) ggX7_say_X2_hasSaying
set_option maxRecDepth 20000 in
theorem ggX7_say_X2_isAnyOver : GoodIn wsX7_say wsX2_isAnyOver := goodIn_r _ [18, 19, 84, 85, 86, 87, 88, 89, 90, 91, 92, 93, 94, 95, 96] (by decide +kernel) (by decide +kernel)
set_option maxRecDepth 20000 in
theorem gX7_say_X2_isAnyOver : GoodIn wsX7_say (wsV RX7 164 RX2 yX2_isAnyOver wsX2_isAnyOver) := goodIn_app (goodIn_of _ (by decide +kernel)) ggX7_say_X2_isAnyOver
set_option maxRecDepth 20000 in
theorem ggX7_say_X2_deedOf : GoodIn wsX7_say wsX2_deedOf := goodIn_r _ [22] (by decide +kernel) (by decide +kernel)
set_option maxRecDepth 20000 in
theorem gX7_say_X2_deedOf : GoodIn wsX7_say (va_wsS RX7 171 yX2_deedOf wsX2_deedOf) := goodIn_app (goodIn_of _ (by decide +kernel)) ggX7_say_X2_deedOf
set_option maxRecDepth 20000 in
theorem ggX7_say_X2_record : GoodIn wsX7_say wsX2_record := goodIn_r _ [26, 27, 28, 29, 30, 31, 7, 32, 33, 34, 35, 36, 37, 38, 39, 40, 41, 42, 5, 6, 8, 9, 43, 11, 12, 13, 14, 44, 45, 46, 47, 48, 49, 50, 51, 19, 52, 53, 54, 55, 56, 57, 58, 59, 60, 61, 62, 63, 64, 65, 66, 67, 68, 69, 70, 71, 84, 85, 86, 87, 88, 89, 90, 91, 92, 93, 94, 95, 96] (by decide +kernel) (by decide +kernel)
set_option maxRecDepth 20000 in
theorem gX7_say_X2_record : GoodIn wsX7_say (wsV RX7 174 RX2 yX2_record wsX2_record) := goodIn_app (goodIn_of _ (by decide +kernel)) ggX7_say_X2_record
theorem dX7_say_0 : decode cX7_say 0 = .ok (.aload_n 0, 1) := by decide +kernel
theorem dX7_say_1 : decode cX7_say 1 = .ok (.getfield 27, 3) := by decide +kernel
theorem dX7_say_4 : decode cX7_say 4 = .ok (.iload_n 1, 1) := by decide +kernel
theorem dX7_say_5 : decode cX7_say 5 = .ok (.invokevirtual 158, 3) := by decide +kernel
theorem dX7_say_8 : decode cX7_say 8 = .ok (.ifCond .eq 14, 3) := by decide +kernel
theorem dX7_say_11 : decode cX7_say 11 = .ok (.aload_n 0, 1) := by decide +kernel
theorem dX7_say_12 : decode cX7_say 12 = .ok (.getfield 27, 3) := by decide +kernel
theorem dX7_say_15 : decode cX7_say 15 = .ok (.iload_n 2, 1) := by decide +kernel
theorem dX7_say_16 : decode cX7_say 16 = .ok (.invokevirtual 124, 3) := by decide +kernel
theorem dX7_say_19 : decode cX7_say 19 = .ok (.ifCond .ne 5, 3) := by decide +kernel
theorem dX7_say_22 : decode cX7_say 22 = .ok (.iconst (-1), 1) := by decide +kernel
theorem dX7_say_23 : decode cX7_say 23 = .ok (.ireturn, 1) := by decide +kernel
theorem dX7_say_24 : decode cX7_say 24 = .ok (.aload_n 0, 1) := by decide +kernel
theorem dX7_say_25 : decode cX7_say 25 = .ok (.getfield 27, 3) := by decide +kernel
theorem dX7_say_28 : decode cX7_say 28 = .ok (.invokevirtual 164, 3) := by decide +kernel
theorem dX7_say_31 : decode cX7_say 31 = .ok (.ifCond .eq 6, 3) := by decide +kernel
theorem dX7_say_34 : decode cX7_say 34 = .ok (.bipush (-4), 2) := by decide +kernel
theorem dX7_say_36 : decode cX7_say 36 = .ok (.ireturn, 1) := by decide +kernel
theorem dX7_say_37 : decode cX7_say 37 = .ok (.aload_n 0, 1) := by decide +kernel
theorem dX7_say_38 : decode cX7_say 38 = .ok (.getfield 27, 3) := by decide +kernel
theorem dX7_say_41 : decode cX7_say 41 = .ok (.getfield 168, 3) := by decide +kernel
theorem dX7_say_44 : decode cX7_say 44 = .ok (.bipush 40, 2) := by decide +kernel
theorem dX7_say_46 : decode cX7_say 46 = .ok (.if_icmp .lt 6, 3) := by decide +kernel
theorem dX7_say_49 : decode cX7_say 49 = .ok (.bipush (-2), 2) := by decide +kernel
theorem dX7_say_51 : decode cX7_say 51 = .ok (.ireturn, 1) := by decide +kernel
theorem dX7_say_52 : decode cX7_say 52 = .ok (.aload_n 0, 1) := by decide +kernel
theorem dX7_say_53 : decode cX7_say 53 = .ok (.getfield 27, 3) := by decide +kernel
theorem dX7_say_56 : decode cX7_say 56 = .ok (.iload_n 1, 1) := by decide +kernel
theorem dX7_say_57 : decode cX7_say 57 = .ok (.iload_n 2, 1) := by decide +kernel
theorem dX7_say_58 : decode cX7_say 58 = .ok (.invokestatic 171, 3) := by decide +kernel
theorem dX7_say_61 : decode cX7_say 61 = .ok (.invokevirtual 174, 3) := by decide +kernel
theorem dX7_say_64 : decode cX7_say 64 = .ok (.aload_n 0, 1) := by decide +kernel
theorem dX7_say_65 : decode cX7_say 65 = .ok (.getfield 27, 3) := by decide +kernel
theorem dX7_say_68 : decode cX7_say 68 = .ok (.getfield 178, 3) := by decide +kernel
theorem dX7_say_71 : decode cX7_say 71 = .ok (.ireturn, 1) := by decide +kernel
set_option maxRecDepth 20000 in
theorem ggX7_day_X2_isEmpty : GoodIn wsX7_day wsX2_isEmpty := goodIn_r _ [8, 9, 10, 79, 80, 81, 82, 83, 84, 85, 86, 87, 88, 89, 90, 91] (by decide +kernel) (by decide +kernel)
set_option maxRecDepth 20000 in
theorem gX7_day_X2_isEmpty : GoodIn wsX7_day (wsV RX7 181 RX2 yX2_isEmpty wsX2_isEmpty) := goodIn_app (goodIn_of _ (by decide +kernel)) ggX7_day_X2_isEmpty
set_option maxRecDepth 20000 in
theorem ggX7_day_X2_record : GoodIn wsX7_day wsX2_record := goodIn_r _ [14, 15, 16, 17, 18, 19, 7, 20, 21, 22, 23, 24, 25, 26, 27, 28, 29, 30, 31, 32, 33, 10, 34, 35, 36, 37, 9, 38, 39, 40, 41, 42, 43, 44, 45, 46, 47, 48, 49, 50, 51, 52, 53, 54, 55, 56, 57, 58, 59, 60, 61, 62, 63, 64, 65, 66, 79, 80, 81, 82, 83, 84, 85, 86, 87, 88, 89, 90, 91] (by decide +kernel) (by decide +kernel)
set_option maxRecDepth 20000 in
theorem gX7_day_X2_record : GoodIn wsX7_day (wsV RX7 174 RX2 yX2_record wsX2_record) := goodIn_app (goodIn_of _ (by decide +kernel)) ggX7_day_X2_record
theorem dX7_day_0 : decode cX7_day 0 = .ok (.aload_n 0, 1) := by decide +kernel
theorem dX7_day_1 : decode cX7_day 1 = .ok (.getfield 27, 3) := by decide +kernel
theorem dX7_day_4 : decode cX7_day 4 = .ok (.invokevirtual 181, 3) := by decide +kernel
theorem dX7_day_7 : decode cX7_day 7 = .ok (.ifCond .eq 6, 3) := by decide +kernel
theorem dX7_day_10 : decode cX7_day 10 = .ok (.bipush (-4), 2) := by decide +kernel
theorem dX7_day_12 : decode cX7_day 12 = .ok (.ireturn, 1) := by decide +kernel
theorem dX7_day_13 : decode cX7_day 13 = .ok (.aload_n 0, 1) := by decide +kernel
theorem dX7_day_14 : decode cX7_day 14 = .ok (.getfield 27, 3) := by decide +kernel
theorem dX7_day_17 : decode cX7_day 17 = .ok (.getfield 168, 3) := by decide +kernel
theorem dX7_day_20 : decode cX7_day 20 = .ok (.bipush 40, 2) := by decide +kernel
theorem dX7_day_22 : decode cX7_day 22 = .ok (.if_icmp .lt 6, 3) := by decide +kernel
theorem dX7_day_25 : decode cX7_day 25 = .ok (.bipush (-2), 2) := by decide +kernel
theorem dX7_day_27 : decode cX7_day 27 = .ok (.ireturn, 1) := by decide +kernel
theorem dX7_day_28 : decode cX7_day 28 = .ok (.aload_n 0, 1) := by decide +kernel
theorem dX7_day_29 : decode cX7_day 29 = .ok (.getfield 27, 3) := by decide +kernel
theorem dX7_day_32 : decode cX7_day 32 = .ok (.iconst (-1), 1) := by decide +kernel
theorem dX7_day_33 : decode cX7_day 33 = .ok (.invokevirtual 174, 3) := by decide +kernel
theorem dX7_day_36 : decode cX7_day 36 = .ok (.aload_n 0, 1) := by decide +kernel
theorem dX7_day_37 : decode cX7_day 37 = .ok (.getfield 27, 3) := by decide +kernel
theorem dX7_day_40 : decode cX7_day 40 = .ok (.getfield 178, 3) := by decide +kernel
theorem dX7_day_43 : decode cX7_day 43 = .ok (.ireturn, 1) := by decide +kernel
set_option maxRecDepth 20000 in
theorem ggX7_undo_X2_goBackTo : GoodIn wsX7_undo wsX2_goBackTo := goodIn_r _ [7, 8, 9, 10, 11, 12, 6, 13, 14, 15, 16, 17, 18, 19, 20, 21, 22, 23, 24, 25, 26, 27, 28, 29, 30, 31, 32, 33, 34, 35, 36, 37, 38, 39, 40, 41, 42, 43, 44, 45, 46, 47, 48, 49, 50, 51, 52, 53, 54, 55, 56, 57, 58, 59, 60, 61, 62, 63, 64, 65, 66, 67, 68, 69, 82, 83, 84, 85, 86, 87, 88, 89, 90, 91, 92, 93, 94] (by decide +kernel) (by decide +kernel)
set_option maxRecDepth 20000 in
theorem gX7_undo_X2_goBackTo : GoodIn wsX7_undo (wsV RX7 184 RX2 yX2_goBackTo wsX2_goBackTo) := goodIn_app (goodIn_of _ (by decide +kernel)) ggX7_undo_X2_goBackTo
theorem dX7_undo_0 : decode cX7_undo 0 = .ok (.iload_n 1, 1) := by decide +kernel
theorem dX7_undo_1 : decode cX7_undo 1 = .ok (.ifCond .lt 14, 3) := by decide +kernel
theorem dX7_undo_4 : decode cX7_undo 4 = .ok (.iload_n 1, 1) := by decide +kernel
theorem dX7_undo_5 : decode cX7_undo 5 = .ok (.aload_n 0, 1) := by decide +kernel
theorem dX7_undo_6 : decode cX7_undo 6 = .ok (.getfield 27, 3) := by decide +kernel
theorem dX7_undo_9 : decode cX7_undo 9 = .ok (.getfield 168, 3) := by decide +kernel
theorem dX7_undo_12 : decode cX7_undo 12 = .ok (.if_icmp .le 5, 3) := by decide +kernel
theorem dX7_undo_15 : decode cX7_undo 15 = .ok (.iconst (-1), 1) := by decide +kernel
theorem dX7_undo_16 : decode cX7_undo 16 = .ok (.ireturn, 1) := by decide +kernel
theorem dX7_undo_17 : decode cX7_undo 17 = .ok (.aload_n 0, 1) := by decide +kernel
theorem dX7_undo_18 : decode cX7_undo 18 = .ok (.getfield 27, 3) := by decide +kernel
theorem dX7_undo_21 : decode cX7_undo 21 = .ok (.getfield 168, 3) := by decide +kernel
theorem dX7_undo_24 : decode cX7_undo 24 = .ok (.iload_n 1, 1) := by decide +kernel
theorem dX7_undo_25 : decode cX7_undo 25 = .ok (.isub, 1) := by decide +kernel
theorem dX7_undo_26 : decode cX7_undo 26 = .ok (.istore_n 2, 1) := by decide +kernel
theorem dX7_undo_27 : decode cX7_undo 27 = .ok (.aload_n 0, 1) := by decide +kernel
theorem dX7_undo_28 : decode cX7_undo 28 = .ok (.getfield 27, 3) := by decide +kernel
theorem dX7_undo_31 : decode cX7_undo 31 = .ok (.iload_n 1, 1) := by decide +kernel
theorem dX7_undo_32 : decode cX7_undo 32 = .ok (.invokevirtual 184, 3) := by decide +kernel
theorem dX7_undo_35 : decode cX7_undo 35 = .ok (.iload_n 2, 1) := by decide +kernel
theorem dX7_undo_36 : decode cX7_undo 36 = .ok (.ireturn, 1) := by decide +kernel
set_option maxRecDepth 20000 in
theorem ggX7_keep_X5_isNumber : GoodIn wsX7_keep wsX5_isNumber := goodIn_r _ [15, 16, 49, 50] (by decide +kernel) (by decide +kernel)
set_option maxRecDepth 20000 in
theorem gX7_keep_X5_isNumber : GoodIn wsX7_keep (wsV RX7 70 RX5 yX5_isNumber wsX5_isNumber) := goodIn_app (goodIn_of _ (by decide +kernel)) ggX7_keep_X5_isNumber
set_option maxRecDepth 20000 in
theorem ggX7_keep_X2_isEmpty : GoodIn wsX7_keep wsX2_isEmpty := goodIn_r _ [21, 22, 23, 36, 37, 38, 39, 40, 41, 42, 43, 44, 45, 46, 47, 48] (by decide +kernel) (by decide +kernel)
set_option maxRecDepth 20000 in
theorem gX7_keep_X2_isEmpty : GoodIn wsX7_keep (wsV RX7 181 RX2 yX2_isEmpty wsX2_isEmpty) := goodIn_app (goodIn_of _ (by decide +kernel)) ggX7_keep_X2_isEmpty
theorem dX7_keep_0 : decode cX7_keep 0 = .ok (.aload_n 0, 1) := by decide +kernel
theorem dX7_keep_1 : decode cX7_keep 1 = .ok (.getfield 21, 3) := by decide +kernel
theorem dX7_keep_4 : decode cX7_keep 4 = .ok (.iload_n 1, 1) := by decide +kernel
theorem dX7_keep_5 : decode cX7_keep 5 = .ok (.invokevirtual 70, 3) := by decide +kernel
theorem dX7_keep_8 : decode cX7_keep 8 = .ok (.ifCond .ne 5, 3) := by decide +kernel
theorem dX7_keep_11 : decode cX7_keep 11 = .ok (.iconst (-1), 1) := by decide +kernel
theorem dX7_keep_12 : decode cX7_keep 12 = .ok (.ireturn, 1) := by decide +kernel
theorem dX7_keep_13 : decode cX7_keep 13 = .ok (.aload_n 0, 1) := by decide +kernel
theorem dX7_keep_14 : decode cX7_keep 14 = .ok (.getfield 27, 3) := by decide +kernel
theorem dX7_keep_17 : decode cX7_keep 17 = .ok (.invokevirtual 181, 3) := by decide +kernel
theorem dX7_keep_20 : decode cX7_keep 20 = .ok (.ifCond .eq 6, 3) := by decide +kernel
theorem dX7_keep_23 : decode cX7_keep 23 = .ok (.bipush (-4), 2) := by decide +kernel
theorem dX7_keep_25 : decode cX7_keep 25 = .ok (.ireturn, 1) := by decide +kernel
theorem dX7_keep_26 : decode cX7_keep 26 = .ok (.aload_n 0, 1) := by decide +kernel
theorem dX7_keep_27 : decode cX7_keep 27 = .ok (.getfield 27, 3) := by decide +kernel
theorem dX7_keep_30 : decode cX7_keep 30 = .ok (.getfield 187, 3) := by decide +kernel
theorem dX7_keep_33 : decode cX7_keep 33 = .ok (.iconst 0, 1) := by decide +kernel
theorem dX7_keep_34 : decode cX7_keep 34 = .ok (.aload_n 0, 1) := by decide +kernel
theorem dX7_keep_35 : decode cX7_keep 35 = .ok (.getfield 21, 3) := by decide +kernel
theorem dX7_keep_38 : decode cX7_keep 38 = .ok (.getfield 86, 3) := by decide +kernel
theorem dX7_keep_41 : decode cX7_keep 41 = .ok (.iload_n 1, 1) := by decide +kernel
theorem dX7_keep_42 : decode cX7_keep 42 = .ok (.aaload, 1) := by decide +kernel
theorem dX7_keep_43 : decode cX7_keep 43 = .ok (.iconst 0, 1) := by decide +kernel
theorem dX7_keep_44 : decode cX7_keep 44 = .ok (.aload_n 0, 1) := by decide +kernel
theorem dX7_keep_45 : decode cX7_keep 45 = .ok (.getfield 27, 3) := by decide +kernel
theorem dX7_keep_48 : decode cX7_keep 48 = .ok (.getfield 168, 3) := by decide +kernel
theorem dX7_keep_51 : decode cX7_keep 51 = .ok (.invokestatic 104, 3) := by decide +kernel
theorem dX7_keep_54 : decode cX7_keep 54 = .ok (.aload_n 0, 1) := by decide +kernel
theorem dX7_keep_55 : decode cX7_keep 55 = .ok (.getfield 21, 3) := by decide +kernel
theorem dX7_keep_58 : decode cX7_keep 58 = .ok (.getfield 94, 3) := by decide +kernel
theorem dX7_keep_61 : decode cX7_keep 61 = .ok (.iload_n 1, 1) := by decide +kernel
theorem dX7_keep_62 : decode cX7_keep 62 = .ok (.aload_n 0, 1) := by decide +kernel
theorem dX7_keep_63 : decode cX7_keep 63 = .ok (.getfield 27, 3) := by decide +kernel
theorem dX7_keep_66 : decode cX7_keep 66 = .ok (.getfield 168, 3) := by decide +kernel
theorem dX7_keep_69 : decode cX7_keep 69 = .ok (.iastore, 1) := by decide +kernel
theorem dX7_keep_70 : decode cX7_keep 70 = .ok (.aload_n 0, 1) := by decide +kernel
theorem dX7_keep_71 : decode cX7_keep 71 = .ok (.getfield 27, 3) := by decide +kernel
theorem dX7_keep_74 : decode cX7_keep 74 = .ok (.getfield 168, 3) := by decide +kernel
theorem dX7_keep_77 : decode cX7_keep 77 = .ok (.ireturn, 1) := by decide +kernel
set_option maxRecDepth 20000 in
theorem ggX7_on_X7_refusalOfRow : GoodIn wsX7_on wsX7_refusalOfRow := goodIn_r _ [15, 16, 17, 18, 19, 20, 21, 22, 23, 24, 25, 26, 27, 28, 29, 14, 30, 31, 32, 112, 113, 100, 101, 102, 103, 104, 105, 106, 107, 108, 109, 110, 111] (by decide +kernel) (by decide +kernel)
set_option maxRecDepth 20000 in
theorem gX7_on_X7_refusalOfRow : GoodIn wsX7_on (wsV RX7 90 RX7 yX7_refusalOfRow wsX7_refusalOfRow) := goodIn_app (goodIn_of _ (by decide +kernel)) ggX7_on_X7_refusalOfRow
set_option maxRecDepth 20000 in
theorem ggX7_on_X2_goBackTo : GoodIn wsX7_on wsX2_goBackTo := goodIn_r _ [37, 38, 39, 40, 41, 42, 36, 43, 44, 45, 46, 47, 48, 49, 50, 51, 52, 53, 54, 55, 56, 57, 58, 59, 60, 61, 62, 63, 64, 65, 66, 67, 68, 69, 70, 71, 72, 73, 74, 75, 76, 77, 78, 79, 80, 81, 82, 83, 84, 85, 86, 87, 88, 89, 90, 91, 92, 93, 94, 95, 96, 97, 98, 99, 114, 115, 116, 117, 118, 119, 120, 121, 122, 123, 124, 125, 126] (by decide +kernel) (by decide +kernel)
set_option maxRecDepth 20000 in
theorem gX7_on_X2_goBackTo : GoodIn wsX7_on (wsV RX7 184 RX2 yX2_goBackTo wsX2_goBackTo) := goodIn_app (goodIn_of _ (by decide +kernel)) ggX7_on_X2_goBackTo
theorem dX7_on_0 : decode cX7_on 0 = .ok (.aload_n 0, 1) := by decide +kernel
theorem dX7_on_1 : decode cX7_on 1 = .ok (.aload_n 0, 1) := by decide +kernel
theorem dX7_on_2 : decode cX7_on 2 = .ok (.getfield 21, 3) := by decide +kernel
theorem dX7_on_5 : decode cX7_on 5 = .ok (.iload_n 1, 1) := by decide +kernel
theorem dX7_on_6 : decode cX7_on 6 = .ok (.invokevirtual 90, 3) := by decide +kernel
theorem dX7_on_9 : decode cX7_on 9 = .ok (.istore_n 2, 1) := by decide +kernel
theorem dX7_on_10 : decode cX7_on 10 = .ok (.iload_n 2, 1) := by decide +kernel
theorem dX7_on_11 : decode cX7_on 11 = .ok (.ifCond .eq 5, 3) := by decide +kernel
theorem dX7_on_14 : decode cX7_on 14 = .ok (.iload_n 2, 1) := by decide +kernel
theorem dX7_on_15 : decode cX7_on 15 = .ok (.ireturn, 1) := by decide +kernel
theorem dX7_on_16 : decode cX7_on 16 = .ok (.aload_n 0, 1) := by decide +kernel
theorem dX7_on_17 : decode cX7_on 17 = .ok (.getfield 21, 3) := by decide +kernel
theorem dX7_on_20 : decode cX7_on 20 = .ok (.getfield 86, 3) := by decide +kernel
theorem dX7_on_23 : decode cX7_on 23 = .ok (.iload_n 1, 1) := by decide +kernel
theorem dX7_on_24 : decode cX7_on 24 = .ok (.aaload, 1) := by decide +kernel
theorem dX7_on_25 : decode cX7_on 25 = .ok (.iconst 0, 1) := by decide +kernel
theorem dX7_on_26 : decode cX7_on 26 = .ok (.aload_n 0, 1) := by decide +kernel
theorem dX7_on_27 : decode cX7_on 27 = .ok (.getfield 27, 3) := by decide +kernel
theorem dX7_on_30 : decode cX7_on 30 = .ok (.getfield 187, 3) := by decide +kernel
theorem dX7_on_33 : decode cX7_on 33 = .ok (.iconst 0, 1) := by decide +kernel
theorem dX7_on_34 : decode cX7_on 34 = .ok (.aload_n 0, 1) := by decide +kernel
theorem dX7_on_35 : decode cX7_on 35 = .ok (.getfield 21, 3) := by decide +kernel
theorem dX7_on_38 : decode cX7_on 38 = .ok (.getfield 94, 3) := by decide +kernel
theorem dX7_on_41 : decode cX7_on 41 = .ok (.iload_n 1, 1) := by decide +kernel
theorem dX7_on_42 : decode cX7_on 42 = .ok (.iaload, 1) := by decide +kernel
theorem dX7_on_43 : decode cX7_on 43 = .ok (.invokestatic 104, 3) := by decide +kernel
theorem dX7_on_46 : decode cX7_on 46 = .ok (.aload_n 0, 1) := by decide +kernel
theorem dX7_on_47 : decode cX7_on 47 = .ok (.getfield 27, 3) := by decide +kernel
