theorem dX2_goBackTo_1 : decode cX2_goBackTo 1 = .ok (.invokevirtual 58, 3) := by decide +kernel
theorem dX2_goBackTo_4 : decode cX2_goBackTo 4 = .ok (.iconst 0, 1) := by decide +kernel
theorem dX2_goBackTo_5 : decode cX2_goBackTo 5 = .ok (.istore_n 2, 1) := by decide +kernel
theorem dX2_goBackTo_6 : decode cX2_goBackTo 6 = .ok (.iload_n 2, 1) := by decide +kernel
theorem dX2_goBackTo_7 : decode cX2_goBackTo 7 = .ok (.iload_n 1, 1) := by decide +kernel
theorem dX2_goBackTo_8 : decode cX2_goBackTo 8 = .ok (.if_icmp .ge 35, 3) := by decide +kernel
theorem dX2_goBackTo_11 : decode cX2_goBackTo 11 = .ok (.iload_n 2, 1) := by decide +kernel
theorem dX2_goBackTo_12 : decode cX2_goBackTo 12 = .ok (.bipush 40, 2) := by decide +kernel
theorem dX2_goBackTo_14 : decode cX2_goBackTo 14 = .ok (.if_icmp .ge 29, 3) := by decide +kernel
theorem dX2_goBackTo_17 : decode cX2_goBackTo 17 = .ok (.aload_n 0, 1) := by decide +kernel
theorem dX2_goBackTo_18 : decode cX2_goBackTo 18 = .ok (.aload_n 0, 1) := by decide +kernel
theorem dX2_goBackTo_19 : decode cX2_goBackTo 19 = .ok (.getfield 49, 3) := by decide +kernel
theorem dX2_goBackTo_22 : decode cX2_goBackTo 22 = .ok (.iload_n 2, 1) := by decide +kernel
theorem dX2_goBackTo_23 : decode cX2_goBackTo 23 = .ok (.iaload, 1) := by decide +kernel
theorem dX2_goBackTo_24 : decode cX2_goBackTo 24 = .ok (.invokevirtual 123, 3) := by decide +kernel
theorem dX2_goBackTo_27 : decode cX2_goBackTo 27 = .ok (.aload_n 0, 1) := by decide +kernel
theorem dX2_goBackTo_28 : decode cX2_goBackTo 28 = .ok (.dup, 1) := by decide +kernel
theorem dX2_goBackTo_29 : decode cX2_goBackTo 29 = .ok (.getfield 46, 3) := by decide +kernel
theorem dX2_goBackTo_32 : decode cX2_goBackTo 32 = .ok (.iconst 1, 1) := by decide +kernel
theorem dX2_goBackTo_33 : decode cX2_goBackTo 33 = .ok (.iadd, 1) := by decide +kernel
theorem dX2_goBackTo_34 : decode cX2_goBackTo 34 = .ok (.putfield 46, 3) := by decide +kernel
theorem dX2_goBackTo_37 : decode cX2_goBackTo 37 = .ok (.iinc 2 1, 3) := by decide +kernel
theorem dX2_goBackTo_40 : decode cX2_goBackTo 40 = .ok (.goto (-34), 3) := by decide +kernel
theorem dX2_goBackTo_43 : decode cX2_goBackTo 43 = .ok (.return_, 1) := by decide +kernel
theorem dX2_daysGone_0 : decode cX2_daysGone 0 = .ok (.iconst 0, 1) := by decide +kernel
theorem dX2_daysGone_1 : decode cX2_daysGone 1 = .ok (.istore_n 1, 1) := by decide +kernel
theorem dX2_daysGone_2 : decode cX2_daysGone 2 = .ok (.iconst 0, 1) := by decide +kernel
theorem dX2_daysGone_3 : decode cX2_daysGone 3 = .ok (.istore_n 2, 1) := by decide +kernel
theorem dX2_daysGone_4 : decode cX2_daysGone 4 = .ok (.iload_n 2, 1) := by decide +kernel
theorem dX2_daysGone_5 : decode cX2_daysGone 5 = .ok (.aload_n 0, 1) := by decide +kernel
theorem dX2_daysGone_6 : decode cX2_daysGone 6 = .ok (.getfield 46, 3) := by decide +kernel
theorem dX2_daysGone_9 : decode cX2_daysGone 9 = .ok (.if_icmp .ge 22, 3) := by decide +kernel
theorem dX2_daysGone_12 : decode cX2_daysGone 12 = .ok (.aload_n 0, 1) := by decide +kernel
theorem dX2_daysGone_13 : decode cX2_daysGone 13 = .ok (.getfield 49, 3) := by decide +kernel
theorem dX2_daysGone_16 : decode cX2_daysGone 16 = .ok (.iload_n 2, 1) := by decide +kernel
theorem dX2_daysGone_17 : decode cX2_daysGone 17 = .ok (.iaload, 1) := by decide +kernel
theorem dX2_daysGone_18 : decode cX2_daysGone 18 = .ok (.iconst (-1), 1) := by decide +kernel
theorem dX2_daysGone_19 : decode cX2_daysGone 19 = .ok (.if_icmp .ne 6, 3) := by decide +kernel
theorem dX2_daysGone_22 : decode cX2_daysGone 22 = .ok (.iinc 1 1, 3) := by decide +kernel
theorem dX2_daysGone_25 : decode cX2_daysGone 25 = .ok (.iinc 2 1, 3) := by decide +kernel
theorem dX2_daysGone_28 : decode cX2_daysGone 28 = .ok (.goto (-24), 3) := by decide +kernel
theorem dX2_daysGone_31 : decode cX2_daysGone 31 = .ok (.iload_n 1, 1) := by decide +kernel
theorem dX2_daysGone_32 : decode cX2_daysGone 32 = .ok (.ireturn, 1) := by decide +kernel
theorem dX3_hasRooms_0 : decode cX3_hasRooms 0 = .ok (.iload_n 0, 1) := by decide +kernel
theorem dX3_hasRooms_1 : decode cX3_hasRooms 1 = .ok (.ifCond .lt 23, 3) := by decide +kernel
theorem dX3_hasRooms_4 : decode cX3_hasRooms 4 = .ok (.iload_n 0, 1) := by decide +kernel
theorem dX3_hasRooms_5 : decode cX3_hasRooms 5 = .ok (.bipush 12, 2) := by decide +kernel
theorem dX3_hasRooms_7 : decode cX3_hasRooms 7 = .ok (.if_icmp .ge 17, 3) := by decide +kernel
theorem dX3_hasRooms_10 : decode cX3_hasRooms 10 = .ok (.iload_n 1, 1) := by decide +kernel
theorem dX3_hasRooms_11 : decode cX3_hasRooms 11 = .ok (.ifCond .lt 13, 3) := by decide +kernel
theorem dX3_hasRooms_14 : decode cX3_hasRooms 14 = .ok (.iload_n 1, 1) := by decide +kernel
theorem dX3_hasRooms_15 : decode cX3_hasRooms 15 = .ok (.bipush 12, 2) := by decide +kernel
theorem dX3_hasRooms_17 : decode cX3_hasRooms 17 = .ok (.if_icmp .ge 7, 3) := by decide +kernel
theorem dX3_hasRooms_20 : decode cX3_hasRooms 20 = .ok (.iconst 1, 1) := by decide +kernel
theorem dX3_hasRooms_21 : decode cX3_hasRooms 21 = .ok (.goto 4, 3) := by decide +kernel
theorem dX3_hasRooms_24 : decode cX3_hasRooms 24 = .ok (.iconst 0, 1) := by decide +kernel
theorem dX3_hasRooms_25 : decode cX3_hasRooms 25 = .ok (.ireturn, 1) := by decide +kernel
theorem dX3_withBeside_0 : decode cX3_withBeside 0 = .ok (.iload_n 0, 1) := by decide +kernel
theorem dX3_withBeside_1 : decode cX3_withBeside 1 = .ok (.iconst 4, 1) := by decide +kernel
theorem dX3_withBeside_2 : decode cX3_withBeside 2 = .ok (.ishl, 1) := by decide +kernel
theorem dX3_withBeside_3 : decode cX3_withBeside 3 = .ok (.iload_n 0, 1) := by decide +kernel
theorem dX3_withBeside_4 : decode cX3_withBeside 4 = .ok (.iconst 4, 1) := by decide +kernel
theorem dX3_withBeside_5 : decode cX3_withBeside 5 = .ok (.ishr, 1) := by decide +kernel
theorem dX3_withBeside_6 : decode cX3_withBeside 6 = .ok (.ior, 1) := by decide +kernel
theorem dX3_withBeside_7 : decode cX3_withBeside 7 = .ok (.istore_n 1, 1) := by decide +kernel
theorem dX3_withBeside_8 : decode cX3_withBeside 8 = .ok (.iload_n 0, 1) := by decide +kernel
theorem dX3_withBeside_9 : decode cX3_withBeside 9 = .ok (.sipush (-2185), 3) := by decide +kernel
theorem dX3_withBeside_12 : decode cX3_withBeside 12 = .ok (.iand, 1) := by decide +kernel
theorem dX3_withBeside_13 : decode cX3_withBeside 13 = .ok (.iconst 1, 1) := by decide +kernel
theorem dX3_withBeside_14 : decode cX3_withBeside 14 = .ok (.ishl, 1) := by decide +kernel
theorem dX3_withBeside_15 : decode cX3_withBeside 15 = .ok (.iload_n 0, 1) := by decide +kernel
theorem dX3_withBeside_16 : decode cX3_withBeside 16 = .ok (.sipush (-274), 3) := by decide +kernel
theorem dX3_withBeside_19 : decode cX3_withBeside 19 = .ok (.iand, 1) := by decide +kernel
theorem dX3_withBeside_20 : decode cX3_withBeside 20 = .ok (.iconst 1, 1) := by decide +kernel
theorem dX3_withBeside_21 : decode cX3_withBeside 21 = .ok (.ishr, 1) := by decide +kernel
theorem dX3_withBeside_22 : decode cX3_withBeside 22 = .ok (.ior, 1) := by decide +kernel
theorem dX3_withBeside_23 : decode cX3_withBeside 23 = .ok (.istore_n 2, 1) := by decide +kernel
theorem dX3_withBeside_24 : decode cX3_withBeside 24 = .ok (.iload_n 0, 1) := by decide +kernel
theorem dX3_withBeside_25 : decode cX3_withBeside 25 = .ok (.iload_n 1, 1) := by decide +kernel
theorem dX3_withBeside_26 : decode cX3_withBeside 26 = .ok (.ior, 1) := by decide +kernel
theorem dX3_withBeside_27 : decode cX3_withBeside 27 = .ok (.iload_n 2, 1) := by decide +kernel
theorem dX3_withBeside_28 : decode cX3_withBeside 28 = .ok (.ior, 1) := by decide +kernel
theorem dX3_withBeside_29 : decode cX3_withBeside 29 = .ok (.sipush 4095, 3) := by decide +kernel
theorem dX3_withBeside_32 : decode cX3_withBeside 32 = .ok (.iand, 1) := by decide +kernel
theorem dX3_withBeside_33 : decode cX3_withBeside 33 = .ok (.ireturn, 1) := by decide +kernel
set_option maxRecDepth 20000 in
theorem ggX3_steps_X3_withBeside : GoodIn wsX3_steps wsX3_withBeside := goodIn_r _ [4] (by decide +kernel) (by decide +kernel)
set_option maxRecDepth 20000 in
theorem gX3_steps_X3_withBeside : GoodIn wsX3_steps (va_wsS RX3 11 yX3_withBeside wsX3_withBeside) := goodIn_app (goodIn_of _ (by decide +kernel)) ggX3_steps_X3_withBeside
theorem dX3_steps_0 : decode cX3_steps 0 = .ok (.iconst 1, 1) := by decide +kernel
theorem dX3_steps_1 : decode cX3_steps 1 = .ok (.iload_n 0, 1) := by decide +kernel
theorem dX3_steps_2 : decode cX3_steps 2 = .ok (.ishl, 1) := by decide +kernel
theorem dX3_steps_3 : decode cX3_steps 3 = .ok (.iload_n 2, 1) := by decide +kernel
theorem dX3_steps_4 : decode cX3_steps 4 = .ok (.iconst (-1), 1) := by decide +kernel
theorem dX3_steps_5 : decode cX3_steps 5 = .ok (.ixor, 1) := by decide +kernel
theorem dX3_steps_6 : decode cX3_steps 6 = .ok (.iand, 1) := by decide +kernel
theorem dX3_steps_7 : decode cX3_steps 7 = .ok (.istore_n 3, 1) := by decide +kernel
theorem dX3_steps_8 : decode cX3_steps 8 = .ok (.iconst 0, 1) := by decide +kernel
theorem dX3_steps_9 : decode cX3_steps 9 = .ok (.istore 4, 2) := by decide +kernel
theorem dX3_steps_11 : decode cX3_steps 11 = .ok (.iload 4, 2) := by decide +kernel
theorem dX3_steps_13 : decode cX3_steps 13 = .ok (.bipush 12, 2) := by decide +kernel
theorem dX3_steps_15 : decode cX3_steps 15 = .ok (.if_icmp .ge 29, 3) := by decide +kernel
theorem dX3_steps_18 : decode cX3_steps 18 = .ok (.iload_n 3, 1) := by decide +kernel
theorem dX3_steps_19 : decode cX3_steps 19 = .ok (.iconst 1, 1) := by decide +kernel
theorem dX3_steps_20 : decode cX3_steps 20 = .ok (.iload_n 1, 1) := by decide +kernel
theorem dX3_steps_21 : decode cX3_steps 21 = .ok (.ishl, 1) := by decide +kernel
theorem dX3_steps_22 : decode cX3_steps 22 = .ok (.iand, 1) := by decide +kernel
theorem dX3_steps_23 : decode cX3_steps 23 = .ok (.ifCond .eq 6, 3) := by decide +kernel
theorem dX3_steps_26 : decode cX3_steps 26 = .ok (.iload 4, 2) := by decide +kernel
theorem dX3_steps_28 : decode cX3_steps 28 = .ok (.ireturn, 1) := by decide +kernel
theorem dX3_steps_29 : decode cX3_steps 29 = .ok (.iload_n 3, 1) := by decide +kernel
theorem dX3_steps_30 : decode cX3_steps 30 = .ok (.invokestatic 11, 3) := by decide +kernel
theorem dX3_steps_33 : decode cX3_steps 33 = .ok (.iload_n 2, 1) := by decide +kernel
theorem dX3_steps_34 : decode cX3_steps 34 = .ok (.iconst (-1), 1) := by decide +kernel
theorem dX3_steps_35 : decode cX3_steps 35 = .ok (.ixor, 1) := by decide +kernel
theorem dX3_steps_36 : decode cX3_steps 36 = .ok (.iand, 1) := by decide +kernel
theorem dX3_steps_37 : decode cX3_steps 37 = .ok (.istore_n 3, 1) := by decide +kernel
theorem dX3_steps_38 : decode cX3_steps 38 = .ok (.iinc 4 1, 3) := by decide +kernel
theorem dX3_steps_41 : decode cX3_steps 41 = .ok (.goto (-30), 3) := by decide +kernel
theorem dX3_steps_44 : decode cX3_steps 44 = .ok (.bipush (-9), 2) := by decide +kernel
theorem dX3_steps_46 : decode cX3_steps 46 = .ok (.ireturn, 1) := by decide +kernel
set_option maxRecDepth 20000 in
theorem ggX3_onEachWay_X3_steps : GoodIn wsX3_onEachWay wsX3_steps := goodIn_r _ [4, 5, 6, 3, 7] (by decide +kernel) (by decide +kernel)
set_option maxRecDepth 20000 in
theorem gX3_onEachWay_X3_steps : GoodIn wsX3_onEachWay (va_wsS RX3 15 yX3_steps wsX3_steps) := goodIn_app (goodIn_of _ (by decide +kernel)) ggX3_onEachWay_X3_steps
theorem dX3_onEachWay_0 : decode cX3_onEachWay 0 = .ok (.iload_n 0, 1) := by decide +kernel
theorem dX3_onEachWay_1 : decode cX3_onEachWay 1 = .ok (.iload_n 1, 1) := by decide +kernel
theorem dX3_onEachWay_2 : decode cX3_onEachWay 2 = .ok (.iload_n 2, 1) := by decide +kernel
theorem dX3_onEachWay_3 : decode cX3_onEachWay 3 = .ok (.invokestatic 15, 3) := by decide +kernel
theorem dX3_onEachWay_6 : decode cX3_onEachWay 6 = .ok (.bipush (-9), 2) := by decide +kernel
theorem dX3_onEachWay_8 : decode cX3_onEachWay 8 = .ok (.if_icmp .ne 5, 3) := by decide +kernel
theorem dX3_onEachWay_11 : decode cX3_onEachWay 11 = .ok (.iconst 0, 1) := by decide +kernel
theorem dX3_onEachWay_12 : decode cX3_onEachWay 12 = .ok (.ireturn, 1) := by decide +kernel
theorem dX3_onEachWay_13 : decode cX3_onEachWay 13 = .ok (.iconst 0, 1) := by decide +kernel
theorem dX3_onEachWay_14 : decode cX3_onEachWay 14 = .ok (.istore_n 3, 1) := by decide +kernel
theorem dX3_onEachWay_15 : decode cX3_onEachWay 15 = .ok (.iconst 0, 1) := by decide +kernel
theorem dX3_onEachWay_16 : decode cX3_onEachWay 16 = .ok (.istore 4, 2) := by decide +kernel
theorem dX3_onEachWay_18 : decode cX3_onEachWay 18 = .ok (.iload 4, 2) := by decide +kernel
theorem dX3_onEachWay_20 : decode cX3_onEachWay 20 = .ok (.bipush 12, 2) := by decide +kernel
theorem dX3_onEachWay_22 : decode cX3_onEachWay 22 = .ok (.if_icmp .ge 32, 3) := by decide +kernel
theorem dX3_onEachWay_25 : decode cX3_onEachWay 25 = .ok (.iload_n 0, 1) := by decide +kernel
theorem dX3_onEachWay_26 : decode cX3_onEachWay 26 = .ok (.iload_n 1, 1) := by decide +kernel
theorem dX3_onEachWay_27 : decode cX3_onEachWay 27 = .ok (.iload_n 2, 1) := by decide +kernel
theorem dX3_onEachWay_28 : decode cX3_onEachWay 28 = .ok (.iconst 1, 1) := by decide +kernel
theorem dX3_onEachWay_29 : decode cX3_onEachWay 29 = .ok (.iload 4, 2) := by decide +kernel
theorem dX3_onEachWay_31 : decode cX3_onEachWay 31 = .ok (.ishl, 1) := by decide +kernel
theorem dX3_onEachWay_32 : decode cX3_onEachWay 32 = .ok (.ior, 1) := by decide +kernel
theorem dX3_onEachWay_33 : decode cX3_onEachWay 33 = .ok (.invokestatic 15, 3) := by decide +kernel
theorem dX3_onEachWay_36 : decode cX3_onEachWay 36 = .ok (.bipush (-9), 2) := by decide +kernel
theorem dX3_onEachWay_38 : decode cX3_onEachWay 38 = .ok (.if_icmp .ne 10, 3) := by decide +kernel
theorem dX3_onEachWay_41 : decode cX3_onEachWay 41 = .ok (.iload_n 3, 1) := by decide +kernel
theorem dX3_onEachWay_42 : decode cX3_onEachWay 42 = .ok (.iconst 1, 1) := by decide +kernel
theorem dX3_onEachWay_43 : decode cX3_onEachWay 43 = .ok (.iload 4, 2) := by decide +kernel
theorem dX3_onEachWay_45 : decode cX3_onEachWay 45 = .ok (.ishl, 1) := by decide +kernel
theorem dX3_onEachWay_46 : decode cX3_onEachWay 46 = .ok (.ior, 1) := by decide +kernel
theorem dX3_onEachWay_47 : decode cX3_onEachWay 47 = .ok (.istore_n 3, 1) := by decide +kernel
theorem dX3_onEachWay_48 : decode cX3_onEachWay 48 = .ok (.iinc 4 1, 3) := by decide +kernel
theorem dX3_onEachWay_51 : decode cX3_onEachWay 51 = .ok (.goto (-33), 3) := by decide +kernel
theorem dX3_onEachWay_54 : decode cX3_onEachWay 54 = .ok (.iload_n 3, 1) := by decide +kernel
theorem dX3_onEachWay_55 : decode cX3_onEachWay 55 = .ok (.ireturn, 1) := by decide +kernel
set_option maxRecDepth 20000 in
theorem ggX4_init_X2_init : GoodIn wsX4_init wsX2_init := goodIn_r _ [12, 13, 2, 3, 14, 8, 15, 16, 17, 18, 19, 20, 21, 22, 23, 24, 25, 26, 27, 28, 29, 30, 31, 32, 33, 34, 35, 36, 37, 38, 39] (by decide +kernel) (by decide +kernel)
set_option maxRecDepth 20000 in
theorem gX4_init_X2_init_n11 : GoodIn wsX4_init (wsX2_init) := ggX4_init_X2_init
theorem dX4_init_0 : decode cX4_init 0 = .ok (.aload_n 0, 1) := by decide +kernel
theorem dX4_init_1 : decode cX4_init 1 = .ok (.invokespecial 3, 3) := by decide +kernel
theorem dX4_init_4 : decode cX4_init 4 = .ok (.aload_n 0, 1) := by decide +kernel
theorem dX4_init_5 : decode cX4_init 5 = .ok (.new 9, 3) := by decide +kernel
theorem dX4_init_8 : decode cX4_init 8 = .ok (.dup, 1) := by decide +kernel
theorem dX4_init_9 : decode cX4_init 9 = .ok (.invokespecial 11, 3) := by decide +kernel
theorem dX4_init_12 : decode cX4_init 12 = .ok (.putfield 12, 3) := by decide +kernel
theorem dX4_init_15 : decode cX4_init 15 = .ok (.aload_n 0, 1) := by decide +kernel
theorem dX4_init_16 : decode cX4_init 16 = .ok (.iconst 0, 1) := by decide +kernel
theorem dX4_init_17 : decode cX4_init 17 = .ok (.newarray .int, 2) := by decide +kernel
theorem dX4_init_19 : decode cX4_init 19 = .ok (.putfield 18, 3) := by decide +kernel
theorem dX4_init_22 : decode cX4_init 22 = .ok (.aload_n 0, 1) := by decide +kernel
theorem dX4_init_23 : decode cX4_init 23 = .ok (.iconst 0, 1) := by decide +kernel
theorem dX4_init_24 : decode cX4_init 24 = .ok (.putfield 22, 3) := by decide +kernel
theorem dX4_init_27 : decode cX4_init 27 = .ok (.return_, 1) := by decide +kernel
set_option maxRecDepth 20000 in
theorem ggX4_faultOf_X2_clear : GoodIn wsX4_faultOf wsX2_clear := goodIn_r _ [13, 14, 15, 16, 57, 58, 59, 60, 61, 62, 63, 64, 65, 66, 67, 68, 69] (by decide +kernel) (by decide +kernel)
set_option maxRecDepth 20000 in
theorem gX4_faultOf_X2_clear : GoodIn wsX4_faultOf (wsV RX4 32 RX2 yX2_clear wsX2_clear) := goodIn_app (goodIn_of _ (by decide +kernel)) ggX4_faultOf_X2_clear
set_option maxRecDepth 20000 in
theorem ggX4_faultOf_X4_behindBlanks : GoodIn wsX4_faultOf wsX4_behindBlanks := goodIn_r _ [21, 6, 22, 23, 24, 20, 25, 1, 54, 55, 56] (by decide +kernel) (by decide +kernel)
set_option maxRecDepth 20000 in
theorem gX4_faultOf_X4_behindBlanks : GoodIn wsX4_faultOf (wsV RX4 35 RX4 yX4_behindBlanks wsX4_behindBlanks) := goodIn_app (goodIn_of _ (by decide +kernel)) ggX4_faultOf_X4_behindBlanks
set_option maxRecDepth 20000 in
theorem ggX4_faultOf_X4_readPeople : GoodIn wsX4_faultOf wsX4_readPeople := goodIn_r _ [29, 6, 7, 30, 31, 22, 23, 24, 20, 25, 1, 32, 33, 34, 35, 36, 37, 38, 54, 55, 56, 57, 58, 59, 60, 61, 62, 63, 64, 65, 66, 67, 68, 69] (by decide +kernel) (by decide +kernel)
set_option maxRecDepth 20000 in
theorem gX4_faultOf_X4_readPeople : GoodIn wsX4_faultOf (wsV RX4 39 RX4 yX4_readPeople wsX4_readPeople) := goodIn_app (goodIn_of _ (by decide +kernel)) ggX4_faultOf_X4_readPeople
set_option maxRecDepth 20000 in
theorem ggX4_faultOf_X4_sign : GoodIn wsX4_faultOf wsX4_sign := goodIn_r _ [25, 6, 1, 54, 55, 56] (by decide +kernel) (by decide +kernel)
set_option maxRecDepth 20000 in
theorem gX4_faultOf_X4_sign : GoodIn wsX4_faultOf (wsV RX4 45 RX4 yX4_sign wsX4_sign) := goodIn_app (goodIn_of _ (by decide +kernel)) ggX4_faultOf_X4_sign
set_option maxRecDepth 20000 in
theorem ggX4_faultOf_X4_readRoom : GoodIn wsX4_faultOf wsX4_readRoom := goodIn_r _ [42, 7, 8, 43, 32, 33, 20, 34, 35, 36, 37, 38, 22, 23, 24, 25, 6, 1, 54, 55, 56, 57, 58, 59, 60, 61, 62, 63, 64, 65, 66, 67, 68, 69] (by decide +kernel) (by decide +kernel)
set_option maxRecDepth 20000 in
theorem gX4_faultOf_X4_readRoom : GoodIn wsX4_faultOf (wsV RX4 48 RX4 yX4_readRoom wsX4_readRoom) := goodIn_app (goodIn_of _ (by decide +kernel)) ggX4_faultOf_X4_readRoom
set_option maxRecDepth 20000 in
theorem ggX4_faultOf_X4_readSaying : GoodIn wsX4_faultOf wsX4_readSaying := goodIn_r _ [47, 7, 8, 43, 48, 49, 50, 22, 23, 24, 20, 25, 6, 1, 51, 52, 53, 32, 33, 34, 35, 36, 37, 38, 54, 55, 56, 57, 58, 59, 60, 61, 62, 63, 64, 65, 66, 67, 68, 69] (by decide +kernel) (by decide +kernel)
set_option maxRecDepth 20000 in
theorem gX4_faultOf_X4_readSaying : GoodIn wsX4_faultOf (wsV RX4 51 RX4 yX4_readSaying wsX4_readSaying) := goodIn_app (goodIn_of _ (by decide +kernel)) ggX4_faultOf_X4_readSaying
set_option maxRecDepth 20000 in
theorem ggX4_faultOf_X4_faultAt : GoodIn wsX4_faultOf wsX4_faultAt := goodIn_r _ [34] (by decide +kernel) (by decide +kernel)
set_option maxRecDepth 20000 in
theorem gX4_faultOf_X4_faultAt : GoodIn wsX4_faultOf (va_wsS RX4 54 yX4_faultAt wsX4_faultAt) := goodIn_app (goodIn_of _ (by decide +kernel)) ggX4_faultOf_X4_faultAt
theorem dX4_faultOf_0 : decode cX4_faultOf 0 = .ok (.aload_n 0, 1) := by decide +kernel
theorem dX4_faultOf_1 : decode cX4_faultOf 1 = .ok (.aload_n 1, 1) := by decide +kernel
theorem dX4_faultOf_2 : decode cX4_faultOf 2 = .ok (.putfield 18, 3) := by decide +kernel
theorem dX4_faultOf_5 : decode cX4_faultOf 5 = .ok (.aload_n 0, 1) := by decide +kernel
theorem dX4_faultOf_6 : decode cX4_faultOf 6 = .ok (.iload_n 2, 1) := by decide +kernel
theorem dX4_faultOf_7 : decode cX4_faultOf 7 = .ok (.aload_n 1, 1) := by decide +kernel
theorem dX4_faultOf_8 : decode cX4_faultOf 8 = .ok (.arraylength, 1) := by decide +kernel
theorem dX4_faultOf_9 : decode cX4_faultOf 9 = .ok (.invokestatic 26, 3) := by decide +kernel
theorem dX4_faultOf_12 : decode cX4_faultOf 12 = .ok (.putfield 22, 3) := by decide +kernel
theorem dX4_faultOf_15 : decode cX4_faultOf 15 = .ok (.aload_n 0, 1) := by decide +kernel
theorem dX4_faultOf_16 : decode cX4_faultOf 16 = .ok (.getfield 12, 3) := by decide +kernel
theorem dX4_faultOf_19 : decode cX4_faultOf 19 = .ok (.invokevirtual 32, 3) := by decide +kernel
theorem dX4_faultOf_22 : decode cX4_faultOf 22 = .ok (.aload_n 0, 1) := by decide +kernel
theorem dX4_faultOf_23 : decode cX4_faultOf 23 = .ok (.aload_n 0, 1) := by decide +kernel
theorem dX4_faultOf_24 : decode cX4_faultOf 24 = .ok (.iconst 0, 1) := by decide +kernel
theorem dX4_faultOf_25 : decode cX4_faultOf 25 = .ok (.invokevirtual 35, 3) := by decide +kernel
theorem dX4_faultOf_28 : decode cX4_faultOf 28 = .ok (.invokevirtual 39, 3) := by decide +kernel
theorem dX4_faultOf_31 : decode cX4_faultOf 31 = .ok (.istore_n 3, 1) := by decide +kernel
theorem dX4_faultOf_32 : decode cX4_faultOf 32 = .ok (.iconst 0, 1) := by decide +kernel
theorem dX4_faultOf_33 : decode cX4_faultOf 33 = .ok (.istore 4, 2) := by decide +kernel
theorem dX4_faultOf_35 : decode cX4_faultOf 35 = .ok (.iload 4, 2) := by decide +kernel
theorem dX4_faultOf_37 : decode cX4_faultOf 37 = .ok (.bipush 60, 2) := by decide +kernel
theorem dX4_faultOf_39 : decode cX4_faultOf 39 = .ok (.if_icmp .gt 68, 3) := by decide +kernel
theorem dX4_faultOf_42 : decode cX4_faultOf 42 = .ok (.iload_n 3, 1) := by decide +kernel
theorem dX4_faultOf_43 : decode cX4_faultOf 43 = .ok (.ifCond .lt 64, 3) := by decide +kernel
theorem dX4_faultOf_46 : decode cX4_faultOf 46 = .ok (.aload_n 0, 1) := by decide +kernel
theorem dX4_faultOf_47 : decode cX4_faultOf 47 = .ok (.iload_n 3, 1) := by decide +kernel
theorem dX4_faultOf_48 : decode cX4_faultOf 48 = .ok (.invokevirtual 35, 3) := by decide +kernel
theorem dX4_faultOf_51 : decode cX4_faultOf 51 = .ok (.istore_n 3, 1) := by decide +kernel
theorem dX4_faultOf_52 : decode cX4_faultOf 52 = .ok (.iload_n 3, 1) := by decide +kernel
theorem dX4_faultOf_53 : decode cX4_faultOf 53 = .ok (.aload_n 0, 1) := by decide +kernel
theorem dX4_faultOf_54 : decode cX4_faultOf 54 = .ok (.getfield 22, 3) := by decide +kernel
theorem dX4_faultOf_57 : decode cX4_faultOf 57 = .ok (.if_icmp .lt 20, 3) := by decide +kernel
theorem dX4_faultOf_60 : decode cX4_faultOf 60 = .ok (.aload_n 0, 1) := by decide +kernel
theorem dX4_faultOf_61 : decode cX4_faultOf 61 = .ok (.getfield 12, 3) := by decide +kernel
theorem dX4_faultOf_64 : decode cX4_faultOf 64 = .ok (.getfield 42, 3) := by decide +kernel
theorem dX4_faultOf_67 : decode cX4_faultOf 67 = .ok (.ifCond .le 8, 3) := by decide +kernel
theorem dX4_faultOf_70 : decode cX4_faultOf 70 = .ok (.bipush (-9), 2) := by decide +kernel
theorem dX4_faultOf_72 : decode cX4_faultOf 72 = .ok (.goto 4, 3) := by decide +kernel
theorem dX4_faultOf_75 : decode cX4_faultOf 75 = .ok (.iload_n 3, 1) := by decide +kernel
theorem dX4_faultOf_76 : decode cX4_faultOf 76 = .ok (.ireturn, 1) := by decide +kernel
theorem dX4_faultOf_77 : decode cX4_faultOf 77 = .ok (.aload_n 0, 1) := by decide +kernel
theorem dX4_faultOf_78 : decode cX4_faultOf 78 = .ok (.iload_n 3, 1) := by decide +kernel
theorem dX4_faultOf_79 : decode cX4_faultOf 79 = .ok (.invokevirtual 45, 3) := by decide +kernel
theorem dX4_faultOf_82 : decode cX4_faultOf 82 = .ok (.bipush 100, 2) := by decide +kernel
theorem dX4_faultOf_84 : decode cX4_faultOf 84 = .ok (.if_icmp .ne 11, 3) := by decide +kernel
theorem dX4_faultOf_87 : decode cX4_faultOf 87 = .ok (.aload_n 0, 1) := by decide +kernel
theorem dX4_faultOf_88 : decode cX4_faultOf 88 = .ok (.iload_n 3, 1) := by decide +kernel
theorem dX4_faultOf_89 : decode cX4_faultOf 89 = .ok (.invokevirtual 48, 3) := by decide +kernel
theorem dX4_faultOf_92 : decode cX4_faultOf 92 = .ok (.goto 8, 3) := by decide +kernel
theorem dX4_faultOf_95 : decode cX4_faultOf 95 = .ok (.aload_n 0, 1) := by decide +kernel
theorem dX4_faultOf_96 : decode cX4_faultOf 96 = .ok (.iload_n 3, 1) := by decide +kernel
theorem dX4_faultOf_97 : decode cX4_faultOf 97 = .ok (.invokevirtual 51, 3) := by decide +kernel
theorem dX4_faultOf_100 : decode cX4_faultOf 100 = .ok (.istore_n 3, 1) := by decide +kernel
theorem dX4_faultOf_101 : decode cX4_faultOf 101 = .ok (.iinc 4 1, 3) := by decide +kernel
theorem dX4_faultOf_104 : decode cX4_faultOf 104 = .ok (.goto (-69), 3) := by decide +kernel
theorem dX4_faultOf_107 : decode cX4_faultOf 107 = .ok (.iload_n 3, 1) := by decide +kernel
theorem dX4_faultOf_108 : decode cX4_faultOf 108 = .ok (.invokestatic 54, 3) := by decide +kernel
theorem dX4_faultOf_111 : decode cX4_faultOf 111 = .ok (.ireturn, 1) := by decide +kernel
theorem dX4_faultAt_0 : decode cX4_faultAt 0 = .ok (.iconst (-1), 1) := by decide +kernel
theorem dX4_faultAt_1 : decode cX4_faultAt 1 = .ok (.iload_n 0, 1) := by decide +kernel
theorem dX4_faultAt_2 : decode cX4_faultAt 2 = .ok (.isub, 1) := by decide +kernel
theorem dX4_faultAt_3 : decode cX4_faultAt 3 = .ok (.ireturn, 1) := by decide +kernel
theorem dX4_sign_0 : decode cX4_sign 0 = .ok (.iload_n 1, 1) := by decide +kernel
theorem dX4_sign_1 : decode cX4_sign 1 = .ok (.ifCond .lt 20, 3) := by decide +kernel
theorem dX4_sign_4 : decode cX4_sign 4 = .ok (.iload_n 1, 1) := by decide +kernel
theorem dX4_sign_5 : decode cX4_sign 5 = .ok (.aload_n 0, 1) := by decide +kernel
theorem dX4_sign_6 : decode cX4_sign 6 = .ok (.getfield 22, 3) := by decide +kernel
theorem dX4_sign_9 : decode cX4_sign 9 = .ok (.if_icmp .ge 12, 3) := by decide +kernel
theorem dX4_sign_12 : decode cX4_sign 12 = .ok (.aload_n 0, 1) := by decide +kernel
theorem dX4_sign_13 : decode cX4_sign 13 = .ok (.getfield 18, 3) := by decide +kernel
theorem dX4_sign_16 : decode cX4_sign 16 = .ok (.iload_n 1, 1) := by decide +kernel
theorem dX4_sign_17 : decode cX4_sign 17 = .ok (.iaload, 1) := by decide +kernel
theorem dX4_sign_18 : decode cX4_sign 18 = .ok (.goto 6, 3) := by decide +kernel
theorem dX4_sign_21 : decode cX4_sign 21 = .ok (.sipush 1000, 3) := by decide +kernel
theorem dX4_sign_24 : decode cX4_sign 24 = .ok (.ireturn, 1) := by decide +kernel
set_option maxRecDepth 20000 in
theorem ggX4_figure_X4_sign : GoodIn wsX4_figure wsX4_sign := goodIn_r _ [5, 6, 7, 8, 9, 10] (by decide +kernel) (by decide +kernel)
set_option maxRecDepth 20000 in
theorem gX4_figure_X4_sign : GoodIn wsX4_figure (wsV RX4 45 RX4 yX4_sign wsX4_sign) := goodIn_app (goodIn_of _ (by decide +kernel)) ggX4_figure_X4_sign
theorem dX4_figure_0 : decode cX4_figure 0 = .ok (.aload_n 0, 1) := by decide +kernel
theorem dX4_figure_1 : decode cX4_figure 1 = .ok (.iload_n 1, 1) := by decide +kernel
theorem dX4_figure_2 : decode cX4_figure 2 = .ok (.invokevirtual 45, 3) := by decide +kernel
theorem dX4_figure_5 : decode cX4_figure 5 = .ok (.bipush 48, 2) := by decide +kernel
theorem dX4_figure_7 : decode cX4_figure 7 = .ok (.isub, 1) := by decide +kernel
theorem dX4_figure_8 : decode cX4_figure 8 = .ok (.istore_n 3, 1) := by decide +kernel
theorem dX4_figure_9 : decode cX4_figure 9 = .ok (.iload_n 3, 1) := by decide +kernel
theorem dX4_figure_10 : decode cX4_figure 10 = .ok (.ifCond .lt 12, 3) := by decide +kernel
theorem dX4_figure_13 : decode cX4_figure 13 = .ok (.iload_n 3, 1) := by decide +kernel
theorem dX4_figure_14 : decode cX4_figure 14 = .ok (.iload_n 2, 1) := by decide +kernel
theorem dX4_figure_15 : decode cX4_figure 15 = .ok (.if_icmp .gt 7, 3) := by decide +kernel
theorem dX4_figure_18 : decode cX4_figure 18 = .ok (.iload_n 3, 1) := by decide +kernel
theorem dX4_figure_19 : decode cX4_figure 19 = .ok (.goto 4, 3) := by decide +kernel
theorem dX4_figure_22 : decode cX4_figure 22 = .ok (.iconst (-1), 1) := by decide +kernel
theorem dX4_figure_23 : decode cX4_figure 23 = .ok (.ireturn, 1) := by decide +kernel
set_option maxRecDepth 20000 in
theorem ggX4_behindBlanks_X4_sign : GoodIn wsX4_behindBlanks wsX4_sign := goodIn_r _ [6, 1, 7, 8, 9, 10] (by decide +kernel) (by decide +kernel)
set_option maxRecDepth 20000 in
theorem gX4_behindBlanks_X4_sign : GoodIn wsX4_behindBlanks (wsV RX4 45 RX4 yX4_sign wsX4_sign) := goodIn_app (goodIn_of _ (by decide +kernel)) ggX4_behindBlanks_X4_sign
theorem dX4_behindBlanks_0 : decode cX4_behindBlanks 0 = .ok (.iload_n 1, 1) := by decide +kernel
theorem dX4_behindBlanks_1 : decode cX4_behindBlanks 1 = .ok (.istore_n 2, 1) := by decide +kernel
theorem dX4_behindBlanks_2 : decode cX4_behindBlanks 2 = .ok (.iload_n 2, 1) := by decide +kernel
theorem dX4_behindBlanks_3 : decode cX4_behindBlanks 3 = .ok (.aload_n 0, 1) := by decide +kernel
theorem dX4_behindBlanks_4 : decode cX4_behindBlanks 4 = .ok (.getfield 22, 3) := by decide +kernel
theorem dX4_behindBlanks_7 : decode cX4_behindBlanks 7 = .ok (.if_icmp .ge 19, 3) := by decide +kernel
theorem dX4_behindBlanks_10 : decode cX4_behindBlanks 10 = .ok (.aload_n 0, 1) := by decide +kernel
theorem dX4_behindBlanks_11 : decode cX4_behindBlanks 11 = .ok (.iload_n 2, 1) := by decide +kernel
theorem dX4_behindBlanks_12 : decode cX4_behindBlanks 12 = .ok (.invokevirtual 45, 3) := by decide +kernel
theorem dX4_behindBlanks_15 : decode cX4_behindBlanks 15 = .ok (.bipush 32, 2) := by decide +kernel
theorem dX4_behindBlanks_17 : decode cX4_behindBlanks 17 = .ok (.if_icmp .ne 9, 3) := by decide +kernel
theorem dX4_behindBlanks_20 : decode cX4_behindBlanks 20 = .ok (.iinc 2 1, 3) := by decide +kernel
theorem dX4_behindBlanks_23 : decode cX4_behindBlanks 23 = .ok (.goto (-21), 3) := by decide +kernel
theorem dX4_behindBlanks_26 : decode cX4_behindBlanks 26 = .ok (.iload_n 2, 1) := by decide +kernel
theorem dX4_behindBlanks_27 : decode cX4_behindBlanks 27 = .ok (.ireturn, 1) := by decide +kernel
set_option maxRecDepth 20000 in
theorem ggX4_readPeople_X4_sign : GoodIn wsX4_readPeople wsX4_sign := goodIn_r _ [9, 1, 10, 18, 19, 20] (by decide +kernel) (by decide +kernel)
set_option maxRecDepth 20000 in
theorem gX4_readPeople_X4_sign : GoodIn wsX4_readPeople (wsV RX4 45 RX4 yX4_sign wsX4_sign) := goodIn_app (goodIn_of _ (by decide +kernel)) ggX4_readPeople_X4_sign
set_option maxRecDepth 20000 in
theorem ggX4_readPeople_X4_faultAt : GoodIn wsX4_readPeople wsX4_faultAt := goodIn_r _ [13] (by decide +kernel) (by decide +kernel)
set_option maxRecDepth 20000 in
theorem gX4_readPeople_X4_faultAt : GoodIn wsX4_readPeople (va_wsS RX4 54 yX4_faultAt wsX4_faultAt) := goodIn_app (goodIn_of _ (by decide +kernel)) ggX4_readPeople_X4_faultAt
set_option maxRecDepth 20000 in
theorem ggX4_readPeople_X4_figure : GoodIn wsX4_readPeople wsX4_figure := goodIn_r _ [17, 5, 6, 7, 8, 9, 1, 10, 18, 19, 20] (by decide +kernel) (by decide +kernel)
set_option maxRecDepth 20000 in
theorem gX4_readPeople_X4_figure : GoodIn wsX4_readPeople (wsV RX4 57 RX4 yX4_figure wsX4_figure) := goodIn_app (goodIn_of _ (by decide +kernel)) ggX4_readPeople_X4_figure
theorem dX4_readPeople_0 : decode cX4_readPeople 0 = .ok (.aload_n 0, 1) := by decide +kernel
theorem dX4_readPeople_1 : decode cX4_readPeople 1 = .ok (.iload_n 1, 1) := by decide +kernel
theorem dX4_readPeople_2 : decode cX4_readPeople 2 = .ok (.invokevirtual 45, 3) := by decide +kernel
theorem dX4_readPeople_5 : decode cX4_readPeople 5 = .ok (.bipush 102, 2) := by decide +kernel
theorem dX4_readPeople_7 : decode cX4_readPeople 7 = .ok (.if_icmp .eq 8, 3) := by decide +kernel
theorem dX4_readPeople_10 : decode cX4_readPeople 10 = .ok (.iload_n 1, 1) := by decide +kernel
theorem dX4_readPeople_11 : decode cX4_readPeople 11 = .ok (.invokestatic 54, 3) := by decide +kernel
theorem dX4_readPeople_14 : decode cX4_readPeople 14 = .ok (.ireturn, 1) := by decide +kernel
theorem dX4_readPeople_15 : decode cX4_readPeople 15 = .ok (.iload_n 1, 1) := by decide +kernel
theorem dX4_readPeople_16 : decode cX4_readPeople 16 = .ok (.iconst 1, 1) := by decide +kernel
theorem dX4_readPeople_17 : decode cX4_readPeople 17 = .ok (.iadd, 1) := by decide +kernel
theorem dX4_readPeople_18 : decode cX4_readPeople 18 = .ok (.istore_n 2, 1) := by decide +kernel
theorem dX4_readPeople_19 : decode cX4_readPeople 19 = .ok (.iload_n 2, 1) := by decide +kernel
theorem dX4_readPeople_20 : decode cX4_readPeople 20 = .ok (.aload_n 0, 1) := by decide +kernel
theorem dX4_readPeople_21 : decode cX4_readPeople 21 = .ok (.getfield 22, 3) := by decide +kernel
theorem dX4_readPeople_24 : decode cX4_readPeople 24 = .ok (.if_icmp .ge 70, 3) := by decide +kernel
theorem dX4_readPeople_27 : decode cX4_readPeople 27 = .ok (.aload_n 0, 1) := by decide +kernel
theorem dX4_readPeople_28 : decode cX4_readPeople 28 = .ok (.iload_n 2, 1) := by decide +kernel
theorem dX4_readPeople_29 : decode cX4_readPeople 29 = .ok (.bipush 9, 2) := by decide +kernel
theorem dX4_readPeople_31 : decode cX4_readPeople 31 = .ok (.invokevirtual 57, 3) := by decide +kernel
theorem dX4_readPeople_34 : decode cX4_readPeople 34 = .ok (.ifCond .lt 60, 3) := by decide +kernel
theorem dX4_readPeople_37 : decode cX4_readPeople 37 = .ok (.aload_n 0, 1) := by decide +kernel
theorem dX4_readPeople_38 : decode cX4_readPeople 38 = .ok (.getfield 12, 3) := by decide +kernel
theorem dX4_readPeople_41 : decode cX4_readPeople 41 = .ok (.getfield 60, 3) := by decide +kernel
theorem dX4_readPeople_44 : decode cX4_readPeople 44 = .ok (.iconst 4, 1) := by decide +kernel
theorem dX4_readPeople_45 : decode cX4_readPeople 45 = .ok (.if_icmp .lt 8, 3) := by decide +kernel
theorem dX4_readPeople_48 : decode cX4_readPeople 48 = .ok (.iload_n 2, 1) := by decide +kernel
theorem dX4_readPeople_49 : decode cX4_readPeople 49 = .ok (.invokestatic 54, 3) := by decide +kernel
theorem dX4_readPeople_52 : decode cX4_readPeople 52 = .ok (.ireturn, 1) := by decide +kernel
theorem dX4_readPeople_53 : decode cX4_readPeople 53 = .ok (.aload_n 0, 1) := by decide +kernel
theorem dX4_readPeople_54 : decode cX4_readPeople 54 = .ok (.getfield 12, 3) := by decide +kernel
theorem dX4_readPeople_57 : decode cX4_readPeople 57 = .ok (.getfield 63, 3) := by decide +kernel
theorem dX4_readPeople_60 : decode cX4_readPeople 60 = .ok (.aload_n 0, 1) := by decide +kernel
theorem dX4_readPeople_61 : decode cX4_readPeople 61 = .ok (.getfield 12, 3) := by decide +kernel
theorem dX4_readPeople_64 : decode cX4_readPeople 64 = .ok (.getfield 60, 3) := by decide +kernel
theorem dX4_readPeople_67 : decode cX4_readPeople 67 = .ok (.aload_n 0, 1) := by decide +kernel
theorem dX4_readPeople_68 : decode cX4_readPeople 68 = .ok (.iload_n 2, 1) := by decide +kernel
theorem dX4_readPeople_69 : decode cX4_readPeople 69 = .ok (.bipush 9, 2) := by decide +kernel
theorem dX4_readPeople_71 : decode cX4_readPeople 71 = .ok (.invokevirtual 57, 3) := by decide +kernel
theorem dX4_readPeople_74 : decode cX4_readPeople 74 = .ok (.iastore, 1) := by decide +kernel
theorem dX4_readPeople_75 : decode cX4_readPeople 75 = .ok (.aload_n 0, 1) := by decide +kernel
theorem dX4_readPeople_76 : decode cX4_readPeople 76 = .ok (.getfield 12, 3) := by decide +kernel
theorem dX4_readPeople_79 : decode cX4_readPeople 79 = .ok (.dup, 1) := by decide +kernel
theorem dX4_readPeople_80 : decode cX4_readPeople 80 = .ok (.getfield 60, 3) := by decide +kernel
theorem dX4_readPeople_83 : decode cX4_readPeople 83 = .ok (.iconst 1, 1) := by decide +kernel
theorem dX4_readPeople_84 : decode cX4_readPeople 84 = .ok (.iadd, 1) := by decide +kernel
theorem dX4_readPeople_85 : decode cX4_readPeople 85 = .ok (.putfield 60, 3) := by decide +kernel
theorem dX4_readPeople_88 : decode cX4_readPeople 88 = .ok (.iinc 2 1, 3) := by decide +kernel
theorem dX4_readPeople_91 : decode cX4_readPeople 91 = .ok (.goto (-72), 3) := by decide +kernel
theorem dX4_readPeople_94 : decode cX4_readPeople 94 = .ok (.aload_n 0, 1) := by decide +kernel
theorem dX4_readPeople_95 : decode cX4_readPeople 95 = .ok (.getfield 12, 3) := by decide +kernel
theorem dX4_readPeople_98 : decode cX4_readPeople 98 = .ok (.getfield 60, 3) := by decide +kernel
theorem dX4_readPeople_101 : decode cX4_readPeople 101 = .ok (.ifCond .le 7, 3) := by decide +kernel
theorem dX4_readPeople_104 : decode cX4_readPeople 104 = .ok (.iload_n 2, 1) := by decide +kernel
theorem dX4_readPeople_105 : decode cX4_readPeople 105 = .ok (.goto 7, 3) := by decide +kernel
theorem dX4_readPeople_108 : decode cX4_readPeople 108 = .ok (.iload_n 2, 1) := by decide +kernel
theorem dX4_readPeople_109 : decode cX4_readPeople 109 = .ok (.invokestatic 54, 3) := by decide +kernel
theorem dX4_readPeople_112 : decode cX4_readPeople 112 = .ok (.ireturn, 1) := by decide +kernel
set_option maxRecDepth 20000 in
theorem ggX4_readSaying_X4_sign : GoodIn wsX4_readSaying wsX4_sign := goodIn_r _ [11, 12, 13, 24, 25, 26] (by decide +kernel) (by decide +kernel)
set_option maxRecDepth 20000 in
theorem gX4_readSaying_X4_sign : GoodIn wsX4_readSaying (wsV RX4 45 RX4 yX4_sign wsX4_sign) := goodIn_app (goodIn_of _ (by decide +kernel)) ggX4_readSaying_X4_sign
set_option maxRecDepth 20000 in
theorem ggX4_readSaying_X4_kindOf : GoodIn wsX4_readSaying wsX4_kindOf := goodIn_r _ [16] (by decide +kernel) (by decide +kernel)
set_option maxRecDepth 20000 in
theorem gX4_readSaying_X4_kindOf : GoodIn wsX4_readSaying (va_wsS RX4 66 yX4_kindOf wsX4_kindOf) := goodIn_app (goodIn_of _ (by decide +kernel)) ggX4_readSaying_X4_kindOf
set_option maxRecDepth 20000 in
theorem ggX4_readSaying_X4_faultAt : GoodIn wsX4_readSaying wsX4_faultAt := goodIn_r _ [19] (by decide +kernel) (by decide +kernel)
set_option maxRecDepth 20000 in
theorem gX4_readSaying_X4_faultAt : GoodIn wsX4_readSaying (va_wsS RX4 54 yX4_faultAt wsX4_faultAt) := goodIn_app (goodIn_of _ (by decide +kernel)) ggX4_readSaying_X4_faultAt
set_option maxRecDepth 20000 in
theorem ggX4_readSaying_X4_figure : GoodIn wsX4_readSaying wsX4_figure := goodIn_r _ [23, 7, 8, 9, 10, 11, 12, 13, 24, 25, 26] (by decide +kernel) (by decide +kernel)
set_option maxRecDepth 20000 in
theorem gX4_readSaying_X4_figure : GoodIn wsX4_readSaying (wsV RX4 57 RX4 yX4_figure wsX4_figure) := goodIn_app (goodIn_of _ (by decide +kernel)) ggX4_readSaying_X4_figure
theorem dX4_readSaying_0 : decode cX4_readSaying 0 = .ok (.aload_n 0, 1) := by decide +kernel
theorem dX4_readSaying_1 : decode cX4_readSaying 1 = .ok (.iload_n 1, 1) := by decide +kernel
theorem dX4_readSaying_2 : decode cX4_readSaying 2 = .ok (.invokevirtual 45, 3) := by decide +kernel
theorem dX4_readSaying_5 : decode cX4_readSaying 5 = .ok (.invokestatic 66, 3) := by decide +kernel
theorem dX4_readSaying_8 : decode cX4_readSaying 8 = .ok (.istore_n 2, 1) := by decide +kernel
theorem dX4_readSaying_9 : decode cX4_readSaying 9 = .ok (.iload_n 2, 1) := by decide +kernel
theorem dX4_readSaying_10 : decode cX4_readSaying 10 = .ok (.ifCond .lt 25, 3) := by decide +kernel
theorem dX4_readSaying_13 : decode cX4_readSaying 13 = .ok (.aload_n 0, 1) := by decide +kernel
theorem dX4_readSaying_14 : decode cX4_readSaying 14 = .ok (.getfield 12, 3) := by decide +kernel
theorem dX4_readSaying_17 : decode cX4_readSaying 17 = .ok (.getfield 42, 3) := by decide +kernel
theorem dX4_readSaying_20 : decode cX4_readSaying 20 = .ok (.bipush 6, 2) := by decide +kernel
theorem dX4_readSaying_22 : decode cX4_readSaying 22 = .ok (.if_icmp .ge 13, 3) := by decide +kernel
theorem dX4_readSaying_25 : decode cX4_readSaying 25 = .ok (.aload_n 0, 1) := by decide +kernel
theorem dX4_readSaying_26 : decode cX4_readSaying 26 = .ok (.getfield 12, 3) := by decide +kernel
theorem dX4_readSaying_29 : decode cX4_readSaying 29 = .ok (.getfield 69, 3) := by decide +kernel
theorem dX4_readSaying_32 : decode cX4_readSaying 32 = .ok (.ifCond .eq 8, 3) := by decide +kernel
theorem dX4_readSaying_35 : decode cX4_readSaying 35 = .ok (.iload_n 1, 1) := by decide +kernel
theorem dX4_readSaying_36 : decode cX4_readSaying 36 = .ok (.invokestatic 54, 3) := by decide +kernel
theorem dX4_readSaying_39 : decode cX4_readSaying 39 = .ok (.ireturn, 1) := by decide +kernel
theorem dX4_readSaying_40 : decode cX4_readSaying 40 = .ok (.aload_n 0, 1) := by decide +kernel
theorem dX4_readSaying_41 : decode cX4_readSaying 41 = .ok (.iload_n 1, 1) := by decide +kernel
theorem dX4_readSaying_42 : decode cX4_readSaying 42 = .ok (.iconst 1, 1) := by decide +kernel
theorem dX4_readSaying_43 : decode cX4_readSaying 43 = .ok (.iadd, 1) := by decide +kernel
theorem dX4_readSaying_44 : decode cX4_readSaying 44 = .ok (.bipush 9, 2) := by decide +kernel
theorem dX4_readSaying_46 : decode cX4_readSaying 46 = .ok (.invokevirtual 57, 3) := by decide +kernel
theorem dX4_readSaying_49 : decode cX4_readSaying 49 = .ok (.istore_n 3, 1) := by decide +kernel
theorem dX4_readSaying_50 : decode cX4_readSaying 50 = .ok (.iload_n 3, 1) := by decide +kernel
theorem dX4_readSaying_51 : decode cX4_readSaying 51 = .ok (.ifCond .ge 10, 3) := by decide +kernel
theorem dX4_readSaying_54 : decode cX4_readSaying 54 = .ok (.iload_n 1, 1) := by decide +kernel
theorem dX4_readSaying_55 : decode cX4_readSaying 55 = .ok (.iconst 1, 1) := by decide +kernel
theorem dX4_readSaying_56 : decode cX4_readSaying 56 = .ok (.iadd, 1) := by decide +kernel
theorem dX4_readSaying_57 : decode cX4_readSaying 57 = .ok (.invokestatic 54, 3) := by decide +kernel
theorem dX4_readSaying_60 : decode cX4_readSaying 60 = .ok (.ireturn, 1) := by decide +kernel
theorem dX4_readSaying_61 : decode cX4_readSaying 61 = .ok (.aload_n 0, 1) := by decide +kernel
theorem dX4_readSaying_62 : decode cX4_readSaying 62 = .ok (.iload_n 1, 1) := by decide +kernel
theorem dX4_readSaying_63 : decode cX4_readSaying 63 = .ok (.iconst 2, 1) := by decide +kernel
theorem dX4_readSaying_64 : decode cX4_readSaying 64 = .ok (.iadd, 1) := by decide +kernel
theorem dX4_readSaying_65 : decode cX4_readSaying 65 = .ok (.bipush 7, 2) := by decide +kernel
theorem dX4_readSaying_67 : decode cX4_readSaying 67 = .ok (.invokevirtual 57, 3) := by decide +kernel
theorem dX4_readSaying_70 : decode cX4_readSaying 70 = .ok (.istore 4, 2) := by decide +kernel
theorem dX4_readSaying_72 : decode cX4_readSaying 72 = .ok (.iload 4, 2) := by decide +kernel
theorem dX4_readSaying_74 : decode cX4_readSaying 74 = .ok (.ifCond .ge 10, 3) := by decide +kernel
theorem dX4_readSaying_77 : decode cX4_readSaying 77 = .ok (.iload_n 1, 1) := by decide +kernel
theorem dX4_readSaying_78 : decode cX4_readSaying 78 = .ok (.iconst 2, 1) := by decide +kernel
theorem dX4_readSaying_79 : decode cX4_readSaying 79 = .ok (.iadd, 1) := by decide +kernel
theorem dX4_readSaying_80 : decode cX4_readSaying 80 = .ok (.invokestatic 54, 3) := by decide +kernel
theorem dX4_readSaying_83 : decode cX4_readSaying 83 = .ok (.ireturn, 1) := by decide +kernel
theorem dX4_readSaying_84 : decode cX4_readSaying 84 = .ok (.aload_n 0, 1) := by decide +kernel
theorem dX4_readSaying_85 : decode cX4_readSaying 85 = .ok (.getfield 12, 3) := by decide +kernel
theorem dX4_readSaying_88 : decode cX4_readSaying 88 = .ok (.getfield 72, 3) := by decide +kernel
theorem dX4_readSaying_91 : decode cX4_readSaying 91 = .ok (.aload_n 0, 1) := by decide +kernel
theorem dX4_readSaying_92 : decode cX4_readSaying 92 = .ok (.getfield 12, 3) := by decide +kernel
theorem dX4_readSaying_95 : decode cX4_readSaying 95 = .ok (.getfield 42, 3) := by decide +kernel
theorem dX4_readSaying_98 : decode cX4_readSaying 98 = .ok (.iload_n 2, 1) := by decide +kernel
theorem dX4_readSaying_99 : decode cX4_readSaying 99 = .ok (.iastore, 1) := by decide +kernel
theorem dX4_readSaying_100 : decode cX4_readSaying 100 = .ok (.aload_n 0, 1) := by decide +kernel
theorem dX4_readSaying_101 : decode cX4_readSaying 101 = .ok (.getfield 12, 3) := by decide +kernel
theorem dX4_readSaying_104 : decode cX4_readSaying 104 = .ok (.getfield 75, 3) := by decide +kernel
theorem dX4_readSaying_107 : decode cX4_readSaying 107 = .ok (.aload_n 0, 1) := by decide +kernel
theorem dX4_readSaying_108 : decode cX4_readSaying 108 = .ok (.getfield 12, 3) := by decide +kernel
theorem dX4_readSaying_111 : decode cX4_readSaying 111 = .ok (.getfield 42, 3) := by decide +kernel
theorem dX4_readSaying_114 : decode cX4_readSaying 114 = .ok (.iload_n 3, 1) := by decide +kernel
theorem dX4_readSaying_115 : decode cX4_readSaying 115 = .ok (.iastore, 1) := by decide +kernel
theorem dX4_readSaying_116 : decode cX4_readSaying 116 = .ok (.aload_n 0, 1) := by decide +kernel
theorem dX4_readSaying_117 : decode cX4_readSaying 117 = .ok (.getfield 12, 3) := by decide +kernel
theorem dX4_readSaying_120 : decode cX4_readSaying 120 = .ok (.getfield 78, 3) := by decide +kernel
theorem dX4_readSaying_123 : decode cX4_readSaying 123 = .ok (.aload_n 0, 1) := by decide +kernel
theorem dX4_readSaying_124 : decode cX4_readSaying 124 = .ok (.getfield 12, 3) := by decide +kernel
theorem dX4_readSaying_127 : decode cX4_readSaying 127 = .ok (.getfield 42, 3) := by decide +kernel
theorem dX4_readSaying_130 : decode cX4_readSaying 130 = .ok (.iload 4, 2) := by decide +kernel
theorem dX4_readSaying_132 : decode cX4_readSaying 132 = .ok (.iastore, 1) := by decide +kernel
theorem dX4_readSaying_133 : decode cX4_readSaying 133 = .ok (.aload_n 0, 1) := by decide +kernel
theorem dX4_readSaying_134 : decode cX4_readSaying 134 = .ok (.getfield 12, 3) := by decide +kernel
theorem dX4_readSaying_137 : decode cX4_readSaying 137 = .ok (.dup, 1) := by decide +kernel
theorem dX4_readSaying_138 : decode cX4_readSaying 138 = .ok (.getfield 42, 3) := by decide +kernel
theorem dX4_readSaying_141 : decode cX4_readSaying 141 = .ok (.iconst 1, 1) := by decide +kernel
theorem dX4_readSaying_142 : decode cX4_readSaying 142 = .ok (.iadd, 1) := by decide +kernel
theorem dX4_readSaying_143 : decode cX4_readSaying 143 = .ok (.putfield 42, 3) := by decide +kernel
theorem dX4_readSaying_146 : decode cX4_readSaying 146 = .ok (.iload_n 1, 1) := by decide +kernel
theorem dX4_readSaying_147 : decode cX4_readSaying 147 = .ok (.iconst 3, 1) := by decide +kernel
theorem dX4_readSaying_148 : decode cX4_readSaying 148 = .ok (.iadd, 1) := by decide +kernel
theorem dX4_readSaying_149 : decode cX4_readSaying 149 = .ok (.ireturn, 1) := by decide +kernel
theorem dX4_kindOf_0 : decode cX4_kindOf 0 = .ok (.iconst 0, 1) := by decide +kernel
theorem dX4_kindOf_1 : decode cX4_kindOf 1 = .ok (.istore_n 1, 1) := by decide +kernel
theorem dX4_kindOf_2 : decode cX4_kindOf 2 = .ok (.iload_n 1, 1) := by decide +kernel
theorem dX4_kindOf_3 : decode cX4_kindOf 3 = .ok (.bipush 6, 2) := by decide +kernel
theorem dX4_kindOf_5 : decode cX4_kindOf 5 = .ok (.if_icmp .ge 20, 3) := by decide +kernel
theorem dX4_kindOf_8 : decode cX4_kindOf 8 = .ok (.getstatic 81, 3) := by decide +kernel
theorem dX4_kindOf_11 : decode cX4_kindOf 11 = .ok (.iload_n 1, 1) := by decide +kernel
theorem dX4_kindOf_12 : decode cX4_kindOf 12 = .ok (.iaload, 1) := by decide +kernel
theorem dX4_kindOf_13 : decode cX4_kindOf 13 = .ok (.iload_n 0, 1) := by decide +kernel
theorem dX4_kindOf_14 : decode cX4_kindOf 14 = .ok (.if_icmp .ne 5, 3) := by decide +kernel
theorem dX4_kindOf_17 : decode cX4_kindOf 17 = .ok (.iload_n 1, 1) := by decide +kernel
theorem dX4_kindOf_18 : decode cX4_kindOf 18 = .ok (.ireturn, 1) := by decide +kernel
theorem dX4_kindOf_19 : decode cX4_kindOf 19 = .ok (.iinc 1 1, 3) := by decide +kernel
theorem dX4_kindOf_22 : decode cX4_kindOf 22 = .ok (.goto (-20), 3) := by decide +kernel
theorem dX4_kindOf_25 : decode cX4_kindOf 25 = .ok (.iconst (-1), 1) := by decide +kernel
theorem dX4_kindOf_26 : decode cX4_kindOf 26 = .ok (.ireturn, 1) := by decide +kernel
set_option maxRecDepth 20000 in
theorem ggX4_readRoom_X4_faultAt : GoodIn wsX4_readRoom wsX4_faultAt := goodIn_r _ [7] (by decide +kernel) (by decide +kernel)
set_option maxRecDepth 20000 in
theorem gX4_readRoom_X4_faultAt : GoodIn wsX4_readRoom (va_wsS RX4 54 yX4_faultAt wsX4_faultAt) := goodIn_app (goodIn_of _ (by decide +kernel)) ggX4_readRoom_X4_faultAt
set_option maxRecDepth 20000 in
theorem ggX4_readRoom_X4_figure : GoodIn wsX4_readRoom wsX4_figure := goodIn_r _ [11, 12, 13, 14, 6, 15, 16, 17, 18, 19, 20] (by decide +kernel) (by decide +kernel)
set_option maxRecDepth 20000 in
theorem gX4_readRoom_X4_figure : GoodIn wsX4_readRoom (wsV RX4 57 RX4 yX4_figure wsX4_figure) := goodIn_app (goodIn_of _ (by decide +kernel)) ggX4_readRoom_X4_figure
theorem dX4_readRoom_0 : decode cX4_readRoom 0 = .ok (.aload_n 0, 1) := by decide +kernel
theorem dX4_readRoom_1 : decode cX4_readRoom 1 = .ok (.getfield 12, 3) := by decide +kernel
theorem dX4_readRoom_4 : decode cX4_readRoom 4 = .ok (.getfield 42, 3) := by decide +kernel
theorem dX4_readRoom_7 : decode cX4_readRoom 7 = .ok (.ifCond .ne 8, 3) := by decide +kernel
theorem dX4_readRoom_10 : decode cX4_readRoom 10 = .ok (.iload_n 1, 1) := by decide +kernel
theorem dX4_readRoom_11 : decode cX4_readRoom 11 = .ok (.invokestatic 54, 3) := by decide +kernel
theorem dX4_readRoom_14 : decode cX4_readRoom 14 = .ok (.ireturn, 1) := by decide +kernel
theorem dX4_readRoom_15 : decode cX4_readRoom 15 = .ok (.aload_n 0, 1) := by decide +kernel
theorem dX4_readRoom_16 : decode cX4_readRoom 16 = .ok (.iload_n 1, 1) := by decide +kernel
theorem dX4_readRoom_17 : decode cX4_readRoom 17 = .ok (.iconst 1, 1) := by decide +kernel
theorem dX4_readRoom_18 : decode cX4_readRoom 18 = .ok (.iadd, 1) := by decide +kernel
theorem dX4_readRoom_19 : decode cX4_readRoom 19 = .ok (.iconst 1, 1) := by decide +kernel
theorem dX4_readRoom_20 : decode cX4_readRoom 20 = .ok (.invokevirtual 57, 3) := by decide +kernel
theorem dX4_readRoom_23 : decode cX4_readRoom 23 = .ok (.istore_n 2, 1) := by decide +kernel
theorem dX4_readRoom_24 : decode cX4_readRoom 24 = .ok (.iload_n 2, 1) := by decide +kernel
theorem dX4_readRoom_25 : decode cX4_readRoom 25 = .ok (.ifCond .ge 10, 3) := by decide +kernel
theorem dX4_readRoom_28 : decode cX4_readRoom 28 = .ok (.iload_n 1, 1) := by decide +kernel
theorem dX4_readRoom_29 : decode cX4_readRoom 29 = .ok (.iconst 1, 1) := by decide +kernel
theorem dX4_readRoom_30 : decode cX4_readRoom 30 = .ok (.iadd, 1) := by decide +kernel
theorem dX4_readRoom_31 : decode cX4_readRoom 31 = .ok (.invokestatic 54, 3) := by decide +kernel
theorem dX4_readRoom_34 : decode cX4_readRoom 34 = .ok (.ireturn, 1) := by decide +kernel
theorem dX4_readRoom_35 : decode cX4_readRoom 35 = .ok (.aload_n 0, 1) := by decide +kernel
theorem dX4_readRoom_36 : decode cX4_readRoom 36 = .ok (.iload_n 1, 1) := by decide +kernel
theorem dX4_readRoom_37 : decode cX4_readRoom 37 = .ok (.iconst 2, 1) := by decide +kernel
theorem dX4_readRoom_38 : decode cX4_readRoom 38 = .ok (.iadd, 1) := by decide +kernel
theorem dX4_readRoom_39 : decode cX4_readRoom 39 = .ok (.bipush 9, 2) := by decide +kernel
theorem dX4_readRoom_41 : decode cX4_readRoom 41 = .ok (.invokevirtual 57, 3) := by decide +kernel
theorem dX4_readRoom_44 : decode cX4_readRoom 44 = .ok (.istore_n 3, 1) := by decide +kernel
theorem dX4_readRoom_45 : decode cX4_readRoom 45 = .ok (.iload_n 2, 1) := by decide +kernel
theorem dX4_readRoom_46 : decode cX4_readRoom 46 = .ok (.bipush 10, 2) := by decide +kernel
theorem dX4_readRoom_48 : decode cX4_readRoom 48 = .ok (.imul, 1) := by decide +kernel
theorem dX4_readRoom_49 : decode cX4_readRoom 49 = .ok (.iload_n 3, 1) := by decide +kernel
theorem dX4_readRoom_50 : decode cX4_readRoom 50 = .ok (.iadd, 1) := by decide +kernel
theorem dX4_readRoom_51 : decode cX4_readRoom 51 = .ok (.istore 4, 2) := by decide +kernel
theorem dX4_readRoom_53 : decode cX4_readRoom 53 = .ok (.iload_n 3, 1) := by decide +kernel
theorem dX4_readRoom_54 : decode cX4_readRoom 54 = .ok (.ifCond .lt 25, 3) := by decide +kernel
theorem dX4_readRoom_57 : decode cX4_readRoom 57 = .ok (.iload 4, 2) := by decide +kernel
theorem dX4_readRoom_59 : decode cX4_readRoom 59 = .ok (.bipush 12, 2) := by decide +kernel
theorem dX4_readRoom_61 : decode cX4_readRoom 61 = .ok (.if_icmp .ge 18, 3) := by decide +kernel
theorem dX4_readRoom_64 : decode cX4_readRoom 64 = .ok (.aload_n 0, 1) := by decide +kernel
theorem dX4_readRoom_65 : decode cX4_readRoom 65 = .ok (.getfield 12, 3) := by decide +kernel
theorem dX4_readRoom_68 : decode cX4_readRoom 68 = .ok (.getfield 69, 3) := by decide +kernel
theorem dX4_readRoom_71 : decode cX4_readRoom 71 = .ok (.iconst 1, 1) := by decide +kernel
theorem dX4_readRoom_72 : decode cX4_readRoom 72 = .ok (.iload 4, 2) := by decide +kernel
theorem dX4_readRoom_74 : decode cX4_readRoom 74 = .ok (.ishl, 1) := by decide +kernel
theorem dX4_readRoom_75 : decode cX4_readRoom 75 = .ok (.iand, 1) := by decide +kernel
theorem dX4_readRoom_76 : decode cX4_readRoom 76 = .ok (.ifCond .eq 10, 3) := by decide +kernel
theorem dX4_readRoom_79 : decode cX4_readRoom 79 = .ok (.iload_n 1, 1) := by decide +kernel
theorem dX4_readRoom_80 : decode cX4_readRoom 80 = .ok (.iconst 2, 1) := by decide +kernel
theorem dX4_readRoom_81 : decode cX4_readRoom 81 = .ok (.iadd, 1) := by decide +kernel
theorem dX4_readRoom_82 : decode cX4_readRoom 82 = .ok (.invokestatic 54, 3) := by decide +kernel
theorem dX4_readRoom_85 : decode cX4_readRoom 85 = .ok (.ireturn, 1) := by decide +kernel
theorem dX4_readRoom_86 : decode cX4_readRoom 86 = .ok (.aload_n 0, 1) := by decide +kernel
theorem dX4_readRoom_87 : decode cX4_readRoom 87 = .ok (.getfield 12, 3) := by decide +kernel
theorem dX4_readRoom_90 : decode cX4_readRoom 90 = .ok (.dup, 1) := by decide +kernel
theorem dX4_readRoom_91 : decode cX4_readRoom 91 = .ok (.getfield 69, 3) := by decide +kernel
theorem dX4_readRoom_94 : decode cX4_readRoom 94 = .ok (.iconst 1, 1) := by decide +kernel
theorem dX4_readRoom_95 : decode cX4_readRoom 95 = .ok (.iload 4, 2) := by decide +kernel
theorem dX4_readRoom_97 : decode cX4_readRoom 97 = .ok (.ishl, 1) := by decide +kernel
theorem dX4_readRoom_98 : decode cX4_readRoom 98 = .ok (.ior, 1) := by decide +kernel
theorem dX4_readRoom_99 : decode cX4_readRoom 99 = .ok (.putfield 69, 3) := by decide +kernel
theorem dX4_readRoom_102 : decode cX4_readRoom 102 = .ok (.iload_n 1, 1) := by decide +kernel
theorem dX4_readRoom_103 : decode cX4_readRoom 103 = .ok (.iconst 3, 1) := by decide +kernel
theorem dX4_readRoom_104 : decode cX4_readRoom 104 = .ok (.iadd, 1) := by decide +kernel
theorem dX4_readRoom_105 : decode cX4_readRoom 105 = .ok (.ireturn, 1) := by decide +kernel
set_option maxRecDepth 20000 in
theorem ggX5_init_J7_fill_53178 : GoodIn wsX5_init wsJ7_fill_53178 := goodIn_r _ [11] (by decide +kernel) (by decide +kernel)
set_option maxRecDepth 20000 in
theorem gX5_init_J7_fill_53178 : GoodIn wsX5_init (va_wsS RX5 20 yJ7_fill_53178 wsJ7_fill_53178) := goodIn_app (goodIn_of _ (by decide +kernel)) ggX5_init_J7_fill_53178
theorem dX5_init_0 : decode cX5_init 0 = .ok (.aload_n 0, 1) := by decide +kernel
theorem dX5_init_1 : decode cX5_init 1 = .ok (.invokespecial 3, 3) := by decide +kernel
theorem dX5_init_4 : decode cX5_init 4 = .ok (.aload_n 0, 1) := by decide +kernel
theorem dX5_init_5 : decode cX5_init 5 = .ok (.iload_n 1, 1) := by decide +kernel
theorem dX5_init_6 : decode cX5_init 6 = .ok (.iload_n 2, 1) := by decide +kernel
theorem dX5_init_7 : decode cX5_init 7 = .ok (.multianewarray 9 2, 4) := by decide +kernel
theorem dX5_init_11 : decode cX5_init 11 = .ok (.putfield 11, 3) := by decide +kernel
theorem dX5_init_14 : decode cX5_init 14 = .ok (.aload_n 0, 1) := by decide +kernel
theorem dX5_init_15 : decode cX5_init 15 = .ok (.iload_n 1, 1) := by decide +kernel
theorem dX5_init_16 : decode cX5_init 16 = .ok (.newarray .int, 2) := by decide +kernel
theorem dX5_init_18 : decode cX5_init 18 = .ok (.putfield 16, 3) := by decide +kernel
theorem dX5_init_21 : decode cX5_init 21 = .ok (.aload_n 0, 1) := by decide +kernel
theorem dX5_init_22 : decode cX5_init 22 = .ok (.getfield 16, 3) := by decide +kernel
theorem dX5_init_25 : decode cX5_init 25 = .ok (.iconst (-1), 1) := by decide +kernel
theorem dX5_init_26 : decode cX5_init 26 = .ok (.invokestatic 20, 3) := by decide +kernel
theorem dX5_init_29 : decode cX5_init 29 = .ok (.return_, 1) := by decide +kernel
theorem dX5_isNumber_0 : decode cX5_isNumber 0 = .ok (.iload_n 1, 1) := by decide +kernel
theorem dX5_isNumber_1 : decode cX5_isNumber 1 = .ok (.ifCond .lt 16, 3) := by decide +kernel
theorem dX5_isNumber_4 : decode cX5_isNumber 4 = .ok (.iload_n 1, 1) := by decide +kernel
theorem dX5_isNumber_5 : decode cX5_isNumber 5 = .ok (.aload_n 0, 1) := by decide +kernel
theorem dX5_isNumber_6 : decode cX5_isNumber 6 = .ok (.getfield 16, 3) := by decide +kernel
theorem dX5_isNumber_9 : decode cX5_isNumber 9 = .ok (.arraylength, 1) := by decide +kernel
theorem dX5_isNumber_10 : decode cX5_isNumber 10 = .ok (.if_icmp .ge 7, 3) := by decide +kernel
theorem dX5_isNumber_13 : decode cX5_isNumber 13 = .ok (.iconst 1, 1) := by decide +kernel
theorem dX5_isNumber_14 : decode cX5_isNumber 14 = .ok (.goto 4, 3) := by decide +kernel
theorem dX5_isNumber_17 : decode cX5_isNumber 17 = .ok (.iconst 0, 1) := by decide +kernel
theorem dX5_isNumber_18 : decode cX5_isNumber 18 = .ok (.ireturn, 1) := by decide +kernel
set_option maxRecDepth 20000 in
theorem ggX5_isThere_X5_isNumber : GoodIn wsX5_isThere wsX5_isNumber := goodIn_r _ [6, 1, 7, 8] (by decide +kernel) (by decide +kernel)
set_option maxRecDepth 20000 in
theorem gX5_isThere_X5_isNumber : GoodIn wsX5_isThere (wsV RX5 26 RX5 yX5_isNumber wsX5_isNumber) := goodIn_app (goodIn_of _ (by decide +kernel)) ggX5_isThere_X5_isNumber
theorem dX5_isThere_0 : decode cX5_isThere 0 = .ok (.aload_n 0, 1) := by decide +kernel
theorem dX5_isThere_1 : decode cX5_isThere 1 = .ok (.iload_n 1, 1) := by decide +kernel
theorem dX5_isThere_2 : decode cX5_isThere 2 = .ok (.invokevirtual 26, 3) := by decide +kernel
theorem dX5_isThere_5 : decode cX5_isThere 5 = .ok (.ifCond .eq 17, 3) := by decide +kernel
theorem dX5_isThere_8 : decode cX5_isThere 8 = .ok (.aload_n 0, 1) := by decide +kernel
theorem dX5_isThere_9 : decode cX5_isThere 9 = .ok (.getfield 16, 3) := by decide +kernel
theorem dX5_isThere_12 : decode cX5_isThere 12 = .ok (.iload_n 1, 1) := by decide +kernel
theorem dX5_isThere_13 : decode cX5_isThere 13 = .ok (.iaload, 1) := by decide +kernel
theorem dX5_isThere_14 : decode cX5_isThere 14 = .ok (.iconst (-1), 1) := by decide +kernel
theorem dX5_isThere_15 : decode cX5_isThere 15 = .ok (.if_icmp .eq 7, 3) := by decide +kernel
theorem dX5_isThere_18 : decode cX5_isThere 18 = .ok (.iconst 1, 1) := by decide +kernel
theorem dX5_isThere_19 : decode cX5_isThere 19 = .ok (.goto 4, 3) := by decide +kernel
theorem dX5_isThere_22 : decode cX5_isThere 22 = .ok (.iconst 0, 1) := by decide +kernel
theorem dX5_isThere_23 : decode cX5_isThere 23 = .ok (.ireturn, 1) := by decide +kernel
set_option maxRecDepth 20000 in
theorem ggX5_hasPlace_X5_isThere : GoodIn wsX5_hasPlace wsX5_isThere := goodIn_r _ [6, 1, 7, 8, 9, 5, 10, 11, 12] (by decide +kernel) (by decide +kernel)
set_option maxRecDepth 20000 in
theorem gX5_hasPlace_X5_isThere : GoodIn wsX5_hasPlace (wsV RX5 30 RX5 yX5_isThere wsX5_isThere) := goodIn_app (goodIn_of _ (by decide +kernel)) ggX5_hasPlace_X5_isThere
theorem dX5_hasPlace_0 : decode cX5_hasPlace 0 = .ok (.aload_n 0, 1) := by decide +kernel
theorem dX5_hasPlace_1 : decode cX5_hasPlace 1 = .ok (.iload_n 1, 1) := by decide +kernel
theorem dX5_hasPlace_2 : decode cX5_hasPlace 2 = .ok (.invokevirtual 30, 3) := by decide +kernel
theorem dX5_hasPlace_5 : decode cX5_hasPlace 5 = .ok (.ifCond .eq 21, 3) := by decide +kernel
theorem dX5_hasPlace_8 : decode cX5_hasPlace 8 = .ok (.iload_n 2, 1) := by decide +kernel
theorem dX5_hasPlace_9 : decode cX5_hasPlace 9 = .ok (.ifCond .lt 17, 3) := by decide +kernel
theorem dX5_hasPlace_12 : decode cX5_hasPlace 12 = .ok (.iload_n 2, 1) := by decide +kernel
theorem dX5_hasPlace_13 : decode cX5_hasPlace 13 = .ok (.aload_n 0, 1) := by decide +kernel
theorem dX5_hasPlace_14 : decode cX5_hasPlace 14 = .ok (.getfield 16, 3) := by decide +kernel
theorem dX5_hasPlace_17 : decode cX5_hasPlace 17 = .ok (.iload_n 1, 1) := by decide +kernel
theorem dX5_hasPlace_18 : decode cX5_hasPlace 18 = .ok (.iaload, 1) := by decide +kernel
theorem dX5_hasPlace_19 : decode cX5_hasPlace 19 = .ok (.if_icmp .ge 7, 3) := by decide +kernel
theorem dX5_hasPlace_22 : decode cX5_hasPlace 22 = .ok (.iconst 1, 1) := by decide +kernel
theorem dX5_hasPlace_23 : decode cX5_hasPlace 23 = .ok (.goto 4, 3) := by decide +kernel
theorem dX5_hasPlace_26 : decode cX5_hasPlace 26 = .ok (.iconst 0, 1) := by decide +kernel
theorem dX5_hasPlace_27 : decode cX5_hasPlace 27 = .ok (.ireturn, 1) := by decide +kernel
set_option maxRecDepth 20000 in
theorem ggX5_hasPlaces_X5_isThere : GoodIn wsX5_hasPlaces wsX5_isThere := goodIn_r _ [6, 1, 7, 8, 9, 5, 10, 11, 12] (by decide +kernel) (by decide +kernel)
set_option maxRecDepth 20000 in
theorem gX5_hasPlaces_X5_isThere : GoodIn wsX5_hasPlaces (wsV RX5 30 RX5 yX5_isThere wsX5_isThere) := goodIn_app (goodIn_of _ (by decide +kernel)) ggX5_hasPlaces_X5_isThere
theorem dX5_hasPlaces_0 : decode cX5_hasPlaces 0 = .ok (.aload_n 0, 1) := by decide +kernel
theorem dX5_hasPlaces_1 : decode cX5_hasPlaces 1 = .ok (.iload_n 1, 1) := by decide +kernel
theorem dX5_hasPlaces_2 : decode cX5_hasPlaces 2 = .ok (.invokevirtual 30, 3) := by decide +kernel
theorem dX5_hasPlaces_5 : decode cX5_hasPlaces 5 = .ok (.ifCond .eq 37, 3) := by decide +kernel
theorem dX5_hasPlaces_8 : decode cX5_hasPlaces 8 = .ok (.iload_n 2, 1) := by decide +kernel
theorem dX5_hasPlaces_9 : decode cX5_hasPlaces 9 = .ok (.ifCond .lt 33, 3) := by decide +kernel
theorem dX5_hasPlaces_12 : decode cX5_hasPlaces 12 = .ok (.iload_n 2, 1) := by decide +kernel
theorem dX5_hasPlaces_13 : decode cX5_hasPlaces 13 = .ok (.aload_n 0, 1) := by decide +kernel
theorem dX5_hasPlaces_14 : decode cX5_hasPlaces 14 = .ok (.getfield 16, 3) := by decide +kernel
theorem dX5_hasPlaces_17 : decode cX5_hasPlaces 17 = .ok (.iload_n 1, 1) := by decide +kernel
theorem dX5_hasPlaces_18 : decode cX5_hasPlaces 18 = .ok (.iaload, 1) := by decide +kernel
theorem dX5_hasPlaces_19 : decode cX5_hasPlaces 19 = .ok (.if_icmp .gt 23, 3) := by decide +kernel
theorem dX5_hasPlaces_22 : decode cX5_hasPlaces 22 = .ok (.iload_n 3, 1) := by decide +kernel
theorem dX5_hasPlaces_23 : decode cX5_hasPlaces 23 = .ok (.ifCond .lt 19, 3) := by decide +kernel
theorem dX5_hasPlaces_26 : decode cX5_hasPlaces 26 = .ok (.iload_n 3, 1) := by decide +kernel
theorem dX5_hasPlaces_27 : decode cX5_hasPlaces 27 = .ok (.aload_n 0, 1) := by decide +kernel
theorem dX5_hasPlaces_28 : decode cX5_hasPlaces 28 = .ok (.getfield 16, 3) := by decide +kernel
theorem dX5_hasPlaces_31 : decode cX5_hasPlaces 31 = .ok (.iload_n 1, 1) := by decide +kernel
theorem dX5_hasPlaces_32 : decode cX5_hasPlaces 32 = .ok (.iaload, 1) := by decide +kernel
theorem dX5_hasPlaces_33 : decode cX5_hasPlaces 33 = .ok (.iload_n 2, 1) := by decide +kernel
theorem dX5_hasPlaces_34 : decode cX5_hasPlaces 34 = .ok (.isub, 1) := by decide +kernel
theorem dX5_hasPlaces_35 : decode cX5_hasPlaces 35 = .ok (.if_icmp .gt 7, 3) := by decide +kernel
theorem dX5_hasPlaces_38 : decode cX5_hasPlaces 38 = .ok (.iconst 1, 1) := by decide +kernel
theorem dX5_hasPlaces_39 : decode cX5_hasPlaces 39 = .ok (.goto 4, 3) := by decide +kernel
theorem dX5_hasPlaces_42 : decode cX5_hasPlaces 42 = .ok (.iconst 0, 1) := by decide +kernel
theorem dX5_hasPlaces_43 : decode cX5_hasPlaces 43 = .ok (.ireturn, 1) := by decide +kernel
set_option maxRecDepth 20000 in
theorem ggX5_make_X5_isNumber : GoodIn wsX5_make wsX5_isNumber := goodIn_r _ [7, 2, 12, 13] (by decide +kernel) (by decide +kernel)
set_option maxRecDepth 20000 in
theorem gX5_make_X5_isNumber : GoodIn wsX5_make (wsV RX5 26 RX5 yX5_isNumber wsX5_isNumber) := goodIn_app (goodIn_of _ (by decide +kernel)) ggX5_make_X5_isNumber
set_option maxRecDepth 20000 in
theorem ggX5_make_J7_fill_53178 : GoodIn wsX5_make wsJ7_fill_53178 := goodIn_r _ [11] (by decide +kernel) (by decide +kernel)
set_option maxRecDepth 20000 in
theorem gX5_make_J7_fill_53178 : GoodIn wsX5_make (va_wsS RX5 20 yJ7_fill_53178 wsJ7_fill_53178) := goodIn_app (goodIn_of _ (by decide +kernel)) ggX5_make_J7_fill_53178
theorem dX5_make_0 : decode cX5_make 0 = .ok (.aload_n 0, 1) := by decide +kernel
theorem dX5_make_1 : decode cX5_make 1 = .ok (.iload_n 1, 1) := by decide +kernel
theorem dX5_make_2 : decode cX5_make 2 = .ok (.invokevirtual 26, 3) := by decide +kernel
theorem dX5_make_5 : decode cX5_make 5 = .ok (.ifCond .eq 35, 3) := by decide +kernel
theorem dX5_make_8 : decode cX5_make 8 = .ok (.iload_n 2, 1) := by decide +kernel
theorem dX5_make_9 : decode cX5_make 9 = .ok (.ifCond .lt 31, 3) := by decide +kernel
theorem dX5_make_12 : decode cX5_make 12 = .ok (.iload_n 2, 1) := by decide +kernel
theorem dX5_make_13 : decode cX5_make 13 = .ok (.aload_n 0, 1) := by decide +kernel
theorem dX5_make_14 : decode cX5_make 14 = .ok (.getfield 11, 3) := by decide +kernel
theorem dX5_make_17 : decode cX5_make 17 = .ok (.iload_n 1, 1) := by decide +kernel
theorem dX5_make_18 : decode cX5_make 18 = .ok (.aaload, 1) := by decide +kernel
theorem dX5_make_19 : decode cX5_make 19 = .ok (.arraylength, 1) := by decide +kernel
theorem dX5_make_20 : decode cX5_make 20 = .ok (.if_icmp .gt 20, 3) := by decide +kernel
theorem dX5_make_23 : decode cX5_make 23 = .ok (.aload_n 0, 1) := by decide +kernel
theorem dX5_make_24 : decode cX5_make 24 = .ok (.getfield 16, 3) := by decide +kernel
theorem dX5_make_27 : decode cX5_make 27 = .ok (.iload_n 1, 1) := by decide +kernel
theorem dX5_make_28 : decode cX5_make 28 = .ok (.iload_n 2, 1) := by decide +kernel
theorem dX5_make_29 : decode cX5_make 29 = .ok (.iastore, 1) := by decide +kernel
theorem dX5_make_30 : decode cX5_make 30 = .ok (.aload_n 0, 1) := by decide +kernel
theorem dX5_make_31 : decode cX5_make 31 = .ok (.getfield 11, 3) := by decide +kernel
theorem dX5_make_34 : decode cX5_make 34 = .ok (.iload_n 1, 1) := by decide +kernel
theorem dX5_make_35 : decode cX5_make 35 = .ok (.aaload, 1) := by decide +kernel
theorem dX5_make_36 : decode cX5_make 36 = .ok (.iload_n 3, 1) := by decide +kernel
theorem dX5_make_37 : decode cX5_make 37 = .ok (.invokestatic 20, 3) := by decide +kernel
theorem dX5_make_40 : decode cX5_make 40 = .ok (.return_, 1) := by decide +kernel
theorem dX5_howMany_0 : decode cX5_howMany 0 = .ok (.iconst 0, 1) := by decide +kernel
theorem dX5_howMany_1 : decode cX5_howMany 1 = .ok (.istore_n 1, 1) := by decide +kernel
theorem dX5_howMany_2 : decode cX5_howMany 2 = .ok (.iconst 0, 1) := by decide +kernel
theorem dX5_howMany_3 : decode cX5_howMany 3 = .ok (.istore_n 2, 1) := by decide +kernel
theorem dX5_howMany_4 : decode cX5_howMany 4 = .ok (.iload_n 2, 1) := by decide +kernel
theorem dX5_howMany_5 : decode cX5_howMany 5 = .ok (.aload_n 0, 1) := by decide +kernel
theorem dX5_howMany_6 : decode cX5_howMany 6 = .ok (.getfield 16, 3) := by decide +kernel
theorem dX5_howMany_9 : decode cX5_howMany 9 = .ok (.arraylength, 1) := by decide +kernel
theorem dX5_howMany_10 : decode cX5_howMany 10 = .ok (.if_icmp .ge 22, 3) := by decide +kernel
theorem dX5_howMany_13 : decode cX5_howMany 13 = .ok (.aload_n 0, 1) := by decide +kernel
theorem dX5_howMany_14 : decode cX5_howMany 14 = .ok (.getfield 16, 3) := by decide +kernel
theorem dX5_howMany_17 : decode cX5_howMany 17 = .ok (.iload_n 2, 1) := by decide +kernel
theorem dX5_howMany_18 : decode cX5_howMany 18 = .ok (.iaload, 1) := by decide +kernel
theorem dX5_howMany_19 : decode cX5_howMany 19 = .ok (.iconst (-1), 1) := by decide +kernel
theorem dX5_howMany_20 : decode cX5_howMany 20 = .ok (.if_icmp .eq 6, 3) := by decide +kernel
theorem dX5_howMany_23 : decode cX5_howMany 23 = .ok (.iinc 1 1, 3) := by decide +kernel
theorem dX5_howMany_26 : decode cX5_howMany 26 = .ok (.iinc 2 1, 3) := by decide +kernel
theorem dX5_howMany_29 : decode cX5_howMany 29 = .ok (.goto (-25), 3) := by decide +kernel
theorem dX5_howMany_32 : decode cX5_howMany 32 = .ok (.iload_n 1, 1) := by decide +kernel
theorem dX5_howMany_33 : decode cX5_howMany 33 = .ok (.ireturn, 1) := by decide +kernel
theorem dX5_mixInto_0 : decode cX5_mixInto 0 = .ok (.lload_n 1, 1) := by decide +kernel
theorem dX5_mixInto_1 : decode cX5_mixInto 1 = .ok (.lstore_n 3, 1) := by decide +kernel
theorem dX5_mixInto_2 : decode cX5_mixInto 2 = .ok (.iconst 0, 1) := by decide +kernel
theorem dX5_mixInto_3 : decode cX5_mixInto 3 = .ok (.istore 5, 2) := by decide +kernel
theorem dX5_mixInto_5 : decode cX5_mixInto 5 = .ok (.iload 5, 2) := by decide +kernel
theorem dX5_mixInto_7 : decode cX5_mixInto 7 = .ok (.aload_n 0, 1) := by decide +kernel
theorem dX5_mixInto_8 : decode cX5_mixInto 8 = .ok (.getfield 16, 3) := by decide +kernel
theorem dX5_mixInto_11 : decode cX5_mixInto 11 = .ok (.arraylength, 1) := by decide +kernel
theorem dX5_mixInto_12 : decode cX5_mixInto 12 = .ok (.if_icmp .ge 63, 3) := by decide +kernel
theorem dX5_mixInto_15 : decode cX5_mixInto 15 = .ok (.ldc2_w 33, 3) := by decide +kernel
theorem dX5_mixInto_18 : decode cX5_mixInto 18 = .ok (.lload_n 3, 1) := by decide +kernel
theorem dX5_mixInto_19 : decode cX5_mixInto 19 = .ok (.lmul, 1) := by decide +kernel
theorem dX5_mixInto_20 : decode cX5_mixInto 20 = .ok (.aload_n 0, 1) := by decide +kernel
theorem dX5_mixInto_21 : decode cX5_mixInto 21 = .ok (.getfield 16, 3) := by decide +kernel
theorem dX5_mixInto_24 : decode cX5_mixInto 24 = .ok (.iload 5, 2) := by decide +kernel
theorem dX5_mixInto_26 : decode cX5_mixInto 26 = .ok (.iaload, 1) := by decide +kernel
theorem dX5_mixInto_27 : decode cX5_mixInto 27 = .ok (.i2l, 1) := by decide +kernel
theorem dX5_mixInto_28 : decode cX5_mixInto 28 = .ok (.ladd, 1) := by decide +kernel
theorem dX5_mixInto_29 : decode cX5_mixInto 29 = .ok (.lstore_n 3, 1) := by decide +kernel
theorem dX5_mixInto_30 : decode cX5_mixInto 30 = .ok (.iconst 0, 1) := by decide +kernel
theorem dX5_mixInto_31 : decode cX5_mixInto 31 = .ok (.istore 6, 2) := by decide +kernel
theorem dX5_mixInto_33 : decode cX5_mixInto 33 = .ok (.iload 6, 2) := by decide +kernel
theorem dX5_mixInto_35 : decode cX5_mixInto 35 = .ok (.aload_n 0, 1) := by decide +kernel
theorem dX5_mixInto_36 : decode cX5_mixInto 36 = .ok (.getfield 16, 3) := by decide +kernel
theorem dX5_mixInto_39 : decode cX5_mixInto 39 = .ok (.iload 5, 2) := by decide +kernel
theorem dX5_mixInto_41 : decode cX5_mixInto 41 = .ok (.iaload, 1) := by decide +kernel
theorem dX5_mixInto_42 : decode cX5_mixInto 42 = .ok (.if_icmp .ge 27, 3) := by decide +kernel
theorem dX5_mixInto_45 : decode cX5_mixInto 45 = .ok (.ldc2_w 33, 3) := by decide +kernel
theorem dX5_mixInto_48 : decode cX5_mixInto 48 = .ok (.lload_n 3, 1) := by decide +kernel
theorem dX5_mixInto_49 : decode cX5_mixInto 49 = .ok (.lmul, 1) := by decide +kernel
theorem dX5_mixInto_50 : decode cX5_mixInto 50 = .ok (.aload_n 0, 1) := by decide +kernel
theorem dX5_mixInto_51 : decode cX5_mixInto 51 = .ok (.getfield 11, 3) := by decide +kernel
theorem dX5_mixInto_54 : decode cX5_mixInto 54 = .ok (.iload 5, 2) := by decide +kernel
theorem dX5_mixInto_56 : decode cX5_mixInto 56 = .ok (.aaload, 1) := by decide +kernel
theorem dX5_mixInto_57 : decode cX5_mixInto 57 = .ok (.iload 6, 2) := by decide +kernel
theorem dX5_mixInto_59 : decode cX5_mixInto 59 = .ok (.iaload, 1) := by decide +kernel
theorem dX5_mixInto_60 : decode cX5_mixInto 60 = .ok (.i2l, 1) := by decide +kernel
theorem dX5_mixInto_61 : decode cX5_mixInto 61 = .ok (.ladd, 1) := by decide +kernel
theorem dX5_mixInto_62 : decode cX5_mixInto 62 = .ok (.lstore_n 3, 1) := by decide +kernel
theorem dX5_mixInto_63 : decode cX5_mixInto 63 = .ok (.iinc 6 1, 3) := by decide +kernel
theorem dX5_mixInto_66 : decode cX5_mixInto 66 = .ok (.goto (-33), 3) := by decide +kernel
theorem dX5_mixInto_69 : decode cX5_mixInto 69 = .ok (.iinc 5 1, 3) := by decide +kernel
theorem dX5_mixInto_72 : decode cX5_mixInto 72 = .ok (.goto (-67), 3) := by decide +kernel
theorem dX5_mixInto_75 : decode cX5_mixInto 75 = .ok (.lload_n 3, 1) := by decide +kernel
theorem dX5_mixInto_76 : decode cX5_mixInto 76 = .ok (.lreturn, 1) := by decide +kernel
theorem dX6_init_0 : decode cX6_init 0 = .ok (.aload_n 0, 1) := by decide +kernel
theorem dX6_init_1 : decode cX6_init 1 = .ok (.invokespecial 3, 3) := by decide +kernel
theorem dX6_init_4 : decode cX6_init 4 = .ok (.aload_n 0, 1) := by decide +kernel
theorem dX6_init_5 : decode cX6_init 5 = .ok (.iconst 5, 1) := by decide +kernel
theorem dX6_init_6 : decode cX6_init 6 = .ok (.newarray .int, 2) := by decide +kernel
theorem dX6_init_8 : decode cX6_init 8 = .ok (.putfield 9, 3) := by decide +kernel
theorem dX6_init_11 : decode cX6_init 11 = .ok (.aload_n 0, 1) := by decide +kernel
theorem dX6_init_12 : decode cX6_init 12 = .ok (.lconst 0, 1) := by decide +kernel
theorem dX6_init_13 : decode cX6_init 13 = .ok (.putfield 15, 3) := by decide +kernel
theorem dX6_init_16 : decode cX6_init 16 = .ok (.aload_n 0, 1) := by decide +kernel
theorem dX6_init_17 : decode cX6_init 17 = .ok (.iconst 0, 1) := by decide +kernel
theorem dX6_init_18 : decode cX6_init 18 = .ok (.putfield 19, 3) := by decide +kernel
theorem dX6_init_21 : decode cX6_init 21 = .ok (.aload_n 0, 1) := by decide +kernel
theorem dX6_init_22 : decode cX6_init 22 = .ok (.bipush (-9), 2) := by decide +kernel
theorem dX6_init_24 : decode cX6_init 24 = .ok (.putfield 23, 3) := by decide +kernel
theorem dX6_init_27 : decode cX6_init 27 = .ok (.return_, 1) := by decide +kernel
set_option maxRecDepth 20000 in
theorem ggX6_findFirst_X6_attemptFrom : GoodIn wsX6_findFirst wsX6_attemptFrom := goodIn_r _ [5, 6, 7, 8, 9, 10, 11, 12, 13, 4, 14, 15, 16, 17, 18, 19, 20, 21, 22, 23, 24, 25, 26, 27, 28, 29, 30, 31, 32, 33, 34, 35, 36, 37, 38, 39, 40, 41, 42, 43, 44, 45, 46, 47, 48, 49, 50, 51, 52, 53, 54, 55, 56, 57, 58, 59, 60, 61, 62, 63, 64, 1, 2, 3, 65, 66, 67, 68, 69, 70, 71, 72, 73, 74, 75, 76, 77, 78, 79, 80, 81, 82, 83, 84, 85] (by decide +kernel) (by decide +kernel)
set_option maxRecDepth 20000 in
theorem gX6_findFirst_X6_attemptFrom : GoodIn wsX6_findFirst (wsV RX6 26 RX6 yX6_attemptFrom wsX6_attemptFrom) := goodIn_app (goodIn_of _ (by decide +kernel)) ggX6_findFirst_X6_attemptFrom
theorem dX6_findFirst_0 : decode cX6_findFirst 0 = .ok (.aload_n 0, 1) := by decide +kernel
theorem dX6_findFirst_1 : decode cX6_findFirst 1 = .ok (.aload_n 1, 1) := by decide +kernel
theorem dX6_findFirst_2 : decode cX6_findFirst 2 = .ok (.iload_n 2, 1) := by decide +kernel
theorem dX6_findFirst_3 : decode cX6_findFirst 3 = .ok (.iconst 0, 1) := by decide +kernel
theorem dX6_findFirst_4 : decode cX6_findFirst 4 = .ok (.iload_n 3, 1) := by decide +kernel
theorem dX6_findFirst_5 : decode cX6_findFirst 5 = .ok (.iconst 1, 1) := by decide +kernel
theorem dX6_findFirst_6 : decode cX6_findFirst 6 = .ok (.invokevirtual 26, 3) := by decide +kernel
theorem dX6_findFirst_9 : decode cX6_findFirst 9 = .ok (.ireturn, 1) := by decide +kernel
set_option maxRecDepth 20000 in
theorem ggX6_tryAll_X6_attemptFrom : GoodIn wsX6_tryAll wsX6_attemptFrom := goodIn_r _ [8, 9, 10, 11, 12, 13, 14, 15, 16, 7, 17, 1, 2, 3, 18, 19, 20, 21, 22, 23, 24, 25, 26, 27, 28, 29, 30, 31, 32, 33, 34, 35, 36, 37, 38, 39, 40, 41, 42, 43, 44, 45, 46, 47, 48, 49, 50, 51, 52, 53, 54, 55, 56, 57, 58, 59, 60, 61, 62, 63, 64, 4, 5, 6, 65, 66, 67, 68, 73, 74, 75, 76, 77, 78, 79, 80, 81, 82, 83, 84, 85, 69, 70, 71, 72] (by decide +kernel) (by decide +kernel)
set_option maxRecDepth 20000 in
theorem gX6_tryAll_X6_attemptFrom : GoodIn wsX6_tryAll (wsV RX6 26 RX6 yX6_attemptFrom wsX6_attemptFrom) := goodIn_app (goodIn_of _ (by decide +kernel)) ggX6_tryAll_X6_attemptFrom
theorem dX6_tryAll_0 : decode cX6_tryAll 0 = .ok (.aload_n 0, 1) := by decide +kernel
theorem dX6_tryAll_1 : decode cX6_tryAll 1 = .ok (.lconst 0, 1) := by decide +kernel
theorem dX6_tryAll_2 : decode cX6_tryAll 2 = .ok (.putfield 15, 3) := by decide +kernel
theorem dX6_tryAll_5 : decode cX6_tryAll 5 = .ok (.aload_n 0, 1) := by decide +kernel
theorem dX6_tryAll_6 : decode cX6_tryAll 6 = .ok (.iconst 0, 1) := by decide +kernel
theorem dX6_tryAll_7 : decode cX6_tryAll 7 = .ok (.putfield 19, 3) := by decide +kernel
theorem dX6_tryAll_10 : decode cX6_tryAll 10 = .ok (.aload_n 0, 1) := by decide +kernel
theorem dX6_tryAll_11 : decode cX6_tryAll 11 = .ok (.bipush (-9), 2) := by decide +kernel
theorem dX6_tryAll_13 : decode cX6_tryAll 13 = .ok (.putfield 23, 3) := by decide +kernel
theorem dX6_tryAll_16 : decode cX6_tryAll 16 = .ok (.aload_n 0, 1) := by decide +kernel
theorem dX6_tryAll_17 : decode cX6_tryAll 17 = .ok (.aload_n 1, 1) := by decide +kernel
theorem dX6_tryAll_18 : decode cX6_tryAll 18 = .ok (.iload_n 2, 1) := by decide +kernel
theorem dX6_tryAll_19 : decode cX6_tryAll 19 = .ok (.iconst 0, 1) := by decide +kernel
theorem dX6_tryAll_20 : decode cX6_tryAll 20 = .ok (.iload_n 3, 1) := by decide +kernel
theorem dX6_tryAll_21 : decode cX6_tryAll 21 = .ok (.iconst 0, 1) := by decide +kernel
theorem dX6_tryAll_22 : decode cX6_tryAll 22 = .ok (.invokevirtual 26, 3) := by decide +kernel
theorem dX6_tryAll_25 : decode cX6_tryAll 25 = .ok (.pop, 1) := by decide +kernel
theorem dX6_tryAll_26 : decode cX6_tryAll 26 = .ok (.return_, 1) := by decide +kernel
set_option maxRecDepth 20000 in
theorem ggX6_attemptFrom_X6_noteEnd : GoodIn wsX6_attemptFrom wsX6_noteEnd := goodIn_r _ [10, 11, 12, 1, 13, 4, 81, 82, 83, 84, 68, 69, 70, 71, 72, 73, 74, 75, 76, 77, 78, 79, 80] (by decide +kernel) (by decide +kernel)
set_option maxRecDepth 20000 in
theorem gX6_attemptFrom_X6_noteEnd : GoodIn wsX6_attemptFrom (wsV RX6 35 RX6 yX6_noteEnd wsX6_noteEnd) := goodIn_app (goodIn_of _ (by decide +kernel)) ggX6_attemptFrom_X6_noteEnd
set_option maxRecDepth 20000 in
theorem ggX6_attemptFrom_X2_bearsSaying : GoodIn wsX6_attemptFrom wsX2_bearsSaying := goodIn_r _ [18, 19, 20, 21, 22, 23, 17, 24, 25, 26, 27, 28, 29, 30, 31, 32, 33, 34, 35, 36, 37, 38, 39, 40, 41, 42, 43, 44, 45, 46, 68, 69, 70, 71, 72, 73, 74, 75, 76, 77, 78, 79, 80] (by decide +kernel) (by decide +kernel)
set_option maxRecDepth 20000 in
theorem gX6_attemptFrom_X2_bearsSaying : GoodIn wsX6_attemptFrom (wsV RX6 45 RX2 yX2_bearsSaying wsX2_bearsSaying) := goodIn_app (goodIn_of _ (by decide +kernel)) ggX6_attemptFrom_X2_bearsSaying
set_option maxRecDepth 20000 in
theorem ggX6_attemptFrom_X2_attempt : GoodIn wsX6_attemptFrom wsX2_attempt := goodIn_r _ [50, 51, 52, 53, 17, 54, 19, 43, 44, 45, 46, 55, 56, 57, 58, 32, 59, 27, 20, 60, 21, 22, 23, 24, 25, 26, 28, 29, 30, 31, 33, 34, 35, 36, 37, 38, 39, 40, 41, 42, 68, 69, 70, 71, 72, 73, 74, 75, 76, 77, 78, 79, 80] (by decide +kernel) (by decide +kernel)
set_option maxRecDepth 20000 in
theorem gX6_attemptFrom_X2_attempt : GoodIn wsX6_attemptFrom (wsV RX6 52 RX2 yX2_attempt wsX2_attempt) := goodIn_app (goodIn_of _ (by decide +kernel)) ggX6_attemptFrom_X2_attempt
set_option maxRecDepth 20000 in
theorem ggX6_attemptFrom_X6_attemptFrom : GoodIn wsX6_attemptFrom wsX6_attemptFrom := goodIn_r _ [0, 1, 2, 3, 4, 5, 6, 7, 8, 9, 10, 11, 12, 13, 14, 15, 16, 17, 18, 19, 20, 21, 22, 23, 24, 25, 26, 27, 28, 29, 30, 31, 32, 33, 34, 35, 36, 37, 38, 39, 40, 41, 42, 43, 44, 45, 46, 47, 48, 49, 50, 51, 52, 53, 54, 55, 56, 57, 58, 59, 60, 61, 62, 63, 64, 65, 66, 67, 68, 69, 70, 71, 72, 73, 74, 75, 76, 77, 78, 79, 80, 81, 82, 83, 84] (by decide +kernel) (by decide +kernel)
set_option maxRecDepth 20000 in
theorem gX6_attemptFrom_X6_attemptFrom : GoodIn wsX6_attemptFrom (wsV RX6 26 RX6 yX6_attemptFrom wsX6_attemptFrom) := goodIn_app (goodIn_of _ (by decide +kernel)) ggX6_attemptFrom_X6_attemptFrom
set_option maxRecDepth 20000 in
theorem ggX6_attemptFrom_X2_takeBack : GoodIn wsX6_attemptFrom wsX2_takeBack := goodIn_r _ [67, 27, 19, 32, 68, 69, 70, 71, 72, 73, 74, 75, 76, 77, 78, 79, 80] (by decide +kernel) (by decide +kernel)
set_option maxRecDepth 20000 in
theorem gX6_attemptFrom_X2_takeBack : GoodIn wsX6_attemptFrom (wsV RX6 56 RX2 yX2_takeBack wsX2_takeBack) := goodIn_app (goodIn_of _ (by decide +kernel)) ggX6_attemptFrom_X2_takeBack
theorem dX6_attemptFrom_0 : decode cX6_attemptFrom 0 = .ok (.iload_n 3, 1) := by decide +kernel
theorem dX6_attemptFrom_1 : decode cX6_attemptFrom 1 = .ok (.iload 4, 2) := by decide +kernel
theorem dX6_attemptFrom_3 : decode cX6_attemptFrom 3 = .ok (.if_icmp .ge 8, 3) := by decide +kernel
theorem dX6_attemptFrom_6 : decode cX6_attemptFrom 6 = .ok (.iload_n 3, 1) := by decide +kernel
theorem dX6_attemptFrom_7 : decode cX6_attemptFrom 7 = .ok (.iconst 5, 1) := by decide +kernel
theorem dX6_attemptFrom_8 : decode cX6_attemptFrom 8 = .ok (.if_icmp .lt 31, 3) := by decide +kernel
theorem dX6_attemptFrom_11 : decode cX6_attemptFrom 11 = .ok (.iload 5, 2) := by decide +kernel
theorem dX6_attemptFrom_13 : decode cX6_attemptFrom 13 = .ok (.ifCond .eq 20, 3) := by decide +kernel
theorem dX6_attemptFrom_16 : decode cX6_attemptFrom 16 = .ok (.aload_n 1, 1) := by decide +kernel
theorem dX6_attemptFrom_17 : decode cX6_attemptFrom 17 = .ok (.getfield 30, 3) := by decide +kernel
theorem dX6_attemptFrom_20 : decode cX6_attemptFrom 20 = .ok (.bipush 7, 2) := by decide +kernel
theorem dX6_attemptFrom_22 : decode cX6_attemptFrom 22 = .ok (.if_icmp .ne 7, 3) := by decide +kernel
theorem dX6_attemptFrom_25 : decode cX6_attemptFrom 25 = .ok (.iconst 1, 1) := by decide +kernel
theorem dX6_attemptFrom_26 : decode cX6_attemptFrom 26 = .ok (.goto 12, 3) := by decide +kernel
theorem dX6_attemptFrom_29 : decode cX6_attemptFrom 29 = .ok (.iconst 0, 1) := by decide +kernel
theorem dX6_attemptFrom_30 : decode cX6_attemptFrom 30 = .ok (.goto 8, 3) := by decide +kernel
theorem dX6_attemptFrom_33 : decode cX6_attemptFrom 33 = .ok (.aload_n 0, 1) := by decide +kernel
theorem dX6_attemptFrom_34 : decode cX6_attemptFrom 34 = .ok (.aload_n 1, 1) := by decide +kernel
theorem dX6_attemptFrom_35 : decode cX6_attemptFrom 35 = .ok (.invokevirtual 35, 3) := by decide +kernel
theorem dX6_attemptFrom_38 : decode cX6_attemptFrom 38 = .ok (.ireturn, 1) := by decide +kernel
theorem dX6_attemptFrom_39 : decode cX6_attemptFrom 39 = .ok (.iload_n 2, 1) := by decide +kernel
theorem dX6_attemptFrom_40 : decode cX6_attemptFrom 40 = .ok (.iconst 1, 1) := by decide +kernel
theorem dX6_attemptFrom_41 : decode cX6_attemptFrom 41 = .ok (.iadd, 1) := by decide +kernel
theorem dX6_attemptFrom_42 : decode cX6_attemptFrom 42 = .ok (.aload_n 1, 1) := by decide +kernel
theorem dX6_attemptFrom_43 : decode cX6_attemptFrom 43 = .ok (.getfield 39, 3) := by decide +kernel
theorem dX6_attemptFrom_46 : decode cX6_attemptFrom 46 = .ok (.if_icmp .ge 9, 3) := by decide +kernel
theorem dX6_attemptFrom_49 : decode cX6_attemptFrom 49 = .ok (.iload_n 2, 1) := by decide +kernel
theorem dX6_attemptFrom_50 : decode cX6_attemptFrom 50 = .ok (.iconst 1, 1) := by decide +kernel
theorem dX6_attemptFrom_51 : decode cX6_attemptFrom 51 = .ok (.iadd, 1) := by decide +kernel
theorem dX6_attemptFrom_52 : decode cX6_attemptFrom 52 = .ok (.goto 4, 3) := by decide +kernel
theorem dX6_attemptFrom_55 : decode cX6_attemptFrom 55 = .ok (.iconst 0, 1) := by decide +kernel
theorem dX6_attemptFrom_56 : decode cX6_attemptFrom 56 = .ok (.istore 6, 2) := by decide +kernel
theorem dX6_attemptFrom_58 : decode cX6_attemptFrom 58 = .ok (.iconst (-1), 1) := by decide +kernel
theorem dX6_attemptFrom_59 : decode cX6_attemptFrom 59 = .ok (.istore 7, 2) := by decide +kernel
theorem dX6_attemptFrom_61 : decode cX6_attemptFrom 61 = .ok (.iload 7, 2) := by decide +kernel
theorem dX6_attemptFrom_63 : decode cX6_attemptFrom 63 = .ok (.aload_n 1, 1) := by decide +kernel
theorem dX6_attemptFrom_64 : decode cX6_attemptFrom 64 = .ok (.getfield 42, 3) := by decide +kernel
theorem dX6_attemptFrom_67 : decode cX6_attemptFrom 67 = .ok (.if_icmp .ge 88, 3) := by decide +kernel
theorem dX6_attemptFrom_70 : decode cX6_attemptFrom 70 = .ok (.iload 7, 2) := by decide +kernel
theorem dX6_attemptFrom_72 : decode cX6_attemptFrom 72 = .ok (.iconst (-1), 1) := by decide +kernel
theorem dX6_attemptFrom_73 : decode cX6_attemptFrom 73 = .ok (.if_icmp .eq 16, 3) := by decide +kernel
theorem dX6_attemptFrom_76 : decode cX6_attemptFrom 76 = .ok (.aload_n 1, 1) := by decide +kernel
theorem dX6_attemptFrom_77 : decode cX6_attemptFrom 77 = .ok (.iload_n 2, 1) := by decide +kernel
theorem dX6_attemptFrom_78 : decode cX6_attemptFrom 78 = .ok (.iload 7, 2) := by decide +kernel
theorem dX6_attemptFrom_80 : decode cX6_attemptFrom 80 = .ok (.invokevirtual 45, 3) := by decide +kernel
theorem dX6_attemptFrom_83 : decode cX6_attemptFrom 83 = .ok (.ifCond .ne 6, 3) := by decide +kernel
theorem dX6_attemptFrom_86 : decode cX6_attemptFrom 86 = .ok (.goto 63, 3) := by decide +kernel
theorem dX6_attemptFrom_89 : decode cX6_attemptFrom 89 = .ok (.aload_n 1, 1) := by decide +kernel
theorem dX6_attemptFrom_90 : decode cX6_attemptFrom 90 = .ok (.getfield 49, 3) := by decide +kernel
theorem dX6_attemptFrom_93 : decode cX6_attemptFrom 93 = .ok (.istore 8, 2) := by decide +kernel
theorem dX6_attemptFrom_95 : decode cX6_attemptFrom 95 = .ok (.aload_n 1, 1) := by decide +kernel
theorem dX6_attemptFrom_96 : decode cX6_attemptFrom 96 = .ok (.getfield 30, 3) := by decide +kernel
theorem dX6_attemptFrom_99 : decode cX6_attemptFrom 99 = .ok (.istore 9, 2) := by decide +kernel
theorem dX6_attemptFrom_101 : decode cX6_attemptFrom 101 = .ok (.aload_n 0, 1) := by decide +kernel
theorem dX6_attemptFrom_102 : decode cX6_attemptFrom 102 = .ok (.getfield 9, 3) := by decide +kernel
