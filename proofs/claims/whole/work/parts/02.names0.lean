theorem dX0_init_0 : decode cX0_init 0 = .ok (.aload_n 0, 1) := by decide +kernel
theorem dX0_init_1 : decode cX0_init 1 = .ok (.invokespecial 3, 3) := by decide +kernel
theorem dX0_init_4 : decode cX0_init 4 = .ok (.aload_n 0, 1) := by decide +kernel
theorem dX0_init_5 : decode cX0_init 5 = .ok (.bipush 37, 2) := by decide +kernel
theorem dX0_init_7 : decode cX0_init 7 = .ok (.newarray .int, 2) := by decide +kernel
theorem dX0_init_9 : decode cX0_init 9 = .ok (.putfield 9, 3) := by decide +kernel
theorem dX0_init_12 : decode cX0_init 12 = .ok (.return_, 1) := by decide +kernel
theorem dX0_forget_0 : decode cX0_forget 0 = .ok (.aload_n 0, 1) := by decide +kernel
theorem dX0_forget_1 : decode cX0_forget 1 = .ok (.iconst 0, 1) := by decide +kernel
theorem dX0_forget_2 : decode cX0_forget 2 = .ok (.putfield 15, 3) := by decide +kernel
theorem dX0_forget_5 : decode cX0_forget 5 = .ok (.aload_n 0, 1) := by decide +kernel
theorem dX0_forget_6 : decode cX0_forget 6 = .ok (.iconst 0, 1) := by decide +kernel
theorem dX0_forget_7 : decode cX0_forget 7 = .ok (.putfield 19, 3) := by decide +kernel
theorem dX0_forget_10 : decode cX0_forget 10 = .ok (.return_, 1) := by decide +kernel
theorem dX0_done_0 : decode cX0_done 0 = .ok (.aload_n 0, 1) := by decide +kernel
theorem dX0_done_1 : decode cX0_done 1 = .ok (.getfield 15, 3) := by decide +kernel
theorem dX0_done_4 : decode cX0_done 4 = .ok (.ireturn, 1) := by decide +kernel
theorem dX0_undone_0 : decode cX0_undone 0 = .ok (.aload_n 0, 1) := by decide +kernel
theorem dX0_undone_1 : decode cX0_undone 1 = .ok (.getfield 19, 3) := by decide +kernel
theorem dX0_undone_4 : decode cX0_undone 4 = .ok (.aload_n 0, 1) := by decide +kernel
theorem dX0_undone_5 : decode cX0_undone 5 = .ok (.getfield 15, 3) := by decide +kernel
theorem dX0_undone_8 : decode cX0_undone 8 = .ok (.isub, 1) := by decide +kernel
theorem dX0_undone_9 : decode cX0_undone 9 = .ok (.ireturn, 1) := by decide +kernel
theorem dX0_add_0 : decode cX0_add 0 = .ok (.aload_n 0, 1) := by decide +kernel
theorem dX0_add_1 : decode cX0_add 1 = .ok (.getfield 15, 3) := by decide +kernel
theorem dX0_add_4 : decode cX0_add 4 = .ok (.ifCond .lt 15, 3) := by decide +kernel
theorem dX0_add_7 : decode cX0_add 7 = .ok (.aload_n 0, 1) := by decide +kernel
theorem dX0_add_8 : decode cX0_add 8 = .ok (.getfield 15, 3) := by decide +kernel
theorem dX0_add_11 : decode cX0_add 11 = .ok (.aload_n 0, 1) := by decide +kernel
theorem dX0_add_12 : decode cX0_add 12 = .ok (.getfield 9, 3) := by decide +kernel
theorem dX0_add_15 : decode cX0_add 15 = .ok (.arraylength, 1) := by decide +kernel
theorem dX0_add_16 : decode cX0_add 16 = .ok (.if_icmp .lt 5, 3) := by decide +kernel
theorem dX0_add_19 : decode cX0_add 19 = .ok (.iconst 0, 1) := by decide +kernel
theorem dX0_add_20 : decode cX0_add 20 = .ok (.ireturn, 1) := by decide +kernel
theorem dX0_add_21 : decode cX0_add 21 = .ok (.aload_n 0, 1) := by decide +kernel
theorem dX0_add_22 : decode cX0_add 22 = .ok (.getfield 9, 3) := by decide +kernel
theorem dX0_add_25 : decode cX0_add 25 = .ok (.aload_n 0, 1) := by decide +kernel
theorem dX0_add_26 : decode cX0_add 26 = .ok (.getfield 15, 3) := by decide +kernel
theorem dX0_add_29 : decode cX0_add 29 = .ok (.iload_n 1, 1) := by decide +kernel
theorem dX0_add_30 : decode cX0_add 30 = .ok (.iastore, 1) := by decide +kernel
theorem dX0_add_31 : decode cX0_add 31 = .ok (.aload_n 0, 1) := by decide +kernel
theorem dX0_add_32 : decode cX0_add 32 = .ok (.dup, 1) := by decide +kernel
theorem dX0_add_33 : decode cX0_add 33 = .ok (.getfield 15, 3) := by decide +kernel
theorem dX0_add_36 : decode cX0_add 36 = .ok (.iconst 1, 1) := by decide +kernel
theorem dX0_add_37 : decode cX0_add 37 = .ok (.iadd, 1) := by decide +kernel
theorem dX0_add_38 : decode cX0_add 38 = .ok (.putfield 15, 3) := by decide +kernel
theorem dX0_add_41 : decode cX0_add 41 = .ok (.aload_n 0, 1) := by decide +kernel
theorem dX0_add_42 : decode cX0_add 42 = .ok (.aload_n 0, 1) := by decide +kernel
theorem dX0_add_43 : decode cX0_add 43 = .ok (.getfield 15, 3) := by decide +kernel
theorem dX0_add_46 : decode cX0_add 46 = .ok (.putfield 19, 3) := by decide +kernel
theorem dX0_add_49 : decode cX0_add 49 = .ok (.iconst 1, 1) := by decide +kernel
theorem dX0_add_50 : decode cX0_add 50 = .ok (.ireturn, 1) := by decide +kernel
theorem dX0_back_0 : decode cX0_back 0 = .ok (.aload_n 0, 1) := by decide +kernel
theorem dX0_back_1 : decode cX0_back 1 = .ok (.getfield 15, 3) := by decide +kernel
theorem dX0_back_4 : decode cX0_back 4 = .ok (.iconst 1, 1) := by decide +kernel
theorem dX0_back_5 : decode cX0_back 5 = .ok (.isub, 1) := by decide +kernel
theorem dX0_back_6 : decode cX0_back 6 = .ok (.istore_n 1, 1) := by decide +kernel
theorem dX0_back_7 : decode cX0_back 7 = .ok (.iload_n 1, 1) := by decide +kernel
theorem dX0_back_8 : decode cX0_back 8 = .ok (.ifCond .lt 12, 3) := by decide +kernel
theorem dX0_back_11 : decode cX0_back 11 = .ok (.iload_n 1, 1) := by decide +kernel
theorem dX0_back_12 : decode cX0_back 12 = .ok (.aload_n 0, 1) := by decide +kernel
theorem dX0_back_13 : decode cX0_back 13 = .ok (.getfield 9, 3) := by decide +kernel
theorem dX0_back_16 : decode cX0_back 16 = .ok (.arraylength, 1) := by decide +kernel
theorem dX0_back_17 : decode cX0_back 17 = .ok (.if_icmp .lt 5, 3) := by decide +kernel
theorem dX0_back_20 : decode cX0_back 20 = .ok (.iconst (-1), 1) := by decide +kernel
theorem dX0_back_21 : decode cX0_back 21 = .ok (.ireturn, 1) := by decide +kernel
theorem dX0_back_22 : decode cX0_back 22 = .ok (.aload_n 0, 1) := by decide +kernel
theorem dX0_back_23 : decode cX0_back 23 = .ok (.iload_n 1, 1) := by decide +kernel
theorem dX0_back_24 : decode cX0_back 24 = .ok (.putfield 15, 3) := by decide +kernel
theorem dX0_back_27 : decode cX0_back 27 = .ok (.aload_n 0, 1) := by decide +kernel
theorem dX0_back_28 : decode cX0_back 28 = .ok (.getfield 9, 3) := by decide +kernel
theorem dX0_back_31 : decode cX0_back 31 = .ok (.iload_n 1, 1) := by decide +kernel
theorem dX0_back_32 : decode cX0_back 32 = .ok (.iaload, 1) := by decide +kernel
theorem dX0_back_33 : decode cX0_back 33 = .ok (.ireturn, 1) := by decide +kernel
theorem dX0_forth_0 : decode cX0_forth 0 = .ok (.aload_n 0, 1) := by decide +kernel
theorem dX0_forth_1 : decode cX0_forth 1 = .ok (.getfield 15, 3) := by decide +kernel
theorem dX0_forth_4 : decode cX0_forth 4 = .ok (.istore_n 1, 1) := by decide +kernel
theorem dX0_forth_5 : decode cX0_forth 5 = .ok (.iload_n 1, 1) := by decide +kernel
theorem dX0_forth_6 : decode cX0_forth 6 = .ok (.ifCond .lt 20, 3) := by decide +kernel
theorem dX0_forth_9 : decode cX0_forth 9 = .ok (.iload_n 1, 1) := by decide +kernel
theorem dX0_forth_10 : decode cX0_forth 10 = .ok (.aload_n 0, 1) := by decide +kernel
theorem dX0_forth_11 : decode cX0_forth 11 = .ok (.getfield 19, 3) := by decide +kernel
theorem dX0_forth_14 : decode cX0_forth 14 = .ok (.if_icmp .ge 12, 3) := by decide +kernel
theorem dX0_forth_17 : decode cX0_forth 17 = .ok (.iload_n 1, 1) := by decide +kernel
theorem dX0_forth_18 : decode cX0_forth 18 = .ok (.aload_n 0, 1) := by decide +kernel
theorem dX0_forth_19 : decode cX0_forth 19 = .ok (.getfield 9, 3) := by decide +kernel
theorem dX0_forth_22 : decode cX0_forth 22 = .ok (.arraylength, 1) := by decide +kernel
theorem dX0_forth_23 : decode cX0_forth 23 = .ok (.if_icmp .lt 5, 3) := by decide +kernel
theorem dX0_forth_26 : decode cX0_forth 26 = .ok (.iconst (-1), 1) := by decide +kernel
theorem dX0_forth_27 : decode cX0_forth 27 = .ok (.ireturn, 1) := by decide +kernel
theorem dX0_forth_28 : decode cX0_forth 28 = .ok (.aload_n 0, 1) := by decide +kernel
theorem dX0_forth_29 : decode cX0_forth 29 = .ok (.iload_n 1, 1) := by decide +kernel
theorem dX0_forth_30 : decode cX0_forth 30 = .ok (.iconst 1, 1) := by decide +kernel
theorem dX0_forth_31 : decode cX0_forth 31 = .ok (.iadd, 1) := by decide +kernel
theorem dX0_forth_32 : decode cX0_forth 32 = .ok (.putfield 15, 3) := by decide +kernel
theorem dX0_forth_35 : decode cX0_forth 35 = .ok (.aload_n 0, 1) := by decide +kernel
theorem dX0_forth_36 : decode cX0_forth 36 = .ok (.getfield 9, 3) := by decide +kernel
theorem dX0_forth_39 : decode cX0_forth 39 = .ok (.iload_n 1, 1) := by decide +kernel
theorem dX0_forth_40 : decode cX0_forth 40 = .ok (.iaload, 1) := by decide +kernel
theorem dX0_forth_41 : decode cX0_forth 41 = .ok (.ireturn, 1) := by decide +kernel
set_option maxRecDepth 20000 in
theorem ggX1_init_X3_init : GoodIn wsX1_init wsX3_init := goodIn_r _ [13, 14, 2, 3, 15, 16, 17, 18, 19, 20, 21] (by decide +kernel) (by decide +kernel)
set_option maxRecDepth 20000 in
theorem gX1_init_X3_init : GoodIn wsX1_init (wsX3_init) := ggX1_init_X3_init
theorem dX1_init_0 : decode cX1_init 0 = .ok (.aload_n 0, 1) := by decide +kernel
theorem dX1_init_1 : decode cX1_init 1 = .ok (.invokespecial 3, 3) := by decide +kernel
theorem dX1_init_4 : decode cX1_init 4 = .ok (.aload_n 0, 1) := by decide +kernel
theorem dX1_init_5 : decode cX1_init 5 = .ok (.new 9, 3) := by decide +kernel
theorem dX1_init_8 : decode cX1_init 8 = .ok (.dup, 1) := by decide +kernel
theorem dX1_init_9 : decode cX1_init 9 = .ok (.sipush 1024, 3) := by decide +kernel
theorem dX1_init_12 : decode cX1_init 12 = .ok (.invokespecial 11, 3) := by decide +kernel
theorem dX1_init_15 : decode cX1_init 15 = .ok (.putfield 14, 3) := by decide +kernel
theorem dX1_init_18 : decode cX1_init 18 = .ok (.aload_n 0, 1) := by decide +kernel
theorem dX1_init_19 : decode cX1_init 19 = .ok (.new 9, 3) := by decide +kernel
theorem dX1_init_22 : decode cX1_init 22 = .ok (.dup, 1) := by decide +kernel
theorem dX1_init_23 : decode cX1_init 23 = .ok (.ldc 20, 2) := by decide +kernel
theorem dX1_init_25 : decode cX1_init 25 = .ok (.invokespecial 11, 3) := by decide +kernel
theorem dX1_init_28 : decode cX1_init 28 = .ok (.putfield 21, 3) := by decide +kernel
theorem dX1_init_31 : decode cX1_init 31 = .ok (.aload_n 0, 1) := by decide +kernel
theorem dX1_init_32 : decode cX1_init 32 = .ok (.new 9, 3) := by decide +kernel
theorem dX1_init_35 : decode cX1_init 35 = .ok (.dup, 1) := by decide +kernel
theorem dX1_init_36 : decode cX1_init 36 = .ok (.ldc 20, 2) := by decide +kernel
theorem dX1_init_38 : decode cX1_init 38 = .ok (.invokespecial 11, 3) := by decide +kernel
theorem dX1_init_41 : decode cX1_init 41 = .ok (.putfield 24, 3) := by decide +kernel
theorem dX1_init_44 : decode cX1_init 44 = .ok (.return_, 1) := by decide +kernel
set_option maxRecDepth 20000 in
theorem ggX1_ask_X2_rows : GoodIn wsX1_ask wsX2_rows := goodIn_r _ [11, 12, 91, 92, 93, 94, 95, 96, 97] (by decide +kernel) (by decide +kernel)
set_option maxRecDepth 20000 in
theorem gX1_ask_X2_rows : GoodIn wsX1_ask (wsV RX1 31 RX2 yX2_rows wsX2_rows) := goodIn_app (goodIn_of _ (by decide +kernel)) ggX1_ask_X2_rows
set_option maxRecDepth 20000 in
theorem ggX1_ask_X2_columns : GoodIn wsX1_ask wsX2_columns := goodIn_r _ [16, 17, 91, 92, 93, 94, 95, 96, 97] (by decide +kernel) (by decide +kernel)
set_option maxRecDepth 20000 in
theorem gX1_ask_X2_columns : GoodIn wsX1_ask (wsV RX1 39 RX2 yX2_columns wsX2_columns) := goodIn_app (goodIn_of _ (by decide +kernel)) ggX1_ask_X2_columns
set_option maxRecDepth 20000 in
theorem ggX1_ask_X1_prepare : GoodIn wsX1_ask wsX1_prepare := goodIn_r _ [22, 3, 4, 23, 24, 25, 26, 27, 28, 29, 30, 31, 32, 33, 34, 35, 5, 6, 36, 37, 38, 10, 39, 40, 41, 42, 43, 44, 45, 46, 47, 48, 49, 50, 51, 52, 53, 54, 55, 56, 57, 58, 59, 60, 61, 62, 63, 64, 65, 66, 67, 68, 17, 69, 70, 71, 72, 73, 74, 75, 76, 77, 78, 79, 80, 81, 82, 83, 84, 85, 86, 87, 88, 89, 90, 91, 92, 93, 94, 95, 96, 97, 98] (by decide +kernel) (by decide +kernel)
set_option maxRecDepth 20000 in
theorem gX1_ask_X1_prepare : GoodIn wsX1_ask (wsV RX1 54 RX1 yX1_prepare wsX1_prepare) := goodIn_app (goodIn_of _ (by decide +kernel)) ggX1_ask_X1_prepare
theorem dX1_ask_0 : decode cX1_ask 0 = .ok (.aload_n 0, 1) := by decide +kernel
theorem dX1_ask_1 : decode cX1_ask 1 = .ok (.getfield 27, 3) := by decide +kernel
theorem dX1_ask_4 : decode cX1_ask 4 = .ok (.aload_n 1, 1) := by decide +kernel
theorem dX1_ask_5 : decode cX1_ask 5 = .ok (.invokevirtual 31, 3) := by decide +kernel
theorem dX1_ask_8 : decode cX1_ask 8 = .ok (.if_icmp .ne 18, 3) := by decide +kernel
theorem dX1_ask_11 : decode cX1_ask 11 = .ok (.aload_n 0, 1) := by decide +kernel
theorem dX1_ask_12 : decode cX1_ask 12 = .ok (.getfield 36, 3) := by decide +kernel
theorem dX1_ask_15 : decode cX1_ask 15 = .ok (.aload_n 1, 1) := by decide +kernel
theorem dX1_ask_16 : decode cX1_ask 16 = .ok (.invokevirtual 39, 3) := by decide +kernel
theorem dX1_ask_19 : decode cX1_ask 19 = .ok (.if_icmp .ne 7, 3) := by decide +kernel
theorem dX1_ask_22 : decode cX1_ask 22 = .ok (.iconst 1, 1) := by decide +kernel
theorem dX1_ask_23 : decode cX1_ask 23 = .ok (.goto 4, 3) := by decide +kernel
theorem dX1_ask_26 : decode cX1_ask 26 = .ok (.iconst 0, 1) := by decide +kernel
theorem dX1_ask_27 : decode cX1_ask 27 = .ok (.istore 10, 2) := by decide +kernel
theorem dX1_ask_29 : decode cX1_ask 29 = .ok (.aload_n 0, 1) := by decide +kernel
theorem dX1_ask_30 : decode cX1_ask 30 = .ok (.getfield 41, 3) := by decide +kernel
theorem dX1_ask_33 : decode cX1_ask 33 = .ok (.lload_n 2, 1) := by decide +kernel
theorem dX1_ask_34 : decode cX1_ask 34 = .ok (.lcmp, 1) := by decide +kernel
theorem dX1_ask_35 : decode cX1_ask 35 = .ok (.ifCond .ne 17, 3) := by decide +kernel
theorem dX1_ask_38 : decode cX1_ask 38 = .ok (.aload_n 0, 1) := by decide +kernel
theorem dX1_ask_39 : decode cX1_ask 39 = .ok (.getfield 45, 3) := by decide +kernel
theorem dX1_ask_42 : decode cX1_ask 42 = .ok (.lload 4, 2) := by decide +kernel
theorem dX1_ask_44 : decode cX1_ask 44 = .ok (.lcmp, 1) := by decide +kernel
theorem dX1_ask_45 : decode cX1_ask 45 = .ok (.ifCond .ne 7, 3) := by decide +kernel
theorem dX1_ask_48 : decode cX1_ask 48 = .ok (.iconst 1, 1) := by decide +kernel
theorem dX1_ask_49 : decode cX1_ask 49 = .ok (.goto 4, 3) := by decide +kernel
theorem dX1_ask_52 : decode cX1_ask 52 = .ok (.iconst 0, 1) := by decide +kernel
theorem dX1_ask_53 : decode cX1_ask 53 = .ok (.istore 11, 2) := by decide +kernel
theorem dX1_ask_55 : decode cX1_ask 55 = .ok (.iload 10, 2) := by decide +kernel
theorem dX1_ask_57 : decode cX1_ask 57 = .ok (.ifCond .eq 29, 3) := by decide +kernel
theorem dX1_ask_60 : decode cX1_ask 60 = .ok (.iload 11, 2) := by decide +kernel
theorem dX1_ask_62 : decode cX1_ask 62 = .ok (.ifCond .eq 24, 3) := by decide +kernel
theorem dX1_ask_65 : decode cX1_ask 65 = .ok (.aload_n 0, 1) := by decide +kernel
theorem dX1_ask_66 : decode cX1_ask 66 = .ok (.getfield 48, 3) := by decide +kernel
theorem dX1_ask_69 : decode cX1_ask 69 = .ok (.lload 6, 2) := by decide +kernel
theorem dX1_ask_71 : decode cX1_ask 71 = .ok (.lcmp, 1) := by decide +kernel
theorem dX1_ask_72 : decode cX1_ask 72 = .ok (.ifCond .ne 14, 3) := by decide +kernel
theorem dX1_ask_75 : decode cX1_ask 75 = .ok (.aload_n 0, 1) := by decide +kernel
theorem dX1_ask_76 : decode cX1_ask 76 = .ok (.getfield 51, 3) := by decide +kernel
theorem dX1_ask_79 : decode cX1_ask 79 = .ok (.lload 8, 2) := by decide +kernel
theorem dX1_ask_81 : decode cX1_ask 81 = .ok (.lcmp, 1) := by decide +kernel
theorem dX1_ask_82 : decode cX1_ask 82 = .ok (.ifCond .ne 4, 3) := by decide +kernel
theorem dX1_ask_85 : decode cX1_ask 85 = .ok (.return_, 1) := by decide +kernel
theorem dX1_ask_86 : decode cX1_ask 86 = .ok (.aload_n 0, 1) := by decide +kernel
theorem dX1_ask_87 : decode cX1_ask 87 = .ok (.aload_n 1, 1) := by decide +kernel
theorem dX1_ask_88 : decode cX1_ask 88 = .ok (.invokevirtual 31, 3) := by decide +kernel
theorem dX1_ask_91 : decode cX1_ask 91 = .ok (.putfield 27, 3) := by decide +kernel
theorem dX1_ask_94 : decode cX1_ask 94 = .ok (.aload_n 0, 1) := by decide +kernel
theorem dX1_ask_95 : decode cX1_ask 95 = .ok (.aload_n 1, 1) := by decide +kernel
theorem dX1_ask_96 : decode cX1_ask 96 = .ok (.invokevirtual 39, 3) := by decide +kernel
theorem dX1_ask_99 : decode cX1_ask 99 = .ok (.putfield 36, 3) := by decide +kernel
theorem dX1_ask_102 : decode cX1_ask 102 = .ok (.aload_n 0, 1) := by decide +kernel
theorem dX1_ask_103 : decode cX1_ask 103 = .ok (.lload_n 2, 1) := by decide +kernel
theorem dX1_ask_104 : decode cX1_ask 104 = .ok (.putfield 41, 3) := by decide +kernel
theorem dX1_ask_107 : decode cX1_ask 107 = .ok (.aload_n 0, 1) := by decide +kernel
theorem dX1_ask_108 : decode cX1_ask 108 = .ok (.lload 4, 2) := by decide +kernel
theorem dX1_ask_110 : decode cX1_ask 110 = .ok (.putfield 45, 3) := by decide +kernel
theorem dX1_ask_113 : decode cX1_ask 113 = .ok (.aload_n 0, 1) := by decide +kernel
theorem dX1_ask_114 : decode cX1_ask 114 = .ok (.lload 6, 2) := by decide +kernel
theorem dX1_ask_116 : decode cX1_ask 116 = .ok (.putfield 48, 3) := by decide +kernel
theorem dX1_ask_119 : decode cX1_ask 119 = .ok (.aload_n 0, 1) := by decide +kernel
theorem dX1_ask_120 : decode cX1_ask 120 = .ok (.lload 8, 2) := by decide +kernel
theorem dX1_ask_122 : decode cX1_ask 122 = .ok (.putfield 51, 3) := by decide +kernel
theorem dX1_ask_125 : decode cX1_ask 125 = .ok (.aload_n 0, 1) := by decide +kernel
theorem dX1_ask_126 : decode cX1_ask 126 = .ok (.aload_n 1, 1) := by decide +kernel
theorem dX1_ask_127 : decode cX1_ask 127 = .ok (.invokevirtual 54, 3) := by decide +kernel
theorem dX1_ask_130 : decode cX1_ask 130 = .ok (.return_, 1) := by decide +kernel
set_option maxRecDepth 20000 in
theorem ggX1_prepare_X2_all : GoodIn wsX1_prepare wsX2_all := goodIn_r _ [22, 23, 75, 76, 77, 78, 79, 80, 81] (by decide +kernel) (by decide +kernel)
set_option maxRecDepth 20000 in
theorem gX1_prepare_X2_all : GoodIn wsX1_prepare (wsV RX1 58 RX2 yX2_all wsX2_all) := goodIn_app (goodIn_of _ (by decide +kernel)) ggX1_prepare_X2_all
set_option maxRecDepth 20000 in
theorem ggX1_prepare_J13_bitCount_95d88 : GoodIn wsX1_prepare wsJ13_bitCount_95d88 := goodIn_r _ [27, 28, 29, 30] (by decide +kernel) (by decide +kernel)
set_option maxRecDepth 20000 in
theorem gX1_prepare_J13_bitCount_95d88 : GoodIn wsX1_prepare (va_wsS RX1 67 yJ13_bitCount_95d88 wsJ13_bitCount_95d88) := goodIn_app (goodIn_of _ (by decide +kernel)) ggX1_prepare_J13_bitCount_95d88
set_option maxRecDepth 20000 in
theorem ggX1_prepare_X3_forget : GoodIn wsX1_prepare wsX3_forget := goodIn_r _ [35, 36, 37, 38, 39, 40, 82] (by decide +kernel) (by decide +kernel)
set_option maxRecDepth 20000 in
theorem gX1_prepare_X3_forget : GoodIn wsX1_prepare (wsV RX1 92 RX3 yX3_forget wsX3_forget) := goodIn_app (goodIn_of _ (by decide +kernel)) ggX1_prepare_X3_forget
set_option maxRecDepth 20000 in
theorem ggX1_prepare_X2_spread : GoodIn wsX1_prepare wsX2_spread := goodIn_r _ [44, 45, 46, 47, 21, 48, 49, 50, 51, 52, 23, 75, 76, 77, 78, 79, 80, 81] (by decide +kernel) (by decide +kernel)
set_option maxRecDepth 20000 in
theorem gX1_prepare_X2_spread : GoodIn wsX1_prepare (wsV RX1 95 RX2 yX2_spread wsX2_spread) := goodIn_app (goodIn_of _ (by decide +kernel)) ggX1_prepare_X2_spread
set_option maxRecDepth 20000 in
theorem ggX1_prepare_X3_mark : GoodIn wsX1_prepare wsX3_mark := goodIn_r _ [56, 36, 57, 58, 59, 82] (by decide +kernel) (by decide +kernel)
set_option maxRecDepth 20000 in
theorem gX1_prepare_X3_mark : GoodIn wsX1_prepare (wsV RX1 99 RX3 yX3_mark wsX3_mark) := goodIn_app (goodIn_of _ (by decide +kernel)) ggX1_prepare_X3_mark
theorem dX1_prepare_0 : decode cX1_prepare 0 = .ok (.aload_n 0, 1) := by decide +kernel
theorem dX1_prepare_1 : decode cX1_prepare 1 = .ok (.aload_n 1, 1) := by decide +kernel
theorem dX1_prepare_2 : decode cX1_prepare 2 = .ok (.invokevirtual 58, 3) := by decide +kernel
theorem dX1_prepare_5 : decode cX1_prepare 5 = .ok (.aload_n 0, 1) := by decide +kernel
theorem dX1_prepare_6 : decode cX1_prepare 6 = .ok (.getfield 41, 3) := by decide +kernel
theorem dX1_prepare_9 : decode cX1_prepare 9 = .ok (.aload_n 0, 1) := by decide +kernel
theorem dX1_prepare_10 : decode cX1_prepare 10 = .ok (.getfield 45, 3) := by decide +kernel
theorem dX1_prepare_13 : decode cX1_prepare 13 = .ok (.lor, 1) := by decide +kernel
theorem dX1_prepare_14 : decode cX1_prepare 14 = .ok (.ldc2_w 62, 3) := by decide +kernel
theorem dX1_prepare_17 : decode cX1_prepare 17 = .ok (.lxor, 1) := by decide +kernel
theorem dX1_prepare_18 : decode cX1_prepare 18 = .ok (.land, 1) := by decide +kernel
theorem dX1_prepare_19 : decode cX1_prepare 19 = .ok (.putfield 64, 3) := by decide +kernel
theorem dX1_prepare_22 : decode cX1_prepare 22 = .ok (.aload_n 0, 1) := by decide +kernel
theorem dX1_prepare_23 : decode cX1_prepare 23 = .ok (.bipush 10, 2) := by decide +kernel
theorem dX1_prepare_25 : decode cX1_prepare 25 = .ok (.aload_n 0, 1) := by decide +kernel
theorem dX1_prepare_26 : decode cX1_prepare 26 = .ok (.getfield 64, 3) := by decide +kernel
theorem dX1_prepare_29 : decode cX1_prepare 29 = .ok (.invokestatic 67, 3) := by decide +kernel
theorem dX1_prepare_32 : decode cX1_prepare 32 = .ok (.invokestatic 73, 3) := by decide +kernel
theorem dX1_prepare_35 : decode cX1_prepare 35 = .ok (.putfield 79, 3) := by decide +kernel
theorem dX1_prepare_38 : decode cX1_prepare 38 = .ok (.aload_n 0, 1) := by decide +kernel
theorem dX1_prepare_39 : decode cX1_prepare 39 = .ok (.iconst 1, 1) := by decide +kernel
theorem dX1_prepare_40 : decode cX1_prepare 40 = .ok (.aload_n 0, 1) := by decide +kernel
theorem dX1_prepare_41 : decode cX1_prepare 41 = .ok (.getfield 79, 3) := by decide +kernel
theorem dX1_prepare_44 : decode cX1_prepare 44 = .ok (.ishl, 1) := by decide +kernel
theorem dX1_prepare_45 : decode cX1_prepare 45 = .ok (.iconst 1, 1) := by decide +kernel
theorem dX1_prepare_46 : decode cX1_prepare 46 = .ok (.isub, 1) := by decide +kernel
theorem dX1_prepare_47 : decode cX1_prepare 47 = .ok (.putfield 82, 3) := by decide +kernel
theorem dX1_prepare_50 : decode cX1_prepare 50 = .ok (.aload_n 0, 1) := by decide +kernel
theorem dX1_prepare_51 : decode cX1_prepare 51 = .ok (.iconst 0, 1) := by decide +kernel
theorem dX1_prepare_52 : decode cX1_prepare 52 = .ok (.putfield 85, 3) := by decide +kernel
theorem dX1_prepare_55 : decode cX1_prepare 55 = .ok (.aload_n 0, 1) := by decide +kernel
theorem dX1_prepare_56 : decode cX1_prepare 56 = .ok (.iconst 0, 1) := by decide +kernel
theorem dX1_prepare_57 : decode cX1_prepare 57 = .ok (.putfield 88, 3) := by decide +kernel
theorem dX1_prepare_60 : decode cX1_prepare 60 = .ok (.aload_n 0, 1) := by decide +kernel
theorem dX1_prepare_61 : decode cX1_prepare 61 = .ok (.getfield 14, 3) := by decide +kernel
theorem dX1_prepare_64 : decode cX1_prepare 64 = .ok (.invokevirtual 92, 3) := by decide +kernel
theorem dX1_prepare_67 : decode cX1_prepare 67 = .ok (.aload_n 0, 1) := by decide +kernel
theorem dX1_prepare_68 : decode cX1_prepare 68 = .ok (.getfield 21, 3) := by decide +kernel
theorem dX1_prepare_71 : decode cX1_prepare 71 = .ok (.invokevirtual 92, 3) := by decide +kernel
theorem dX1_prepare_74 : decode cX1_prepare 74 = .ok (.aload_n 0, 1) := by decide +kernel
theorem dX1_prepare_75 : decode cX1_prepare 75 = .ok (.getfield 24, 3) := by decide +kernel
theorem dX1_prepare_78 : decode cX1_prepare 78 = .ok (.invokevirtual 92, 3) := by decide +kernel
theorem dX1_prepare_81 : decode cX1_prepare 81 = .ok (.lconst 0, 1) := by decide +kernel
theorem dX1_prepare_82 : decode cX1_prepare 82 = .ok (.lstore_n 2, 1) := by decide +kernel
theorem dX1_prepare_83 : decode cX1_prepare 83 = .ok (.iconst 0, 1) := by decide +kernel
theorem dX1_prepare_84 : decode cX1_prepare 84 = .ok (.istore 4, 2) := by decide +kernel
theorem dX1_prepare_86 : decode cX1_prepare 86 = .ok (.iload 4, 2) := by decide +kernel
theorem dX1_prepare_88 : decode cX1_prepare 88 = .ok (.aload_n 0, 1) := by decide +kernel
theorem dX1_prepare_89 : decode cX1_prepare 89 = .ok (.getfield 82, 3) := by decide +kernel
theorem dX1_prepare_92 : decode cX1_prepare 92 = .ok (.if_icmp .gt 64, 3) := by decide +kernel
theorem dX1_prepare_95 : decode cX1_prepare 95 = .ok (.aload_n 1, 1) := by decide +kernel
theorem dX1_prepare_96 : decode cX1_prepare 96 = .ok (.aload_n 0, 1) := by decide +kernel
theorem dX1_prepare_97 : decode cX1_prepare 97 = .ok (.getfield 48, 3) := by decide +kernel
theorem dX1_prepare_100 : decode cX1_prepare 100 = .ok (.aload_n 0, 1) := by decide +kernel
theorem dX1_prepare_101 : decode cX1_prepare 101 = .ok (.getfield 41, 3) := by decide +kernel
theorem dX1_prepare_104 : decode cX1_prepare 104 = .ok (.lload_n 2, 1) := by decide +kernel
theorem dX1_prepare_105 : decode cX1_prepare 105 = .ok (.lor, 1) := by decide +kernel
theorem dX1_prepare_106 : decode cX1_prepare 106 = .ok (.invokevirtual 95, 3) := by decide +kernel
theorem dX1_prepare_109 : decode cX1_prepare 109 = .ok (.aload_n 0, 1) := by decide +kernel
theorem dX1_prepare_110 : decode cX1_prepare 110 = .ok (.getfield 51, 3) := by decide +kernel
theorem dX1_prepare_113 : decode cX1_prepare 113 = .ok (.land, 1) := by decide +kernel
theorem dX1_prepare_114 : decode cX1_prepare 114 = .ok (.lconst 0, 1) := by decide +kernel
theorem dX1_prepare_115 : decode cX1_prepare 115 = .ok (.lcmp, 1) := by decide +kernel
theorem dX1_prepare_116 : decode cX1_prepare 116 = .ok (.ifCond .eq 22, 3) := by decide +kernel
theorem dX1_prepare_119 : decode cX1_prepare 119 = .ok (.aload_n 0, 1) := by decide +kernel
theorem dX1_prepare_120 : decode cX1_prepare 120 = .ok (.getfield 14, 3) := by decide +kernel
theorem dX1_prepare_123 : decode cX1_prepare 123 = .ok (.iload 4, 2) := by decide +kernel
theorem dX1_prepare_125 : decode cX1_prepare 125 = .ok (.invokevirtual 99, 3) := by decide +kernel
theorem dX1_prepare_128 : decode cX1_prepare 128 = .ok (.aload_n 0, 1) := by decide +kernel
theorem dX1_prepare_129 : decode cX1_prepare 129 = .ok (.dup, 1) := by decide +kernel
theorem dX1_prepare_130 : decode cX1_prepare 130 = .ok (.getfield 85, 3) := by decide +kernel
theorem dX1_prepare_133 : decode cX1_prepare 133 = .ok (.iconst 1, 1) := by decide +kernel
theorem dX1_prepare_134 : decode cX1_prepare 134 = .ok (.iadd, 1) := by decide +kernel
theorem dX1_prepare_135 : decode cX1_prepare 135 = .ok (.putfield 85, 3) := by decide +kernel
theorem dX1_prepare_138 : decode cX1_prepare 138 = .ok (.lload_n 2, 1) := by decide +kernel
theorem dX1_prepare_139 : decode cX1_prepare 139 = .ok (.aload_n 0, 1) := by decide +kernel
theorem dX1_prepare_140 : decode cX1_prepare 140 = .ok (.getfield 64, 3) := by decide +kernel
theorem dX1_prepare_143 : decode cX1_prepare 143 = .ok (.lsub, 1) := by decide +kernel
theorem dX1_prepare_144 : decode cX1_prepare 144 = .ok (.aload_n 0, 1) := by decide +kernel
theorem dX1_prepare_145 : decode cX1_prepare 145 = .ok (.getfield 64, 3) := by decide +kernel
theorem dX1_prepare_148 : decode cX1_prepare 148 = .ok (.land, 1) := by decide +kernel
theorem dX1_prepare_149 : decode cX1_prepare 149 = .ok (.lstore_n 2, 1) := by decide +kernel
theorem dX1_prepare_150 : decode cX1_prepare 150 = .ok (.iinc 4 1, 3) := by decide +kernel
theorem dX1_prepare_153 : decode cX1_prepare 153 = .ok (.goto (-67), 3) := by decide +kernel
theorem dX1_prepare_156 : decode cX1_prepare 156 = .ok (.return_, 1) := by decide +kernel
theorem dX1_reachedFillings_0 : decode cX1_reachedFillings 0 = .ok (.aload_n 0, 1) := by decide +kernel
theorem dX1_reachedFillings_1 : decode cX1_reachedFillings 1 = .ok (.getfield 85, 3) := by decide +kernel
theorem dX1_reachedFillings_4 : decode cX1_reachedFillings 4 = .ok (.ireturn, 1) := by decide +kernel
set_option maxRecDepth 20000 in
theorem ggX1_makerWins_X1_holds : GoodIn wsX1_makerWins wsX1_holds := goodIn_r _ [5, 6, 7, 8, 9, 1, 10, 11, 12, 13, 14, 15, 16, 17, 18, 2, 3, 4, 19, 20, 21, 22, 23, 24, 25, 26, 27, 28, 29, 30, 31, 32, 33, 34, 35, 36, 37, 38] (by decide +kernel) (by decide +kernel)
set_option maxRecDepth 20000 in
theorem gX1_makerWins_X1_holds : GoodIn wsX1_makerWins (va_wsS RX1 102 yX1_holds wsX1_holds) := goodIn_app (goodIn_of _ (by decide +kernel)) ggX1_makerWins_X1_holds
theorem dX1_makerWins_0 : decode cX1_makerWins 0 = .ok (.aload_n 0, 1) := by decide +kernel
theorem dX1_makerWins_1 : decode cX1_makerWins 1 = .ok (.iconst 0, 1) := by decide +kernel
theorem dX1_makerWins_2 : decode cX1_makerWins 2 = .ok (.iconst 0, 1) := by decide +kernel
theorem dX1_makerWins_3 : decode cX1_makerWins 3 = .ok (.iconst 0, 1) := by decide +kernel
theorem dX1_makerWins_4 : decode cX1_makerWins 4 = .ok (.iload_n 1, 1) := by decide +kernel
theorem dX1_makerWins_5 : decode cX1_makerWins 5 = .ok (.aload_n 0, 1) := by decide +kernel
theorem dX1_makerWins_6 : decode cX1_makerWins 6 = .ok (.getfield 79, 3) := by decide +kernel
theorem dX1_makerWins_9 : decode cX1_makerWins 9 = .ok (.invokestatic 102, 3) := by decide +kernel
theorem dX1_makerWins_12 : decode cX1_makerWins 12 = .ok (.ireturn, 1) := by decide +kernel
set_option maxRecDepth 20000 in
theorem ggX1_strength_X1_makerWins : GoodIn wsX1_strength wsX1_makerWins := goodIn_r _ [5, 6, 7, 8, 4, 9, 10, 11, 12, 13, 14, 15, 16, 17, 18, 19, 20, 21, 22, 23, 24, 25, 26, 27, 28, 29, 30, 31, 32, 33, 34, 35, 36, 37, 38, 39, 40, 41, 42] (by decide +kernel) (by decide +kernel)
set_option maxRecDepth 20000 in
theorem gX1_strength_X1_makerWins : GoodIn wsX1_strength (wsV RX1 106 RX1 yX1_makerWins wsX1_makerWins) := goodIn_app (goodIn_of _ (by decide +kernel)) ggX1_strength_X1_makerWins
theorem dX1_strength_0 : decode cX1_strength 0 = .ok (.aload_n 0, 1) := by decide +kernel
theorem dX1_strength_1 : decode cX1_strength 1 = .ok (.iconst 0, 1) := by decide +kernel
theorem dX1_strength_2 : decode cX1_strength 2 = .ok (.invokevirtual 106, 3) := by decide +kernel
theorem dX1_strength_5 : decode cX1_strength 5 = .ok (.ifCond .eq 5, 3) := by decide +kernel
theorem dX1_strength_8 : decode cX1_strength 8 = .ok (.iconst 2, 1) := by decide +kernel
theorem dX1_strength_9 : decode cX1_strength 9 = .ok (.ireturn, 1) := by decide +kernel
theorem dX1_strength_10 : decode cX1_strength 10 = .ok (.aload_n 0, 1) := by decide +kernel
theorem dX1_strength_11 : decode cX1_strength 11 = .ok (.iconst 1, 1) := by decide +kernel
theorem dX1_strength_12 : decode cX1_strength 12 = .ok (.invokevirtual 106, 3) := by decide +kernel
theorem dX1_strength_15 : decode cX1_strength 15 = .ok (.ifCond .eq 7, 3) := by decide +kernel
theorem dX1_strength_18 : decode cX1_strength 18 = .ok (.iconst 1, 1) := by decide +kernel
theorem dX1_strength_19 : decode cX1_strength 19 = .ok (.goto 4, 3) := by decide +kernel
theorem dX1_strength_22 : decode cX1_strength 22 = .ok (.iconst 0, 1) := by decide +kernel
theorem dX1_strength_23 : decode cX1_strength 23 = .ok (.ireturn, 1) := by decide +kernel
set_option maxRecDepth 20000 in
theorem ggX1_winningField_X5_bit : GoodIn wsX1_winningField wsX5_bit := goodIn_r _ [5] (by decide +kernel) (by decide +kernel)
set_option maxRecDepth 20000 in
theorem gX1_winningField_X5_bit_n110 : GoodIn wsX1_winningField (wsX5_bit) := ggX1_winningField_X5_bit
set_option maxRecDepth 20000 in
theorem ggX1_winningField_X1_winsAt : GoodIn wsX1_winningField wsX1_winsAt := goodIn_r _ [10, 1, 11, 12, 9, 13, 14, 15, 16, 17, 18, 19, 20, 21, 22, 23, 3, 4, 5, 24, 25, 26, 27, 28, 29, 30, 31, 32, 33, 34, 35, 36, 37, 38, 39, 40, 41, 42, 43] (by decide +kernel) (by decide +kernel)
set_option maxRecDepth 20000 in
theorem gX1_winningField_X1_winsAt : GoodIn wsX1_winningField (wsV RX1 114 RX1 yX1_winsAt wsX1_winsAt) := goodIn_app (goodIn_of _ (by decide +kernel)) ggX1_winningField_X1_winsAt
theorem dX1_winningField_0 : decode cX1_winningField 0 = .ok (.iload_n 2, 1) := by decide +kernel
theorem dX1_winningField_1 : decode cX1_winningField 1 = .ok (.istore_n 3, 1) := by decide +kernel
theorem dX1_winningField_2 : decode cX1_winningField 2 = .ok (.iconst 0, 1) := by decide +kernel
theorem dX1_winningField_3 : decode cX1_winningField 3 = .ok (.istore 4, 2) := by decide +kernel
theorem dX1_winningField_5 : decode cX1_winningField 5 = .ok (.iconst 1, 1) := by decide +kernel
theorem dX1_winningField_6 : decode cX1_winningField 6 = .ok (.istore 5, 2) := by decide +kernel
theorem dX1_winningField_8 : decode cX1_winningField 8 = .ok (.iconst 0, 1) := by decide +kernel
theorem dX1_winningField_9 : decode cX1_winningField 9 = .ok (.istore 6, 2) := by decide +kernel
theorem dX1_winningField_11 : decode cX1_winningField 11 = .ok (.iload 6, 2) := by decide +kernel
theorem dX1_winningField_13 : decode cX1_winningField 13 = .ok (.bipush 36, 2) := by decide +kernel
theorem dX1_winningField_15 : decode cX1_winningField 15 = .ok (.if_icmp .ge 70, 3) := by decide +kernel
theorem dX1_winningField_18 : decode cX1_winningField 18 = .ok (.iload_n 3, 1) := by decide +kernel
theorem dX1_winningField_19 : decode cX1_winningField 19 = .ok (.ifCond .lt 66, 3) := by decide +kernel
theorem dX1_winningField_22 : decode cX1_winningField 22 = .ok (.iload 4, 2) := by decide +kernel
theorem dX1_winningField_24 : decode cX1_winningField 24 = .ok (.aload_n 0, 1) := by decide +kernel
theorem dX1_winningField_25 : decode cX1_winningField 25 = .ok (.getfield 79, 3) := by decide +kernel
theorem dX1_winningField_28 : decode cX1_winningField 28 = .ok (.if_icmp .ge 57, 3) := by decide +kernel
theorem dX1_winningField_31 : decode cX1_winningField 31 = .ok (.aload_n 0, 1) := by decide +kernel
theorem dX1_winningField_32 : decode cX1_winningField 32 = .ok (.getfield 64, 3) := by decide +kernel
theorem dX1_winningField_35 : decode cX1_winningField 35 = .ok (.iload 6, 2) := by decide +kernel
theorem dX1_winningField_37 : decode cX1_winningField 37 = .ok (.invokestatic 110, 3) := by decide +kernel
theorem dX1_winningField_40 : decode cX1_winningField 40 = .ok (.land, 1) := by decide +kernel
theorem dX1_winningField_41 : decode cX1_winningField 41 = .ok (.lconst 0, 1) := by decide +kernel
theorem dX1_winningField_42 : decode cX1_winningField 42 = .ok (.lcmp, 1) := by decide +kernel
theorem dX1_winningField_43 : decode cX1_winningField 43 = .ok (.ifCond .eq 36, 3) := by decide +kernel
theorem dX1_winningField_46 : decode cX1_winningField 46 = .ok (.aload_n 0, 1) := by decide +kernel
theorem dX1_winningField_47 : decode cX1_winningField 47 = .ok (.iload_n 1, 1) := by decide +kernel
theorem dX1_winningField_48 : decode cX1_winningField 48 = .ok (.iconst 1, 1) := by decide +kernel
theorem dX1_winningField_49 : decode cX1_winningField 49 = .ok (.iload 4, 2) := by decide +kernel
theorem dX1_winningField_51 : decode cX1_winningField 51 = .ok (.ishl, 1) := by decide +kernel
theorem dX1_winningField_52 : decode cX1_winningField 52 = .ok (.iload 5, 2) := by decide +kernel
theorem dX1_winningField_54 : decode cX1_winningField 54 = .ok (.invokevirtual 114, 3) := by decide +kernel
theorem dX1_winningField_57 : decode cX1_winningField 57 = .ok (.ifCond .eq 13, 3) := by decide +kernel
theorem dX1_winningField_60 : decode cX1_winningField 60 = .ok (.iload_n 3, 1) := by decide +kernel
theorem dX1_winningField_61 : decode cX1_winningField 61 = .ok (.ifCond .ne 6, 3) := by decide +kernel
theorem dX1_winningField_64 : decode cX1_winningField 64 = .ok (.iload 6, 2) := by decide +kernel
theorem dX1_winningField_66 : decode cX1_winningField 66 = .ok (.ireturn, 1) := by decide +kernel
theorem dX1_winningField_67 : decode cX1_winningField 67 = .ok (.iinc 3 (-1), 3) := by decide +kernel
theorem dX1_winningField_70 : decode cX1_winningField 70 = .ok (.iinc 4 1, 3) := by decide +kernel
theorem dX1_winningField_73 : decode cX1_winningField 73 = .ok (.iload 5, 2) := by decide +kernel
theorem dX1_winningField_75 : decode cX1_winningField 75 = .ok (.iconst 3, 1) := by decide +kernel
theorem dX1_winningField_76 : decode cX1_winningField 76 = .ok (.imul, 1) := by decide +kernel
theorem dX1_winningField_77 : decode cX1_winningField 77 = .ok (.istore 5, 2) := by decide +kernel
theorem dX1_winningField_79 : decode cX1_winningField 79 = .ok (.iinc 6 1, 3) := by decide +kernel
theorem dX1_winningField_82 : decode cX1_winningField 82 = .ok (.goto (-71), 3) := by decide +kernel
theorem dX1_winningField_85 : decode cX1_winningField 85 = .ok (.iconst (-1), 1) := by decide +kernel
theorem dX1_winningField_86 : decode cX1_winningField 86 = .ok (.ireturn, 1) := by decide +kernel
set_option maxRecDepth 20000 in
theorem ggX1_winsAt_X1_holds : GoodIn wsX1_winsAt wsX1_holds := goodIn_r _ [5, 6, 7, 8, 9, 1, 10, 11, 12, 13, 14, 15, 16, 17, 18, 2, 3, 4, 19, 20, 21, 22, 23, 24, 25, 26, 27, 28, 29, 30, 31, 32, 33, 34, 35, 36, 37, 38] (by decide +kernel) (by decide +kernel)
set_option maxRecDepth 20000 in
theorem gX1_winsAt_X1_holds : GoodIn wsX1_winsAt (va_wsS RX1 102 yX1_holds wsX1_holds) := goodIn_app (goodIn_of _ (by decide +kernel)) ggX1_winsAt_X1_holds
theorem dX1_winsAt_0 : decode cX1_winsAt 0 = .ok (.iload_n 1, 1) := by decide +kernel
theorem dX1_winsAt_1 : decode cX1_winsAt 1 = .ok (.ifCond .eq 18, 3) := by decide +kernel
theorem dX1_winsAt_4 : decode cX1_winsAt 4 = .ok (.aload_n 0, 1) := by decide +kernel
theorem dX1_winsAt_5 : decode cX1_winsAt 5 = .ok (.iload_n 2, 1) := by decide +kernel
theorem dX1_winsAt_6 : decode cX1_winsAt 6 = .ok (.iconst 0, 1) := by decide +kernel
theorem dX1_winsAt_7 : decode cX1_winsAt 7 = .ok (.iload_n 3, 1) := by decide +kernel
theorem dX1_winsAt_8 : decode cX1_winsAt 8 = .ok (.iconst 0, 1) := by decide +kernel
theorem dX1_winsAt_9 : decode cX1_winsAt 9 = .ok (.aload_n 0, 1) := by decide +kernel
theorem dX1_winsAt_10 : decode cX1_winsAt 10 = .ok (.getfield 79, 3) := by decide +kernel
theorem dX1_winsAt_13 : decode cX1_winsAt 13 = .ok (.iconst 1, 1) := by decide +kernel
theorem dX1_winsAt_14 : decode cX1_winsAt 14 = .ok (.isub, 1) := by decide +kernel
theorem dX1_winsAt_15 : decode cX1_winsAt 15 = .ok (.invokestatic 102, 3) := by decide +kernel
theorem dX1_winsAt_18 : decode cX1_winsAt 18 = .ok (.ireturn, 1) := by decide +kernel
theorem dX1_winsAt_19 : decode cX1_winsAt 19 = .ok (.aload_n 0, 1) := by decide +kernel
theorem dX1_winsAt_20 : decode cX1_winsAt 20 = .ok (.iconst 0, 1) := by decide +kernel
theorem dX1_winsAt_21 : decode cX1_winsAt 21 = .ok (.iload_n 2, 1) := by decide +kernel
theorem dX1_winsAt_22 : decode cX1_winsAt 22 = .ok (.iconst 2, 1) := by decide +kernel
theorem dX1_winsAt_23 : decode cX1_winsAt 23 = .ok (.iload_n 3, 1) := by decide +kernel
theorem dX1_winsAt_24 : decode cX1_winsAt 24 = .ok (.imul, 1) := by decide +kernel
theorem dX1_winsAt_25 : decode cX1_winsAt 25 = .ok (.iconst 1, 1) := by decide +kernel
theorem dX1_winsAt_26 : decode cX1_winsAt 26 = .ok (.aload_n 0, 1) := by decide +kernel
theorem dX1_winsAt_27 : decode cX1_winsAt 27 = .ok (.getfield 79, 3) := by decide +kernel
theorem dX1_winsAt_30 : decode cX1_winsAt 30 = .ok (.iconst 1, 1) := by decide +kernel
theorem dX1_winsAt_31 : decode cX1_winsAt 31 = .ok (.isub, 1) := by decide +kernel
theorem dX1_winsAt_32 : decode cX1_winsAt 32 = .ok (.invokestatic 102, 3) := by decide +kernel
theorem dX1_winsAt_35 : decode cX1_winsAt 35 = .ok (.ifCond .ne 7, 3) := by decide +kernel
theorem dX1_winsAt_38 : decode cX1_winsAt 38 = .ok (.iconst 1, 1) := by decide +kernel
theorem dX1_winsAt_39 : decode cX1_winsAt 39 = .ok (.goto 4, 3) := by decide +kernel
theorem dX1_winsAt_42 : decode cX1_winsAt 42 = .ok (.iconst 0, 1) := by decide +kernel
theorem dX1_winsAt_43 : decode cX1_winsAt 43 = .ok (.ireturn, 1) := by decide +kernel
set_option maxRecDepth 20000 in
theorem ggX1_holds_X3_has : GoodIn wsX1_holds wsX3_has := goodIn_r _ [10, 11, 12, 13, 14, 37] (by decide +kernel) (by decide +kernel)
set_option maxRecDepth 20000 in
theorem gX1_holds_X3_has : GoodIn wsX1_holds (wsV RX1 118 RX3 yX3_has wsX3_has) := goodIn_app (goodIn_of _ (by decide +kernel)) ggX1_holds_X3_has
set_option maxRecDepth 20000 in
theorem ggX1_holds_X1_holds : GoodIn wsX1_holds wsX1_holds := goodIn_r _ [0, 1, 2, 3, 4, 5, 6, 7, 8, 9, 10, 11, 12, 13, 14, 15, 16, 17, 18, 19, 20, 21, 22, 23, 24, 25, 26, 27, 28, 29, 30, 31, 32, 33, 34, 35, 36, 37] (by decide +kernel) (by decide +kernel)
set_option maxRecDepth 20000 in
theorem gX1_holds_X1_holds : GoodIn wsX1_holds (va_wsS RX1 102 yX1_holds wsX1_holds) := goodIn_app (goodIn_of _ (by decide +kernel)) ggX1_holds_X1_holds
set_option maxRecDepth 20000 in
theorem ggX1_holds_X3_mark : GoodIn wsX1_holds wsX3_mark := goodIn_r _ [21, 11, 12, 13, 14, 37] (by decide +kernel) (by decide +kernel)
set_option maxRecDepth 20000 in
theorem gX1_holds_X3_mark : GoodIn wsX1_holds (wsV RX1 99 RX3 yX3_mark wsX3_mark) := goodIn_app (goodIn_of _ (by decide +kernel)) ggX1_holds_X3_mark
theorem dX1_holds_0 : decode cX1_holds 0 = .ok (.aload_n 0, 1) := by decide +kernel
theorem dX1_holds_1 : decode cX1_holds 1 = .ok (.getfield 14, 3) := by decide +kernel
theorem dX1_holds_4 : decode cX1_holds 4 = .ok (.iload_n 1, 1) := by decide +kernel
theorem dX1_holds_5 : decode cX1_holds 5 = .ok (.invokevirtual 118, 3) := by decide +kernel
theorem dX1_holds_8 : decode cX1_holds 8 = .ok (.ifCond .eq 5, 3) := by decide +kernel
theorem dX1_holds_11 : decode cX1_holds 11 = .ok (.iconst 1, 1) := by decide +kernel
theorem dX1_holds_12 : decode cX1_holds 12 = .ok (.ireturn, 1) := by decide +kernel
theorem dX1_holds_13 : decode cX1_holds 13 = .ok (.iload 5, 2) := by decide +kernel
theorem dX1_holds_15 : decode cX1_holds 15 = .ok (.ifCond .le 21, 3) := by decide +kernel
theorem dX1_holds_18 : decode cX1_holds 18 = .ok (.aload_n 0, 1) := by decide +kernel
theorem dX1_holds_19 : decode cX1_holds 19 = .ok (.getfield 14, 3) := by decide +kernel
theorem dX1_holds_22 : decode cX1_holds 22 = .ok (.aload_n 0, 1) := by decide +kernel
theorem dX1_holds_23 : decode cX1_holds 23 = .ok (.getfield 82, 3) := by decide +kernel
theorem dX1_holds_26 : decode cX1_holds 26 = .ok (.iload_n 2, 1) := by decide +kernel
theorem dX1_holds_27 : decode cX1_holds 27 = .ok (.iconst (-1), 1) := by decide +kernel
theorem dX1_holds_28 : decode cX1_holds 28 = .ok (.ixor, 1) := by decide +kernel
theorem dX1_holds_29 : decode cX1_holds 29 = .ok (.iand, 1) := by decide +kernel
theorem dX1_holds_30 : decode cX1_holds 30 = .ok (.invokevirtual 118, 3) := by decide +kernel
theorem dX1_holds_33 : decode cX1_holds 33 = .ok (.ifCond .ne 5, 3) := by decide +kernel
theorem dX1_holds_36 : decode cX1_holds 36 = .ok (.iconst 0, 1) := by decide +kernel
theorem dX1_holds_37 : decode cX1_holds 37 = .ok (.ireturn, 1) := by decide +kernel
theorem dX1_holds_38 : decode cX1_holds 38 = .ok (.iconst 2, 1) := by decide +kernel
theorem dX1_holds_39 : decode cX1_holds 39 = .ok (.iload_n 3, 1) := by decide +kernel
theorem dX1_holds_40 : decode cX1_holds 40 = .ok (.imul, 1) := by decide +kernel
theorem dX1_holds_41 : decode cX1_holds 41 = .ok (.iload 4, 2) := by decide +kernel
theorem dX1_holds_43 : decode cX1_holds 43 = .ok (.ifCond .eq 7, 3) := by decide +kernel
theorem dX1_holds_46 : decode cX1_holds 46 = .ok (.iconst 1, 1) := by decide +kernel
theorem dX1_holds_47 : decode cX1_holds 47 = .ok (.goto 4, 3) := by decide +kernel
theorem dX1_holds_50 : decode cX1_holds 50 = .ok (.iconst 0, 1) := by decide +kernel
theorem dX1_holds_51 : decode cX1_holds 51 = .ok (.iadd, 1) := by decide +kernel
theorem dX1_holds_52 : decode cX1_holds 52 = .ok (.istore 6, 2) := by decide +kernel
theorem dX1_holds_54 : decode cX1_holds 54 = .ok (.aload_n 0, 1) := by decide +kernel
theorem dX1_holds_55 : decode cX1_holds 55 = .ok (.getfield 21, 3) := by decide +kernel
theorem dX1_holds_58 : decode cX1_holds 58 = .ok (.iload 6, 2) := by decide +kernel
theorem dX1_holds_60 : decode cX1_holds 60 = .ok (.invokevirtual 118, 3) := by decide +kernel
theorem dX1_holds_63 : decode cX1_holds 63 = .ok (.ifCond .ne 15, 3) := by decide +kernel
theorem dX1_holds_66 : decode cX1_holds 66 = .ok (.aload_n 0, 1) := by decide +kernel
theorem dX1_holds_67 : decode cX1_holds 67 = .ok (.getfield 24, 3) := by decide +kernel
theorem dX1_holds_70 : decode cX1_holds 70 = .ok (.iload 6, 2) := by decide +kernel
theorem dX1_holds_72 : decode cX1_holds 72 = .ok (.invokevirtual 118, 3) := by decide +kernel
theorem dX1_holds_75 : decode cX1_holds 75 = .ok (.ifCond .eq 13, 3) := by decide +kernel
theorem dX1_holds_78 : decode cX1_holds 78 = .ok (.aload_n 0, 1) := by decide +kernel
theorem dX1_holds_79 : decode cX1_holds 79 = .ok (.getfield 21, 3) := by decide +kernel
theorem dX1_holds_82 : decode cX1_holds 82 = .ok (.iload 6, 2) := by decide +kernel
theorem dX1_holds_84 : decode cX1_holds 84 = .ok (.invokevirtual 118, 3) := by decide +kernel
theorem dX1_holds_87 : decode cX1_holds 87 = .ok (.ireturn, 1) := by decide +kernel
theorem dX1_holds_88 : decode cX1_holds 88 = .ok (.iload 4, 2) := by decide +kernel
theorem dX1_holds_90 : decode cX1_holds 90 = .ok (.ifCond .ne 7, 3) := by decide +kernel
theorem dX1_holds_93 : decode cX1_holds 93 = .ok (.iconst 1, 1) := by decide +kernel
theorem dX1_holds_94 : decode cX1_holds 94 = .ok (.goto 4, 3) := by decide +kernel
theorem dX1_holds_97 : decode cX1_holds 97 = .ok (.iconst 0, 1) := by decide +kernel
theorem dX1_holds_98 : decode cX1_holds 98 = .ok (.istore 7, 2) := by decide +kernel
theorem dX1_holds_100 : decode cX1_holds 100 = .ok (.iconst 1, 1) := by decide +kernel
theorem dX1_holds_101 : decode cX1_holds 101 = .ok (.istore 8, 2) := by decide +kernel
theorem dX1_holds_103 : decode cX1_holds 103 = .ok (.iconst 0, 1) := by decide +kernel
theorem dX1_holds_104 : decode cX1_holds 104 = .ok (.istore 9, 2) := by decide +kernel
theorem dX1_holds_106 : decode cX1_holds 106 = .ok (.iload 9, 2) := by decide +kernel
theorem dX1_holds_108 : decode cX1_holds 108 = .ok (.aload_n 0, 1) := by decide +kernel
theorem dX1_holds_109 : decode cX1_holds 109 = .ok (.getfield 79, 3) := by decide +kernel
theorem dX1_holds_112 : decode cX1_holds 112 = .ok (.if_icmp .ge 85, 3) := by decide +kernel
theorem dX1_holds_115 : decode cX1_holds 115 = .ok (.iload 7, 2) := by decide +kernel
theorem dX1_holds_117 : decode cX1_holds 117 = .ok (.iload 4, 2) := by decide +kernel
theorem dX1_holds_119 : decode cX1_holds 119 = .ok (.if_icmp .eq 78, 3) := by decide +kernel
theorem dX1_holds_122 : decode cX1_holds 122 = .ok (.iconst 1, 1) := by decide +kernel
theorem dX1_holds_123 : decode cX1_holds 123 = .ok (.iload 9, 2) := by decide +kernel
theorem dX1_holds_125 : decode cX1_holds 125 = .ok (.ishl, 1) := by decide +kernel
theorem dX1_holds_126 : decode cX1_holds 126 = .ok (.istore 10, 2) := by decide +kernel
theorem dX1_holds_128 : decode cX1_holds 128 = .ok (.iload_n 1, 1) := by decide +kernel
theorem dX1_holds_129 : decode cX1_holds 129 = .ok (.iload_n 2, 1) := by decide +kernel
theorem dX1_holds_130 : decode cX1_holds 130 = .ok (.ior, 1) := by decide +kernel
theorem dX1_holds_131 : decode cX1_holds 131 = .ok (.iload 10, 2) := by decide +kernel
theorem dX1_holds_133 : decode cX1_holds 133 = .ok (.iand, 1) := by decide +kernel
theorem dX1_holds_134 : decode cX1_holds 134 = .ok (.ifCond .ne 51, 3) := by decide +kernel
theorem dX1_holds_137 : decode cX1_holds 137 = .ok (.iload 4, 2) := by decide +kernel
theorem dX1_holds_139 : decode cX1_holds 139 = .ok (.ifCond .eq 24, 3) := by decide +kernel
theorem dX1_holds_142 : decode cX1_holds 142 = .ok (.aload_n 0, 1) := by decide +kernel
theorem dX1_holds_143 : decode cX1_holds 143 = .ok (.iload_n 1, 1) := by decide +kernel
theorem dX1_holds_144 : decode cX1_holds 144 = .ok (.iload 10, 2) := by decide +kernel
theorem dX1_holds_146 : decode cX1_holds 146 = .ok (.ior, 1) := by decide +kernel
theorem dX1_holds_147 : decode cX1_holds 147 = .ok (.iload_n 2, 1) := by decide +kernel
theorem dX1_holds_148 : decode cX1_holds 148 = .ok (.iload_n 3, 1) := by decide +kernel
theorem dX1_holds_149 : decode cX1_holds 149 = .ok (.iload 8, 2) := by decide +kernel
theorem dX1_holds_151 : decode cX1_holds 151 = .ok (.iadd, 1) := by decide +kernel
theorem dX1_holds_152 : decode cX1_holds 152 = .ok (.iconst 0, 1) := by decide +kernel
theorem dX1_holds_153 : decode cX1_holds 153 = .ok (.iload 5, 2) := by decide +kernel
theorem dX1_holds_155 : decode cX1_holds 155 = .ok (.iconst 1, 1) := by decide +kernel
theorem dX1_holds_156 : decode cX1_holds 156 = .ok (.isub, 1) := by decide +kernel
theorem dX1_holds_157 : decode cX1_holds 157 = .ok (.invokestatic 102, 3) := by decide +kernel
theorem dX1_holds_160 : decode cX1_holds 160 = .ok (.goto 23, 3) := by decide +kernel
theorem dX1_holds_163 : decode cX1_holds 163 = .ok (.aload_n 0, 1) := by decide +kernel
theorem dX1_holds_164 : decode cX1_holds 164 = .ok (.iload_n 1, 1) := by decide +kernel
theorem dX1_holds_165 : decode cX1_holds 165 = .ok (.iload_n 2, 1) := by decide +kernel
theorem dX1_holds_166 : decode cX1_holds 166 = .ok (.iload 10, 2) := by decide +kernel
theorem dX1_holds_168 : decode cX1_holds 168 = .ok (.ior, 1) := by decide +kernel
theorem dX1_holds_169 : decode cX1_holds 169 = .ok (.iload_n 3, 1) := by decide +kernel
theorem dX1_holds_170 : decode cX1_holds 170 = .ok (.iconst 2, 1) := by decide +kernel
theorem dX1_holds_171 : decode cX1_holds 171 = .ok (.iload 8, 2) := by decide +kernel
theorem dX1_holds_173 : decode cX1_holds 173 = .ok (.imul, 1) := by decide +kernel
theorem dX1_holds_174 : decode cX1_holds 174 = .ok (.iadd, 1) := by decide +kernel
theorem dX1_holds_175 : decode cX1_holds 175 = .ok (.iconst 1, 1) := by decide +kernel
theorem dX1_holds_176 : decode cX1_holds 176 = .ok (.iload 5, 2) := by decide +kernel
theorem dX1_holds_178 : decode cX1_holds 178 = .ok (.iconst 1, 1) := by decide +kernel
theorem dX1_holds_179 : decode cX1_holds 179 = .ok (.isub, 1) := by decide +kernel
theorem dX1_holds_180 : decode cX1_holds 180 = .ok (.invokestatic 102, 3) := by decide +kernel
theorem dX1_holds_183 : decode cX1_holds 183 = .ok (.istore 7, 2) := by decide +kernel
theorem dX1_holds_185 : decode cX1_holds 185 = .ok (.iload 8, 2) := by decide +kernel
theorem dX1_holds_187 : decode cX1_holds 187 = .ok (.iconst 3, 1) := by decide +kernel
theorem dX1_holds_188 : decode cX1_holds 188 = .ok (.imul, 1) := by decide +kernel
theorem dX1_holds_189 : decode cX1_holds 189 = .ok (.istore 8, 2) := by decide +kernel
theorem dX1_holds_191 : decode cX1_holds 191 = .ok (.iinc 9 1, 3) := by decide +kernel
theorem dX1_holds_194 : decode cX1_holds 194 = .ok (.goto (-88), 3) := by decide +kernel
theorem dX1_holds_197 : decode cX1_holds 197 = .ok (.iload 7, 2) := by decide +kernel
theorem dX1_holds_199 : decode cX1_holds 199 = .ok (.ifCond .eq 15, 3) := by decide +kernel
theorem dX1_holds_202 : decode cX1_holds 202 = .ok (.aload_n 0, 1) := by decide +kernel
theorem dX1_holds_203 : decode cX1_holds 203 = .ok (.getfield 21, 3) := by decide +kernel
theorem dX1_holds_206 : decode cX1_holds 206 = .ok (.iload 6, 2) := by decide +kernel
theorem dX1_holds_208 : decode cX1_holds 208 = .ok (.invokevirtual 99, 3) := by decide +kernel
theorem dX1_holds_211 : decode cX1_holds 211 = .ok (.goto 12, 3) := by decide +kernel
theorem dX1_holds_214 : decode cX1_holds 214 = .ok (.aload_n 0, 1) := by decide +kernel
theorem dX1_holds_215 : decode cX1_holds 215 = .ok (.getfield 24, 3) := by decide +kernel
theorem dX1_holds_218 : decode cX1_holds 218 = .ok (.iload 6, 2) := by decide +kernel
theorem dX1_holds_220 : decode cX1_holds 220 = .ok (.invokevirtual 99, 3) := by decide +kernel
theorem dX1_holds_223 : decode cX1_holds 223 = .ok (.iload 7, 2) := by decide +kernel
theorem dX1_holds_225 : decode cX1_holds 225 = .ok (.ireturn, 1) := by decide +kernel
set_option maxRecDepth 20000 in
theorem ggX1_deadFields_X1_findDead : GoodIn wsX1_deadFields wsX1_findDead := goodIn_r _ [7, 2, 1, 8, 9, 10, 11, 12, 13, 14, 15, 6, 16, 17, 18, 19, 20, 21, 22, 23, 24, 25, 26, 27, 28, 29, 30, 31, 32, 33, 34, 35, 36, 37, 38, 39, 40] (by decide +kernel) (by decide +kernel)
set_option maxRecDepth 20000 in
theorem gX1_deadFields_X1_findDead : GoodIn wsX1_deadFields (wsV RX1 122 RX1 yX1_findDead wsX1_findDead) := goodIn_app (goodIn_of _ (by decide +kernel)) ggX1_deadFields_X1_findDead
theorem dX1_deadFields_0 : decode cX1_deadFields 0 = .ok (.aload_n 0, 1) := by decide +kernel
theorem dX1_deadFields_1 : decode cX1_deadFields 1 = .ok (.getfield 88, 3) := by decide +kernel
theorem dX1_deadFields_4 : decode cX1_deadFields 4 = .ok (.ifCond .ne 7, 3) := by decide +kernel
theorem dX1_deadFields_7 : decode cX1_deadFields 7 = .ok (.aload_n 0, 1) := by decide +kernel
theorem dX1_deadFields_8 : decode cX1_deadFields 8 = .ok (.invokevirtual 122, 3) := by decide +kernel
theorem dX1_deadFields_11 : decode cX1_deadFields 11 = .ok (.aload_n 0, 1) := by decide +kernel
theorem dX1_deadFields_12 : decode cX1_deadFields 12 = .ok (.getfield 125, 3) := by decide +kernel
theorem dX1_deadFields_15 : decode cX1_deadFields 15 = .ok (.lreturn, 1) := by decide +kernel
set_option maxRecDepth 20000 in
theorem ggX1_findDead_X5_bit : GoodIn wsX1_findDead wsX5_bit := goodIn_r _ [7] (by decide +kernel) (by decide +kernel)
set_option maxRecDepth 20000 in
theorem gX1_findDead_X5_bit_n110 : GoodIn wsX1_findDead (wsX5_bit) := ggX1_findDead_X5_bit
set_option maxRecDepth 20000 in
theorem ggX1_findDead_X1_neverMatters : GoodIn wsX1_findDead wsX1_neverMatters := goodIn_r _ [12, 13, 14, 15, 16, 17, 18, 19, 20, 5, 6, 7, 21, 22, 23, 24, 25, 26, 27, 28, 29, 30, 31, 32, 33, 34, 35, 36] (by decide +kernel) (by decide +kernel)
set_option maxRecDepth 20000 in
theorem gX1_findDead_X1_neverMatters : GoodIn wsX1_findDead (wsV RX1 128 RX1 yX1_neverMatters wsX1_neverMatters) := goodIn_app (goodIn_of _ (by decide +kernel)) ggX1_findDead_X1_neverMatters
theorem dX1_findDead_0 : decode cX1_findDead 0 = .ok (.aload_n 0, 1) := by decide +kernel
theorem dX1_findDead_1 : decode cX1_findDead 1 = .ok (.lconst 0, 1) := by decide +kernel
theorem dX1_findDead_2 : decode cX1_findDead 2 = .ok (.putfield 125, 3) := by decide +kernel
theorem dX1_findDead_5 : decode cX1_findDead 5 = .ok (.aload_n 0, 1) := by decide +kernel
theorem dX1_findDead_6 : decode cX1_findDead 6 = .ok (.iconst 1, 1) := by decide +kernel
theorem dX1_findDead_7 : decode cX1_findDead 7 = .ok (.putfield 88, 3) := by decide +kernel
theorem dX1_findDead_10 : decode cX1_findDead 10 = .ok (.iconst 0, 1) := by decide +kernel
theorem dX1_findDead_11 : decode cX1_findDead 11 = .ok (.istore_n 1, 1) := by decide +kernel
theorem dX1_findDead_12 : decode cX1_findDead 12 = .ok (.iconst 0, 1) := by decide +kernel
theorem dX1_findDead_13 : decode cX1_findDead 13 = .ok (.istore_n 2, 1) := by decide +kernel
theorem dX1_findDead_14 : decode cX1_findDead 14 = .ok (.iload_n 2, 1) := by decide +kernel
theorem dX1_findDead_15 : decode cX1_findDead 15 = .ok (.bipush 36, 2) := by decide +kernel
theorem dX1_findDead_17 : decode cX1_findDead 17 = .ok (.if_icmp .ge 57, 3) := by decide +kernel
theorem dX1_findDead_20 : decode cX1_findDead 20 = .ok (.iload_n 1, 1) := by decide +kernel
theorem dX1_findDead_21 : decode cX1_findDead 21 = .ok (.aload_n 0, 1) := by decide +kernel
theorem dX1_findDead_22 : decode cX1_findDead 22 = .ok (.getfield 79, 3) := by decide +kernel
theorem dX1_findDead_25 : decode cX1_findDead 25 = .ok (.if_icmp .ge 49, 3) := by decide +kernel
theorem dX1_findDead_28 : decode cX1_findDead 28 = .ok (.aload_n 0, 1) := by decide +kernel
theorem dX1_findDead_29 : decode cX1_findDead 29 = .ok (.getfield 64, 3) := by decide +kernel
theorem dX1_findDead_32 : decode cX1_findDead 32 = .ok (.iload_n 2, 1) := by decide +kernel
theorem dX1_findDead_33 : decode cX1_findDead 33 = .ok (.invokestatic 110, 3) := by decide +kernel
theorem dX1_findDead_36 : decode cX1_findDead 36 = .ok (.land, 1) := by decide +kernel
theorem dX1_findDead_37 : decode cX1_findDead 37 = .ok (.lconst 0, 1) := by decide +kernel
theorem dX1_findDead_38 : decode cX1_findDead 38 = .ok (.lcmp, 1) := by decide +kernel
theorem dX1_findDead_39 : decode cX1_findDead 39 = .ok (.ifCond .eq 29, 3) := by decide +kernel
theorem dX1_findDead_42 : decode cX1_findDead 42 = .ok (.aload_n 0, 1) := by decide +kernel
theorem dX1_findDead_43 : decode cX1_findDead 43 = .ok (.iconst 1, 1) := by decide +kernel
theorem dX1_findDead_44 : decode cX1_findDead 44 = .ok (.iload_n 1, 1) := by decide +kernel
theorem dX1_findDead_45 : decode cX1_findDead 45 = .ok (.ishl, 1) := by decide +kernel
theorem dX1_findDead_46 : decode cX1_findDead 46 = .ok (.invokevirtual 128, 3) := by decide +kernel
theorem dX1_findDead_49 : decode cX1_findDead 49 = .ok (.ifCond .eq 16, 3) := by decide +kernel
theorem dX1_findDead_52 : decode cX1_findDead 52 = .ok (.aload_n 0, 1) := by decide +kernel
theorem dX1_findDead_53 : decode cX1_findDead 53 = .ok (.dup, 1) := by decide +kernel
theorem dX1_findDead_54 : decode cX1_findDead 54 = .ok (.getfield 125, 3) := by decide +kernel
theorem dX1_findDead_57 : decode cX1_findDead 57 = .ok (.iload_n 2, 1) := by decide +kernel
theorem dX1_findDead_58 : decode cX1_findDead 58 = .ok (.invokestatic 110, 3) := by decide +kernel
theorem dX1_findDead_61 : decode cX1_findDead 61 = .ok (.lor, 1) := by decide +kernel
theorem dX1_findDead_62 : decode cX1_findDead 62 = .ok (.putfield 125, 3) := by decide +kernel
theorem dX1_findDead_65 : decode cX1_findDead 65 = .ok (.iinc 1 1, 3) := by decide +kernel
theorem dX1_findDead_68 : decode cX1_findDead 68 = .ok (.iinc 2 1, 3) := by decide +kernel
theorem dX1_findDead_71 : decode cX1_findDead 71 = .ok (.goto (-57), 3) := by decide +kernel
theorem dX1_findDead_74 : decode cX1_findDead 74 = .ok (.return_, 1) := by decide +kernel
set_option maxRecDepth 20000 in
theorem ggX1_neverMatters_X3_has : GoodIn wsX1_neverMatters wsX3_has := goodIn_r _ [7, 8, 9, 10, 11, 27] (by decide +kernel) (by decide +kernel)
set_option maxRecDepth 20000 in
theorem gX1_neverMatters_X3_has : GoodIn wsX1_neverMatters (wsV RX1 118 RX3 yX3_has wsX3_has) := goodIn_app (goodIn_of _ (by decide +kernel)) ggX1_neverMatters_X3_has
theorem dX1_neverMatters_0 : decode cX1_neverMatters 0 = .ok (.iconst 0, 1) := by decide +kernel
theorem dX1_neverMatters_1 : decode cX1_neverMatters 1 = .ok (.istore_n 2, 1) := by decide +kernel
theorem dX1_neverMatters_2 : decode cX1_neverMatters 2 = .ok (.iload_n 2, 1) := by decide +kernel
theorem dX1_neverMatters_3 : decode cX1_neverMatters 3 = .ok (.aload_n 0, 1) := by decide +kernel
theorem dX1_neverMatters_4 : decode cX1_neverMatters 4 = .ok (.getfield 82, 3) := by decide +kernel
theorem dX1_neverMatters_7 : decode cX1_neverMatters 7 = .ok (.if_icmp .gt 38, 3) := by decide +kernel
theorem dX1_neverMatters_10 : decode cX1_neverMatters 10 = .ok (.iload_n 2, 1) := by decide +kernel
theorem dX1_neverMatters_11 : decode cX1_neverMatters 11 = .ok (.iload_n 1, 1) := by decide +kernel
theorem dX1_neverMatters_12 : decode cX1_neverMatters 12 = .ok (.iand, 1) := by decide +kernel
theorem dX1_neverMatters_13 : decode cX1_neverMatters 13 = .ok (.ifCond .ne 26, 3) := by decide +kernel
theorem dX1_neverMatters_16 : decode cX1_neverMatters 16 = .ok (.aload_n 0, 1) := by decide +kernel
theorem dX1_neverMatters_17 : decode cX1_neverMatters 17 = .ok (.getfield 14, 3) := by decide +kernel
theorem dX1_neverMatters_20 : decode cX1_neverMatters 20 = .ok (.iload_n 2, 1) := by decide +kernel
theorem dX1_neverMatters_21 : decode cX1_neverMatters 21 = .ok (.invokevirtual 118, 3) := by decide +kernel
theorem dX1_neverMatters_24 : decode cX1_neverMatters 24 = .ok (.aload_n 0, 1) := by decide +kernel
theorem dX1_neverMatters_25 : decode cX1_neverMatters 25 = .ok (.getfield 14, 3) := by decide +kernel
theorem dX1_neverMatters_28 : decode cX1_neverMatters 28 = .ok (.iload_n 2, 1) := by decide +kernel
theorem dX1_neverMatters_29 : decode cX1_neverMatters 29 = .ok (.iload_n 1, 1) := by decide +kernel
theorem dX1_neverMatters_30 : decode cX1_neverMatters 30 = .ok (.ior, 1) := by decide +kernel
theorem dX1_neverMatters_31 : decode cX1_neverMatters 31 = .ok (.invokevirtual 118, 3) := by decide +kernel
theorem dX1_neverMatters_34 : decode cX1_neverMatters 34 = .ok (.if_icmp .eq 5, 3) := by decide +kernel
theorem dX1_neverMatters_37 : decode cX1_neverMatters 37 = .ok (.iconst 0, 1) := by decide +kernel
theorem dX1_neverMatters_38 : decode cX1_neverMatters 38 = .ok (.ireturn, 1) := by decide +kernel
theorem dX1_neverMatters_39 : decode cX1_neverMatters 39 = .ok (.iinc 2 1, 3) := by decide +kernel
theorem dX1_neverMatters_42 : decode cX1_neverMatters 42 = .ok (.goto (-40), 3) := by decide +kernel
theorem dX1_neverMatters_45 : decode cX1_neverMatters 45 = .ok (.iconst 1, 1) := by decide +kernel
theorem dX1_neverMatters_46 : decode cX1_neverMatters 46 = .ok (.ireturn, 1) := by decide +kernel
theorem dX2_init_0 : decode cX2_init 0 = .ok (.aload_n 0, 1) := by decide +kernel
theorem dX2_init_1 : decode cX2_init 1 = .ok (.invokespecial 3, 3) := by decide +kernel
theorem dX2_init_4 : decode cX2_init 4 = .ok (.return_, 1) := by decide +kernel
set_option maxRecDepth 20000 in
theorem ggX2_shape_X5_bit : GoodIn wsX2_shape wsX5_bit := goodIn_r _ [10] (by decide +kernel) (by decide +kernel)
set_option maxRecDepth 20000 in
theorem gX2_shape_X5_bit_n18 : GoodIn wsX2_shape (wsX5_bit) := ggX2_shape_X5_bit
theorem dX2_shape_0 : decode cX2_shape 0 = .ok (.aload_n 0, 1) := by decide +kernel
theorem dX2_shape_1 : decode cX2_shape 1 = .ok (.iload_n 1, 1) := by decide +kernel
theorem dX2_shape_2 : decode cX2_shape 2 = .ok (.putfield 9, 3) := by decide +kernel
theorem dX2_shape_5 : decode cX2_shape 5 = .ok (.aload_n 0, 1) := by decide +kernel
theorem dX2_shape_6 : decode cX2_shape 6 = .ok (.iload_n 2, 1) := by decide +kernel
theorem dX2_shape_7 : decode cX2_shape 7 = .ok (.putfield 15, 3) := by decide +kernel
theorem dX2_shape_10 : decode cX2_shape 10 = .ok (.aload_n 0, 1) := by decide +kernel
theorem dX2_shape_11 : decode cX2_shape 11 = .ok (.aload_n 0, 1) := by decide +kernel
theorem dX2_shape_12 : decode cX2_shape 12 = .ok (.getfield 9, 3) := by decide +kernel
theorem dX2_shape_15 : decode cX2_shape 15 = .ok (.aload_n 0, 1) := by decide +kernel
theorem dX2_shape_16 : decode cX2_shape 16 = .ok (.getfield 15, 3) := by decide +kernel
theorem dX2_shape_19 : decode cX2_shape 19 = .ok (.imul, 1) := by decide +kernel
theorem dX2_shape_20 : decode cX2_shape 20 = .ok (.invokestatic 18, 3) := by decide +kernel
theorem dX2_shape_23 : decode cX2_shape 23 = .ok (.lconst 1, 1) := by decide +kernel
theorem dX2_shape_24 : decode cX2_shape 24 = .ok (.lsub, 1) := by decide +kernel
theorem dX2_shape_25 : decode cX2_shape 25 = .ok (.putfield 22, 3) := by decide +kernel
theorem dX2_shape_28 : decode cX2_shape 28 = .ok (.aload_n 0, 1) := by decide +kernel
theorem dX2_shape_29 : decode cX2_shape 29 = .ok (.aload_n 0, 1) := by decide +kernel
theorem dX2_shape_30 : decode cX2_shape 30 = .ok (.getfield 15, 3) := by decide +kernel
theorem dX2_shape_33 : decode cX2_shape 33 = .ok (.invokestatic 18, 3) := by decide +kernel
theorem dX2_shape_36 : decode cX2_shape 36 = .ok (.lconst 1, 1) := by decide +kernel
theorem dX2_shape_37 : decode cX2_shape 37 = .ok (.lsub, 1) := by decide +kernel
theorem dX2_shape_38 : decode cX2_shape 38 = .ok (.putfield 26, 3) := by decide +kernel
theorem dX2_shape_41 : decode cX2_shape 41 = .ok (.aload_n 0, 1) := by decide +kernel
theorem dX2_shape_42 : decode cX2_shape 42 = .ok (.aload_n 0, 1) := by decide +kernel
theorem dX2_shape_43 : decode cX2_shape 43 = .ok (.getfield 26, 3) := by decide +kernel
theorem dX2_shape_46 : decode cX2_shape 46 = .ok (.aload_n 0, 1) := by decide +kernel
theorem dX2_shape_47 : decode cX2_shape 47 = .ok (.getfield 15, 3) := by decide +kernel
theorem dX2_shape_50 : decode cX2_shape 50 = .ok (.aload_n 0, 1) := by decide +kernel
theorem dX2_shape_51 : decode cX2_shape 51 = .ok (.getfield 9, 3) := by decide +kernel
theorem dX2_shape_54 : decode cX2_shape 54 = .ok (.iconst 1, 1) := by decide +kernel
theorem dX2_shape_55 : decode cX2_shape 55 = .ok (.isub, 1) := by decide +kernel
theorem dX2_shape_56 : decode cX2_shape 56 = .ok (.imul, 1) := by decide +kernel
theorem dX2_shape_57 : decode cX2_shape 57 = .ok (.lshl, 1) := by decide +kernel
theorem dX2_shape_58 : decode cX2_shape 58 = .ok (.putfield 29, 3) := by decide +kernel
theorem dX2_shape_61 : decode cX2_shape 61 = .ok (.aload_n 0, 1) := by decide +kernel
theorem dX2_shape_62 : decode cX2_shape 62 = .ok (.lconst 0, 1) := by decide +kernel
theorem dX2_shape_63 : decode cX2_shape 63 = .ok (.putfield 32, 3) := by decide +kernel
theorem dX2_shape_66 : decode cX2_shape 66 = .ok (.iconst 0, 1) := by decide +kernel
theorem dX2_shape_67 : decode cX2_shape 67 = .ok (.istore_n 3, 1) := by decide +kernel
theorem dX2_shape_68 : decode cX2_shape 68 = .ok (.iload_n 3, 1) := by decide +kernel
theorem dX2_shape_69 : decode cX2_shape 69 = .ok (.aload_n 0, 1) := by decide +kernel
theorem dX2_shape_70 : decode cX2_shape 70 = .ok (.getfield 9, 3) := by decide +kernel
theorem dX2_shape_73 : decode cX2_shape 73 = .ok (.if_icmp .ge 27, 3) := by decide +kernel
theorem dX2_shape_76 : decode cX2_shape 76 = .ok (.aload_n 0, 1) := by decide +kernel
theorem dX2_shape_77 : decode cX2_shape 77 = .ok (.dup, 1) := by decide +kernel
theorem dX2_shape_78 : decode cX2_shape 78 = .ok (.getfield 32, 3) := by decide +kernel
theorem dX2_shape_81 : decode cX2_shape 81 = .ok (.aload_n 0, 1) := by decide +kernel
theorem dX2_shape_82 : decode cX2_shape 82 = .ok (.getfield 15, 3) := by decide +kernel
theorem dX2_shape_85 : decode cX2_shape 85 = .ok (.iload_n 3, 1) := by decide +kernel
theorem dX2_shape_86 : decode cX2_shape 86 = .ok (.imul, 1) := by decide +kernel
theorem dX2_shape_87 : decode cX2_shape 87 = .ok (.invokestatic 18, 3) := by decide +kernel
theorem dX2_shape_90 : decode cX2_shape 90 = .ok (.lor, 1) := by decide +kernel
theorem dX2_shape_91 : decode cX2_shape 91 = .ok (.putfield 32, 3) := by decide +kernel
theorem dX2_shape_94 : decode cX2_shape 94 = .ok (.iinc 3 1, 3) := by decide +kernel
theorem dX2_shape_97 : decode cX2_shape 97 = .ok (.goto (-29), 3) := by decide +kernel
theorem dX2_shape_100 : decode cX2_shape 100 = .ok (.aload_n 0, 1) := by decide +kernel
theorem dX2_shape_101 : decode cX2_shape 101 = .ok (.aload_n 0, 1) := by decide +kernel
theorem dX2_shape_102 : decode cX2_shape 102 = .ok (.getfield 32, 3) := by decide +kernel
theorem dX2_shape_105 : decode cX2_shape 105 = .ok (.aload_n 0, 1) := by decide +kernel
theorem dX2_shape_106 : decode cX2_shape 106 = .ok (.getfield 15, 3) := by decide +kernel
theorem dX2_shape_109 : decode cX2_shape 109 = .ok (.iconst 1, 1) := by decide +kernel
theorem dX2_shape_110 : decode cX2_shape 110 = .ok (.isub, 1) := by decide +kernel
theorem dX2_shape_111 : decode cX2_shape 111 = .ok (.lshl, 1) := by decide +kernel
theorem dX2_shape_112 : decode cX2_shape 112 = .ok (.putfield 35, 3) := by decide +kernel
theorem dX2_shape_115 : decode cX2_shape 115 = .ok (.return_, 1) := by decide +kernel
theorem dX2_rows_0 : decode cX2_rows 0 = .ok (.aload_n 0, 1) := by decide +kernel
theorem dX2_rows_1 : decode cX2_rows 1 = .ok (.getfield 9, 3) := by decide +kernel
theorem dX2_rows_4 : decode cX2_rows 4 = .ok (.ireturn, 1) := by decide +kernel
theorem dX2_columns_0 : decode cX2_columns 0 = .ok (.aload_n 0, 1) := by decide +kernel
theorem dX2_columns_1 : decode cX2_columns 1 = .ok (.getfield 15, 3) := by decide +kernel
theorem dX2_columns_4 : decode cX2_columns 4 = .ok (.ireturn, 1) := by decide +kernel
theorem dX2_all_0 : decode cX2_all 0 = .ok (.aload_n 0, 1) := by decide +kernel
theorem dX2_all_1 : decode cX2_all 1 = .ok (.getfield 22, 3) := by decide +kernel
theorem dX2_all_4 : decode cX2_all 4 = .ok (.lreturn, 1) := by decide +kernel
theorem dX2_northBank_0 : decode cX2_northBank 0 = .ok (.aload_n 0, 1) := by decide +kernel
theorem dX2_northBank_1 : decode cX2_northBank 1 = .ok (.getfield 26, 3) := by decide +kernel
theorem dX2_northBank_4 : decode cX2_northBank 4 = .ok (.lreturn, 1) := by decide +kernel
theorem dX2_southBank_0 : decode cX2_southBank 0 = .ok (.aload_n 0, 1) := by decide +kernel
theorem dX2_southBank_1 : decode cX2_southBank 1 = .ok (.getfield 29, 3) := by decide +kernel
theorem dX2_southBank_4 : decode cX2_southBank 4 = .ok (.lreturn, 1) := by decide +kernel
theorem dX2_westBank_0 : decode cX2_westBank 0 = .ok (.aload_n 0, 1) := by decide +kernel
