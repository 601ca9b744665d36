set_option maxRecDepth 20000 in
theorem gX6_wayLong_X6_joined : GoodIn wsX6_wayLong (wsV RX6 101 RX6 yX6_joined wsX6_joined) := goodIn_app (goodIn_of _ (by decide +kernel)) ggX6_wayLong_X6_joined
set_option maxRecDepth 20000 in
theorem ggX6_wayLong_X6_measures : GoodIn wsX6_wayLong wsX6_measures := goodIn_r _ [43, 1, 12, 13, 14, 15, 5, 16, 17, 18, 19, 20, 21, 22, 37, 38, 39, 30, 31, 32, 33, 34, 35, 36, 44, 45, 46, 47, 48, 49, 50, 51, 52, 53, 54, 55, 56, 57, 58, 59, 60] (by decide +kernel) (by decide +kernel)
set_option maxRecDepth 20000 in
theorem gX6_wayLong_X6_measures : GoodIn wsX6_wayLong (wsV RX6 124 RX6 yX6_measures wsX6_measures) := goodIn_app (goodIn_of _ (by decide +kernel)) ggX6_wayLong_X6_measures
set_option maxRecDepth 20000 in
theorem ggX6_wayLong_X6_fields : GoodIn wsX6_wayLong wsX6_fields := goodIn_r _ [16, 17, 18, 44, 45, 46, 47, 48, 49, 50, 51, 52, 53, 54, 55, 56, 57, 58, 59, 60] (by decide +kernel) (by decide +kernel)
set_option maxRecDepth 20000 in
theorem gX6_wayLong_X6_fields : GoodIn wsX6_wayLong (wsV RX6 56 RX6 yX6_fields wsX6_fields) := goodIn_app (goodIn_of _ (by decide +kernel)) ggX6_wayLong_X6_fields
set_option maxRecDepth 20000 in
theorem ggX6_wayLong_X6_banks : GoodIn wsX6_wayLong wsX6_banks := goodIn_r _ [22, 18, 17, 44, 45, 46, 47, 48, 49, 50, 51, 52, 53, 54, 55, 56, 57, 58, 59, 60] (by decide +kernel) (by decide +kernel)
set_option maxRecDepth 20000 in
theorem gX6_wayLong_X6_banks : GoodIn wsX6_wayLong (wsV RX6 81 RX6 yX6_banks wsX6_banks) := goodIn_app (goodIn_of _ (by decide +kernel)) ggX6_wayLong_X6_banks
set_option maxRecDepth 20000 in
theorem ggX6_wayLong_X6_first : GoodIn wsX6_wayLong wsX6_first := goodIn_r _ [25] (by decide +kernel) (by decide +kernel)
set_option maxRecDepth 20000 in
theorem gX6_wayLong_X6_first : GoodIn wsX6_wayLong (va_wsS RX6 85 yX6_first wsX6_first) := goodIn_app (goodIn_of _ (by decide +kernel)) ggX6_wayLong_X6_first
theorem dX6_wayLong_0 : decode cX6_wayLong 0 = .ok (.aload_n 0, 1) := by decide +kernel
theorem dX6_wayLong_1 : decode cX6_wayLong 1 = .ok (.invokevirtual 101, 3) := by decide +kernel
theorem dX6_wayLong_4 : decode cX6_wayLong 4 = .ok (.istore_n 1, 1) := by decide +kernel
theorem dX6_wayLong_5 : decode cX6_wayLong 5 = .ok (.iload_n 1, 1) := by decide +kernel
theorem dX6_wayLong_6 : decode cX6_wayLong 6 = .ok (.ifCond .ne 5, 3) := by decide +kernel
theorem dX6_wayLong_9 : decode cX6_wayLong 9 = .ok (.iconst 0, 1) := by decide +kernel
theorem dX6_wayLong_10 : decode cX6_wayLong 10 = .ok (.ireturn, 1) := by decide +kernel
theorem dX6_wayLong_11 : decode cX6_wayLong 11 = .ok (.aload_n 0, 1) := by decide +kernel
theorem dX6_wayLong_12 : decode cX6_wayLong 12 = .ok (.iload_n 1, 1) := by decide +kernel
theorem dX6_wayLong_13 : decode cX6_wayLong 13 = .ok (.invokevirtual 124, 3) := by decide +kernel
theorem dX6_wayLong_16 : decode cX6_wayLong 16 = .ok (.bipush 100, 2) := by decide +kernel
theorem dX6_wayLong_18 : decode cX6_wayLong 18 = .ok (.istore_n 2, 1) := by decide +kernel
theorem dX6_wayLong_19 : decode cX6_wayLong 19 = .ok (.iconst 0, 1) := by decide +kernel
theorem dX6_wayLong_20 : decode cX6_wayLong 20 = .ok (.istore_n 3, 1) := by decide +kernel
theorem dX6_wayLong_21 : decode cX6_wayLong 21 = .ok (.iload_n 3, 1) := by decide +kernel
theorem dX6_wayLong_22 : decode cX6_wayLong 22 = .ok (.aload_n 0, 1) := by decide +kernel
theorem dX6_wayLong_23 : decode cX6_wayLong 23 = .ok (.invokevirtual 56, 3) := by decide +kernel
theorem dX6_wayLong_26 : decode cX6_wayLong 26 = .ok (.if_icmp .ge 39, 3) := by decide +kernel
theorem dX6_wayLong_29 : decode cX6_wayLong 29 = .ok (.aload_n 0, 1) := by decide +kernel
theorem dX6_wayLong_30 : decode cX6_wayLong 30 = .ok (.iload_n 3, 1) := by decide +kernel
theorem dX6_wayLong_31 : decode cX6_wayLong 31 = .ok (.invokevirtual 81, 3) := by decide +kernel
theorem dX6_wayLong_34 : decode cX6_wayLong 34 = .ok (.iload_n 1, 1) := by decide +kernel
theorem dX6_wayLong_35 : decode cX6_wayLong 35 = .ok (.invokestatic 85, 3) := by decide +kernel
theorem dX6_wayLong_38 : decode cX6_wayLong 38 = .ok (.iand, 1) := by decide +kernel
theorem dX6_wayLong_39 : decode cX6_wayLong 39 = .ok (.ifCond .eq 20, 3) := by decide +kernel
theorem dX6_wayLong_42 : decode cX6_wayLong 42 = .ok (.aload_n 0, 1) := by decide +kernel
theorem dX6_wayLong_43 : decode cX6_wayLong 43 = .ok (.getfield 37, 3) := by decide +kernel
theorem dX6_wayLong_46 : decode cX6_wayLong 46 = .ok (.iload_n 3, 1) := by decide +kernel
theorem dX6_wayLong_47 : decode cX6_wayLong 47 = .ok (.iaload, 1) := by decide +kernel
theorem dX6_wayLong_48 : decode cX6_wayLong 48 = .ok (.iload_n 2, 1) := by decide +kernel
theorem dX6_wayLong_49 : decode cX6_wayLong 49 = .ok (.if_icmp .ge 10, 3) := by decide +kernel
theorem dX6_wayLong_52 : decode cX6_wayLong 52 = .ok (.aload_n 0, 1) := by decide +kernel
theorem dX6_wayLong_53 : decode cX6_wayLong 53 = .ok (.getfield 37, 3) := by decide +kernel
theorem dX6_wayLong_56 : decode cX6_wayLong 56 = .ok (.iload_n 3, 1) := by decide +kernel
theorem dX6_wayLong_57 : decode cX6_wayLong 57 = .ok (.iaload, 1) := by decide +kernel
theorem dX6_wayLong_58 : decode cX6_wayLong 58 = .ok (.istore_n 2, 1) := by decide +kernel
theorem dX6_wayLong_59 : decode cX6_wayLong 59 = .ok (.iinc 3 1, 3) := by decide +kernel
theorem dX6_wayLong_62 : decode cX6_wayLong 62 = .ok (.goto (-41), 3) := by decide +kernel
theorem dX6_wayLong_65 : decode cX6_wayLong 65 = .ok (.iload_n 2, 1) := by decide +kernel
theorem dX6_wayLong_66 : decode cX6_wayLong 66 = .ok (.ireturn, 1) := by decide +kernel
set_option maxRecDepth 20000 in
theorem ggX6_way_X6_wayLong : GoodIn wsX6_way wsX6_wayLong := goodIn_r _ [6, 1, 7, 8, 9, 5, 10, 11, 12, 13, 14, 15, 16, 17, 18, 19, 20, 21, 22, 23, 24, 25, 26, 27, 28, 29, 30, 31, 32, 33, 34, 35, 36, 37, 38, 39, 40, 41, 42, 43, 44, 45, 46, 47, 48, 49, 50, 51, 52, 53, 54, 55, 56, 57, 58, 59, 60, 61, 62, 63, 64] (by decide +kernel) (by decide +kernel)
set_option maxRecDepth 20000 in
theorem gX6_way_X6_wayLong : GoodIn wsX6_way (wsV RX6 127 RX6 yX6_wayLong wsX6_wayLong) := goodIn_app (goodIn_of _ (by decide +kernel)) ggX6_way_X6_wayLong
set_option maxRecDepth 20000 in
theorem ggX6_way_X6_lies : GoodIn wsX6_way wsX6_lies := goodIn_r _ [40] (by decide +kernel) (by decide +kernel)
set_option maxRecDepth 20000 in
theorem gX6_way_X6_lies : GoodIn wsX6_way (va_wsS RX6 60 yX6_lies wsX6_lies) := goodIn_app (goodIn_of _ (by decide +kernel)) ggX6_way_X6_lies
set_option maxRecDepth 20000 in
theorem ggX6_way_X6_joined : GoodIn wsX6_way wsX6_joined := goodIn_r _ [10, 11, 12, 13, 5, 14, 15, 16, 17, 18, 19, 20, 21, 22, 23, 24, 25, 26, 27, 28, 29, 30, 31, 32, 33, 34, 35, 36, 37, 38, 39, 40, 41, 42, 43, 48, 49, 50, 51, 52, 53, 54, 55, 56, 57, 58, 59, 60, 61, 62, 63, 64] (by decide +kernel) (by decide +kernel)
set_option maxRecDepth 20000 in
theorem gX6_way_X6_joined : GoodIn wsX6_way (wsV RX6 101 RX6 yX6_joined wsX6_joined) := goodIn_app (goodIn_of _ (by decide +kernel)) ggX6_way_X6_joined
set_option maxRecDepth 20000 in
theorem ggX6_way_X6_measures : GoodIn wsX6_way wsX6_measures := goodIn_r _ [47, 1, 16, 17, 18, 19, 5, 20, 21, 22, 23, 24, 25, 26, 41, 42, 43, 34, 35, 36, 37, 38, 39, 40, 48, 49, 50, 51, 52, 53, 54, 55, 56, 57, 58, 59, 60, 61, 62, 63, 64] (by decide +kernel) (by decide +kernel)
set_option maxRecDepth 20000 in
theorem gX6_way_X6_measures : GoodIn wsX6_way (wsV RX6 124 RX6 yX6_measures wsX6_measures) := goodIn_app (goodIn_of _ (by decide +kernel)) ggX6_way_X6_measures
set_option maxRecDepth 20000 in
theorem ggX6_way_X6_banks : GoodIn wsX6_way wsX6_banks := goodIn_r _ [26, 22, 21, 48, 49, 50, 51, 52, 53, 54, 55, 56, 57, 58, 59, 60, 61, 62, 63, 64] (by decide +kernel) (by decide +kernel)
set_option maxRecDepth 20000 in
theorem gX6_way_X6_banks : GoodIn wsX6_way (wsV RX6 81 RX6 yX6_banks wsX6_banks) := goodIn_app (goodIn_of _ (by decide +kernel)) ggX6_way_X6_banks
set_option maxRecDepth 20000 in
theorem ggX6_way_X6_first : GoodIn wsX6_way wsX6_first := goodIn_r _ [29] (by decide +kernel) (by decide +kernel)
set_option maxRecDepth 20000 in
theorem gX6_way_X6_first : GoodIn wsX6_way (va_wsS RX6 85 yX6_first wsX6_first) := goodIn_app (goodIn_of _ (by decide +kernel)) ggX6_way_X6_first
set_option maxRecDepth 20000 in
theorem ggX6_way_X6_beside : GoodIn wsX6_way wsX6_beside := goodIn_r _ [37, 22, 21, 38, 39, 5, 40, 48, 49, 50, 51, 52, 53, 54, 55, 56, 57, 58, 59, 60, 61, 62, 63, 64] (by decide +kernel) (by decide +kernel)
set_option maxRecDepth 20000 in
theorem gX6_way_X6_beside : GoodIn wsX6_way (wsV RX6 77 RX6 yX6_beside wsX6_beside) := goodIn_app (goodIn_of _ (by decide +kernel)) ggX6_way_X6_beside
theorem dX6_way_0 : decode cX6_way 0 = .ok (.aload_n 0, 1) := by decide +kernel
theorem dX6_way_1 : decode cX6_way 1 = .ok (.invokevirtual 127, 3) := by decide +kernel
theorem dX6_way_4 : decode cX6_way 4 = .ok (.istore_n 2, 1) := by decide +kernel
theorem dX6_way_5 : decode cX6_way 5 = .ok (.iload_n 1, 1) := by decide +kernel
theorem dX6_way_6 : decode cX6_way 6 = .ok (.iconst 0, 1) := by decide +kernel
theorem dX6_way_7 : decode cX6_way 7 = .ok (.iload_n 2, 1) := by decide +kernel
theorem dX6_way_8 : decode cX6_way 8 = .ok (.iconst 1, 1) := by decide +kernel
theorem dX6_way_9 : decode cX6_way 9 = .ok (.isub, 1) := by decide +kernel
theorem dX6_way_10 : decode cX6_way 10 = .ok (.invokestatic 60, 3) := by decide +kernel
theorem dX6_way_13 : decode cX6_way 13 = .ok (.ifCond .ne 5, 3) := by decide +kernel
theorem dX6_way_16 : decode cX6_way 16 = .ok (.iconst (-1), 1) := by decide +kernel
theorem dX6_way_17 : decode cX6_way 17 = .ok (.ireturn, 1) := by decide +kernel
theorem dX6_way_18 : decode cX6_way 18 = .ok (.aload_n 0, 1) := by decide +kernel
theorem dX6_way_19 : decode cX6_way 19 = .ok (.invokevirtual 101, 3) := by decide +kernel
theorem dX6_way_22 : decode cX6_way 22 = .ok (.istore_n 3, 1) := by decide +kernel
theorem dX6_way_23 : decode cX6_way 23 = .ok (.aload_n 0, 1) := by decide +kernel
theorem dX6_way_24 : decode cX6_way 24 = .ok (.iload_n 3, 1) := by decide +kernel
theorem dX6_way_25 : decode cX6_way 25 = .ok (.invokevirtual 124, 3) := by decide +kernel
theorem dX6_way_28 : decode cX6_way 28 = .ok (.iconst 0, 1) := by decide +kernel
theorem dX6_way_29 : decode cX6_way 29 = .ok (.istore 4, 2) := by decide +kernel
theorem dX6_way_31 : decode cX6_way 31 = .ok (.aload_n 0, 1) := by decide +kernel
theorem dX6_way_32 : decode cX6_way 32 = .ok (.iload 4, 2) := by decide +kernel
theorem dX6_way_34 : decode cX6_way 34 = .ok (.invokevirtual 81, 3) := by decide +kernel
theorem dX6_way_37 : decode cX6_way 37 = .ok (.iload_n 3, 1) := by decide +kernel
theorem dX6_way_38 : decode cX6_way 38 = .ok (.invokestatic 85, 3) := by decide +kernel
theorem dX6_way_41 : decode cX6_way 41 = .ok (.iand, 1) := by decide +kernel
theorem dX6_way_42 : decode cX6_way 42 = .ok (.ifCond .eq 14, 3) := by decide +kernel
theorem dX6_way_45 : decode cX6_way 45 = .ok (.aload_n 0, 1) := by decide +kernel
theorem dX6_way_46 : decode cX6_way 46 = .ok (.getfield 37, 3) := by decide +kernel
theorem dX6_way_49 : decode cX6_way 49 = .ok (.iload 4, 2) := by decide +kernel
theorem dX6_way_51 : decode cX6_way 51 = .ok (.iaload, 1) := by decide +kernel
theorem dX6_way_52 : decode cX6_way 52 = .ok (.iload_n 2, 1) := by decide +kernel
theorem dX6_way_53 : decode cX6_way 53 = .ok (.if_icmp .eq 9, 3) := by decide +kernel
theorem dX6_way_56 : decode cX6_way 56 = .ok (.iinc 4 1, 3) := by decide +kernel
theorem dX6_way_59 : decode cX6_way 59 = .ok (.goto (-28), 3) := by decide +kernel
theorem dX6_way_62 : decode cX6_way 62 = .ok (.iconst 1, 1) := by decide +kernel
theorem dX6_way_63 : decode cX6_way 63 = .ok (.istore 5, 2) := by decide +kernel
theorem dX6_way_65 : decode cX6_way 65 = .ok (.iload 5, 2) := by decide +kernel
theorem dX6_way_67 : decode cX6_way 67 = .ok (.iload_n 1, 1) := by decide +kernel
theorem dX6_way_68 : decode cX6_way 68 = .ok (.if_icmp .gt 74, 3) := by decide +kernel
theorem dX6_way_71 : decode cX6_way 71 = .ok (.bipush 36, 2) := by decide +kernel
theorem dX6_way_73 : decode cX6_way 73 = .ok (.istore 6, 2) := by decide +kernel
theorem dX6_way_75 : decode cX6_way 75 = .ok (.iconst 0, 1) := by decide +kernel
theorem dX6_way_76 : decode cX6_way 76 = .ok (.istore 7, 2) := by decide +kernel
theorem dX6_way_78 : decode cX6_way 78 = .ok (.iload 7, 2) := by decide +kernel
theorem dX6_way_80 : decode cX6_way 80 = .ok (.bipush 6, 2) := by decide +kernel
theorem dX6_way_82 : decode cX6_way 82 = .ok (.if_icmp .ge 50, 3) := by decide +kernel
theorem dX6_way_85 : decode cX6_way 85 = .ok (.aload_n 0, 1) := by decide +kernel
theorem dX6_way_86 : decode cX6_way 86 = .ok (.iload 4, 2) := by decide +kernel
theorem dX6_way_88 : decode cX6_way 88 = .ok (.iload 7, 2) := by decide +kernel
theorem dX6_way_90 : decode cX6_way 90 = .ok (.invokevirtual 77, 3) := by decide +kernel
theorem dX6_way_93 : decode cX6_way 93 = .ok (.istore 8, 2) := by decide +kernel
theorem dX6_way_95 : decode cX6_way 95 = .ok (.iload 8, 2) := by decide +kernel
theorem dX6_way_97 : decode cX6_way 97 = .ok (.iconst (-1), 1) := by decide +kernel
theorem dX6_way_98 : decode cX6_way 98 = .ok (.if_icmp .eq 28, 3) := by decide +kernel
theorem dX6_way_101 : decode cX6_way 101 = .ok (.aload_n 0, 1) := by decide +kernel
theorem dX6_way_102 : decode cX6_way 102 = .ok (.getfield 37, 3) := by decide +kernel
theorem dX6_way_105 : decode cX6_way 105 = .ok (.iload 8, 2) := by decide +kernel
theorem dX6_way_107 : decode cX6_way 107 = .ok (.iaload, 1) := by decide +kernel
theorem dX6_way_108 : decode cX6_way 108 = .ok (.iload_n 2, 1) := by decide +kernel
theorem dX6_way_109 : decode cX6_way 109 = .ok (.iload 5, 2) := by decide +kernel
theorem dX6_way_111 : decode cX6_way 111 = .ok (.isub, 1) := by decide +kernel
theorem dX6_way_112 : decode cX6_way 112 = .ok (.if_icmp .ne 14, 3) := by decide +kernel
theorem dX6_way_115 : decode cX6_way 115 = .ok (.iload 8, 2) := by decide +kernel
theorem dX6_way_117 : decode cX6_way 117 = .ok (.iload 6, 2) := by decide +kernel
theorem dX6_way_119 : decode cX6_way 119 = .ok (.if_icmp .ge 7, 3) := by decide +kernel
theorem dX6_way_122 : decode cX6_way 122 = .ok (.iload 8, 2) := by decide +kernel
theorem dX6_way_124 : decode cX6_way 124 = .ok (.istore 6, 2) := by decide +kernel
theorem dX6_way_126 : decode cX6_way 126 = .ok (.iinc 7 1, 3) := by decide +kernel
theorem dX6_way_129 : decode cX6_way 129 = .ok (.goto (-51), 3) := by decide +kernel
theorem dX6_way_132 : decode cX6_way 132 = .ok (.iload 6, 2) := by decide +kernel
theorem dX6_way_134 : decode cX6_way 134 = .ok (.istore 4, 2) := by decide +kernel
theorem dX6_way_136 : decode cX6_way 136 = .ok (.iinc 5 1, 3) := by decide +kernel
theorem dX6_way_139 : decode cX6_way 139 = .ok (.goto (-74), 3) := by decide +kernel
theorem dX6_way_142 : decode cX6_way 142 = .ok (.iload 4, 2) := by decide +kernel
theorem dX6_way_144 : decode cX6_way 144 = .ok (.ireturn, 1) := by decide +kernel
set_option maxRecDepth 20000 in
theorem ggX6_opens_X6_fields : GoodIn wsX6_opens wsX6_fields := goodIn_r _ [9, 10, 11, 12, 13, 14, 15, 16, 17, 18, 19, 20, 21, 22, 23, 24, 25, 26, 27, 28] (by decide +kernel) (by decide +kernel)
set_option maxRecDepth 20000 in
theorem gX6_opens_X6_fields : GoodIn wsX6_opens (wsV RX6 56 RX6 yX6_fields wsX6_fields) := goodIn_app (goodIn_of _ (by decide +kernel)) ggX6_opens_X6_fields
theorem dX6_opens_0 : decode cX6_opens 0 = .ok (.aload_n 0, 1) := by decide +kernel
theorem dX6_opens_1 : decode cX6_opens 1 = .ok (.iconst 0, 1) := by decide +kernel
theorem dX6_opens_2 : decode cX6_opens 2 = .ok (.putfield 130, 3) := by decide +kernel
theorem dX6_opens_5 : decode cX6_opens 5 = .ok (.iconst 0, 1) := by decide +kernel
theorem dX6_opens_6 : decode cX6_opens 6 = .ok (.istore_n 1, 1) := by decide +kernel
theorem dX6_opens_7 : decode cX6_opens 7 = .ok (.iconst 0, 1) := by decide +kernel
theorem dX6_opens_8 : decode cX6_opens 8 = .ok (.istore_n 2, 1) := by decide +kernel
theorem dX6_opens_9 : decode cX6_opens 9 = .ok (.iload_n 2, 1) := by decide +kernel
theorem dX6_opens_10 : decode cX6_opens 10 = .ok (.aload_n 0, 1) := by decide +kernel
theorem dX6_opens_11 : decode cX6_opens 11 = .ok (.invokevirtual 56, 3) := by decide +kernel
theorem dX6_opens_14 : decode cX6_opens 14 = .ok (.if_icmp .ge 37, 3) := by decide +kernel
theorem dX6_opens_17 : decode cX6_opens 17 = .ok (.aload_n 0, 1) := by decide +kernel
theorem dX6_opens_18 : decode cX6_opens 18 = .ok (.getfield 19, 3) := by decide +kernel
theorem dX6_opens_21 : decode cX6_opens 21 = .ok (.iload_n 2, 1) := by decide +kernel
theorem dX6_opens_22 : decode cX6_opens 22 = .ok (.iaload, 1) := by decide +kernel
theorem dX6_opens_23 : decode cX6_opens 23 = .ok (.ifCond .eq 6, 3) := by decide +kernel
theorem dX6_opens_26 : decode cX6_opens 26 = .ok (.goto 19, 3) := by decide +kernel
theorem dX6_opens_29 : decode cX6_opens 29 = .ok (.iload_n 1, 1) := by decide +kernel
theorem dX6_opens_30 : decode cX6_opens 30 = .ok (.bipush 10, 2) := by decide +kernel
theorem dX6_opens_32 : decode cX6_opens 32 = .ok (.if_icmp .ge 10, 3) := by decide +kernel
theorem dX6_opens_35 : decode cX6_opens 35 = .ok (.aload_n 0, 1) := by decide +kernel
theorem dX6_opens_36 : decode cX6_opens 36 = .ok (.getfield 40, 3) := by decide +kernel
theorem dX6_opens_39 : decode cX6_opens 39 = .ok (.iload_n 1, 1) := by decide +kernel
theorem dX6_opens_40 : decode cX6_opens 40 = .ok (.iload_n 2, 1) := by decide +kernel
theorem dX6_opens_41 : decode cX6_opens 41 = .ok (.iastore, 1) := by decide +kernel
theorem dX6_opens_42 : decode cX6_opens 42 = .ok (.iinc 1 1, 3) := by decide +kernel
theorem dX6_opens_45 : decode cX6_opens 45 = .ok (.iinc 2 1, 3) := by decide +kernel
theorem dX6_opens_48 : decode cX6_opens 48 = .ok (.goto (-39), 3) := by decide +kernel
theorem dX6_opens_51 : decode cX6_opens 51 = .ok (.aload_n 0, 1) := by decide +kernel
theorem dX6_opens_52 : decode cX6_opens 52 = .ok (.iload_n 1, 1) := by decide +kernel
theorem dX6_opens_53 : decode cX6_opens 53 = .ok (.putfield 130, 3) := by decide +kernel
theorem dX6_opens_56 : decode cX6_opens 56 = .ok (.aload_n 0, 1) := by decide +kernel
theorem dX6_opens_57 : decode cX6_opens 57 = .ok (.getfield 43, 3) := by decide +kernel
theorem dX6_opens_60 : decode cX6_opens 60 = .ok (.iconst 0, 1) := by decide +kernel
theorem dX6_opens_61 : decode cX6_opens 61 = .ok (.iconst 1, 1) := by decide +kernel
theorem dX6_opens_62 : decode cX6_opens 62 = .ok (.iastore, 1) := by decide +kernel
theorem dX6_opens_63 : decode cX6_opens 63 = .ok (.iconst 1, 1) := by decide +kernel
theorem dX6_opens_64 : decode cX6_opens 64 = .ok (.istore_n 2, 1) := by decide +kernel
theorem dX6_opens_65 : decode cX6_opens 65 = .ok (.iload_n 2, 1) := by decide +kernel
theorem dX6_opens_66 : decode cX6_opens 66 = .ok (.bipush 10, 2) := by decide +kernel
theorem dX6_opens_68 : decode cX6_opens 68 = .ok (.if_icmp .gt 25, 3) := by decide +kernel
theorem dX6_opens_71 : decode cX6_opens 71 = .ok (.aload_n 0, 1) := by decide +kernel
theorem dX6_opens_72 : decode cX6_opens 72 = .ok (.getfield 43, 3) := by decide +kernel
theorem dX6_opens_75 : decode cX6_opens 75 = .ok (.iload_n 2, 1) := by decide +kernel
theorem dX6_opens_76 : decode cX6_opens 76 = .ok (.iconst 3, 1) := by decide +kernel
theorem dX6_opens_77 : decode cX6_opens 77 = .ok (.aload_n 0, 1) := by decide +kernel
theorem dX6_opens_78 : decode cX6_opens 78 = .ok (.getfield 43, 3) := by decide +kernel
theorem dX6_opens_81 : decode cX6_opens 81 = .ok (.iload_n 2, 1) := by decide +kernel
theorem dX6_opens_82 : decode cX6_opens 82 = .ok (.iconst 1, 1) := by decide +kernel
theorem dX6_opens_83 : decode cX6_opens 83 = .ok (.isub, 1) := by decide +kernel
theorem dX6_opens_84 : decode cX6_opens 84 = .ok (.iaload, 1) := by decide +kernel
theorem dX6_opens_85 : decode cX6_opens 85 = .ok (.imul, 1) := by decide +kernel
theorem dX6_opens_86 : decode cX6_opens 86 = .ok (.iastore, 1) := by decide +kernel
theorem dX6_opens_87 : decode cX6_opens 87 = .ok (.iinc 2 1, 3) := by decide +kernel
theorem dX6_opens_90 : decode cX6_opens 90 = .ok (.goto (-25), 3) := by decide +kernel
theorem dX6_opens_93 : decode cX6_opens 93 = .ok (.iload_n 1, 1) := by decide +kernel
theorem dX6_opens_94 : decode cX6_opens 94 = .ok (.bipush 10, 2) := by decide +kernel
theorem dX6_opens_96 : decode cX6_opens 96 = .ok (.if_icmp .gt 7, 3) := by decide +kernel
theorem dX6_opens_99 : decode cX6_opens 99 = .ok (.iconst 1, 1) := by decide +kernel
theorem dX6_opens_100 : decode cX6_opens 100 = .ok (.goto 4, 3) := by decide +kernel
theorem dX6_opens_103 : decode cX6_opens 103 = .ok (.iconst 0, 1) := by decide +kernel
theorem dX6_opens_104 : decode cX6_opens 104 = .ok (.ireturn, 1) := by decide +kernel
theorem dX6_fills_0 : decode cX6_fills 0 = .ok (.iconst 0, 1) := by decide +kernel
theorem dX6_fills_1 : decode cX6_fills 1 = .ok (.istore_n 2, 1) := by decide +kernel
theorem dX6_fills_2 : decode cX6_fills 2 = .ok (.iload_n 2, 1) := by decide +kernel
theorem dX6_fills_3 : decode cX6_fills 3 = .ok (.aload_n 0, 1) := by decide +kernel
theorem dX6_fills_4 : decode cX6_fills 4 = .ok (.getfield 130, 3) := by decide +kernel
theorem dX6_fills_7 : decode cX6_fills 7 = .ok (.if_icmp .ge 30, 3) := by decide +kernel
theorem dX6_fills_10 : decode cX6_fills 10 = .ok (.aload_n 0, 1) := by decide +kernel
theorem dX6_fills_11 : decode cX6_fills 11 = .ok (.getfield 19, 3) := by decide +kernel
theorem dX6_fills_14 : decode cX6_fills 14 = .ok (.aload_n 0, 1) := by decide +kernel
theorem dX6_fills_15 : decode cX6_fills 15 = .ok (.getfield 40, 3) := by decide +kernel
theorem dX6_fills_18 : decode cX6_fills 18 = .ok (.iload_n 2, 1) := by decide +kernel
theorem dX6_fills_19 : decode cX6_fills 19 = .ok (.iaload, 1) := by decide +kernel
theorem dX6_fills_20 : decode cX6_fills 20 = .ok (.iload_n 1, 1) := by decide +kernel
theorem dX6_fills_21 : decode cX6_fills 21 = .ok (.aload_n 0, 1) := by decide +kernel
theorem dX6_fills_22 : decode cX6_fills 22 = .ok (.getfield 43, 3) := by decide +kernel
theorem dX6_fills_25 : decode cX6_fills 25 = .ok (.iload_n 2, 1) := by decide +kernel
theorem dX6_fills_26 : decode cX6_fills 26 = .ok (.iaload, 1) := by decide +kernel
theorem dX6_fills_27 : decode cX6_fills 27 = .ok (.idiv, 1) := by decide +kernel
theorem dX6_fills_28 : decode cX6_fills 28 = .ok (.iconst 3, 1) := by decide +kernel
theorem dX6_fills_29 : decode cX6_fills 29 = .ok (.irem, 1) := by decide +kernel
theorem dX6_fills_30 : decode cX6_fills 30 = .ok (.iastore, 1) := by decide +kernel
theorem dX6_fills_31 : decode cX6_fills 31 = .ok (.iinc 2 1, 3) := by decide +kernel
theorem dX6_fills_34 : decode cX6_fills 34 = .ok (.goto (-32), 3) := by decide +kernel
theorem dX6_fills_37 : decode cX6_fills 37 = .ok (.return_, 1) := by decide +kernel
set_option maxRecDepth 20000 in
theorem ggX6_hang_X6_groupOf : GoodIn wsX6_hang wsX6_groupOf := goodIn_r _ [7, 2, 1, 8, 9, 10, 6, 11, 12, 13, 14, 15, 16, 17, 18, 19, 20, 21, 22, 23, 24, 25, 26, 27, 28, 29, 30, 31, 32, 33, 34, 35, 36, 37, 38, 39, 40, 41, 42, 43, 44, 45] (by decide +kernel) (by decide +kernel)
set_option maxRecDepth 20000 in
theorem gX6_hang_X6_groupOf : GoodIn wsX6_hang (wsV RX6 115 RX6 yX6_groupOf wsX6_groupOf) := goodIn_app (goodIn_of _ (by decide +kernel)) ggX6_hang_X6_groupOf
theorem dX6_hang_0 : decode cX6_hang 0 = .ok (.aload_n 0, 1) := by decide +kernel
theorem dX6_hang_1 : decode cX6_hang 1 = .ok (.getfield 19, 3) := by decide +kernel
theorem dX6_hang_4 : decode cX6_hang 4 = .ok (.iload_n 2, 1) := by decide +kernel
theorem dX6_hang_5 : decode cX6_hang 5 = .ok (.iaload, 1) := by decide +kernel
theorem dX6_hang_6 : decode cX6_hang 6 = .ok (.iload_n 1, 1) := by decide +kernel
theorem dX6_hang_7 : decode cX6_hang 7 = .ok (.if_icmp .ne 13, 3) := by decide +kernel
theorem dX6_hang_10 : decode cX6_hang 10 = .ok (.aload_n 0, 1) := by decide +kernel
theorem dX6_hang_11 : decode cX6_hang 11 = .ok (.getfield 19, 3) := by decide +kernel
theorem dX6_hang_14 : decode cX6_hang 14 = .ok (.iload_n 3, 1) := by decide +kernel
theorem dX6_hang_15 : decode cX6_hang 15 = .ok (.iaload, 1) := by decide +kernel
theorem dX6_hang_16 : decode cX6_hang 16 = .ok (.iload_n 1, 1) := by decide +kernel
theorem dX6_hang_17 : decode cX6_hang 17 = .ok (.if_icmp .eq 5, 3) := by decide +kernel
theorem dX6_hang_20 : decode cX6_hang 20 = .ok (.iconst 0, 1) := by decide +kernel
theorem dX6_hang_21 : decode cX6_hang 21 = .ok (.ireturn, 1) := by decide +kernel
theorem dX6_hang_22 : decode cX6_hang 22 = .ok (.aload_n 0, 1) := by decide +kernel
theorem dX6_hang_23 : decode cX6_hang 23 = .ok (.iload_n 2, 1) := by decide +kernel
theorem dX6_hang_24 : decode cX6_hang 24 = .ok (.invokevirtual 115, 3) := by decide +kernel
theorem dX6_hang_27 : decode cX6_hang 27 = .ok (.aload_n 0, 1) := by decide +kernel
theorem dX6_hang_28 : decode cX6_hang 28 = .ok (.getfield 30, 3) := by decide +kernel
theorem dX6_hang_31 : decode cX6_hang 31 = .ok (.iload_n 3, 1) := by decide +kernel
theorem dX6_hang_32 : decode cX6_hang 32 = .ok (.baload, 1) := by decide +kernel
theorem dX6_hang_33 : decode cX6_hang 33 = .ok (.ireturn, 1) := by decide +kernel
set_option maxRecDepth 20000 in
theorem ggX6_works_X6_fills : GoodIn wsX6_works wsX6_fills := goodIn_r _ [9, 2, 10, 11, 1, 56, 57, 58, 59, 60, 61, 62, 63, 64, 65, 66, 67, 68, 69, 70, 71, 72] (by decide +kernel) (by decide +kernel)
set_option maxRecDepth 20000 in
theorem gX6_works_X6_fills : GoodIn wsX6_works (wsV RX6 133 RX6 yX6_fills wsX6_fills) := goodIn_app (goodIn_of _ (by decide +kernel)) ggX6_works_X6_fills
set_option maxRecDepth 20000 in
theorem ggX6_works_X6_joins : GoodIn wsX6_works wsX6_joins := goodIn_r _ [15, 16, 10, 17, 18, 19, 8, 20, 21, 22, 23, 24, 25, 26, 27, 28, 29, 30, 31, 32, 33, 34, 35, 36, 37, 38, 39, 40, 41, 42, 43, 56, 57, 58, 59, 60, 61, 62, 63, 64, 65, 66, 67, 68, 69, 70, 71, 72] (by decide +kernel) (by decide +kernel)
set_option maxRecDepth 20000 in
theorem gX6_works_X6_joins : GoodIn wsX6_works (wsV RX6 95 RX6 yX6_joins wsX6_joins) := goodIn_app (goodIn_of _ (by decide +kernel)) ggX6_works_X6_joins
set_option maxRecDepth 20000 in
theorem ggX6_works_X6_hang : GoodIn wsX6_works wsX6_hang := goodIn_r _ [47, 10, 16, 48, 49, 50, 8, 51, 52, 53, 54, 55, 30, 31, 32, 33, 17, 18, 19, 20, 21, 22, 34, 35, 36, 37, 38, 39, 40, 56, 57, 58, 59, 60, 61, 62, 63, 64, 65, 66, 67, 68, 69, 70, 71, 72] (by decide +kernel) (by decide +kernel)
set_option maxRecDepth 20000 in
theorem gX6_works_X6_hang : GoodIn wsX6_works (wsV RX6 136 RX6 yX6_hang wsX6_hang) := goodIn_app (goodIn_of _ (by decide +kernel)) ggX6_works_X6_hang
theorem dX6_works_0 : decode cX6_works 0 = .ok (.aload_n 0, 1) := by decide +kernel
theorem dX6_works_1 : decode cX6_works 1 = .ok (.getfield 43, 3) := by decide +kernel
theorem dX6_works_4 : decode cX6_works 4 = .ok (.aload_n 0, 1) := by decide +kernel
theorem dX6_works_5 : decode cX6_works 5 = .ok (.getfield 130, 3) := by decide +kernel
theorem dX6_works_8 : decode cX6_works 8 = .ok (.iaload, 1) := by decide +kernel
theorem dX6_works_9 : decode cX6_works 9 = .ok (.iconst 1, 1) := by decide +kernel
theorem dX6_works_10 : decode cX6_works 10 = .ok (.isub, 1) := by decide +kernel
theorem dX6_works_11 : decode cX6_works 11 = .ok (.istore 4, 2) := by decide +kernel
theorem dX6_works_13 : decode cX6_works 13 = .ok (.iload 4, 2) := by decide +kernel
theorem dX6_works_15 : decode cX6_works 15 = .ok (.ifCond .lt 301, 3) := by decide +kernel
theorem dX6_works_18 : decode cX6_works 18 = .ok (.iconst 1, 1) := by decide +kernel
theorem dX6_works_19 : decode cX6_works 19 = .ok (.istore 5, 2) := by decide +kernel
theorem dX6_works_21 : decode cX6_works 21 = .ok (.iconst 0, 1) := by decide +kernel
theorem dX6_works_22 : decode cX6_works 22 = .ok (.istore 6, 2) := by decide +kernel
theorem dX6_works_24 : decode cX6_works 24 = .ok (.iload 6, 2) := by decide +kernel
theorem dX6_works_26 : decode cX6_works 26 = .ok (.aload_n 0, 1) := by decide +kernel
theorem dX6_works_27 : decode cX6_works 27 = .ok (.getfield 130, 3) := by decide +kernel
theorem dX6_works_30 : decode cX6_works 30 = .ok (.if_icmp .ge 36, 3) := by decide +kernel
theorem dX6_works_33 : decode cX6_works 33 = .ok (.iload 5, 2) := by decide +kernel
theorem dX6_works_35 : decode cX6_works 35 = .ok (.ifCond .eq 22, 3) := by decide +kernel
theorem dX6_works_38 : decode cX6_works 38 = .ok (.iload 4, 2) := by decide +kernel
theorem dX6_works_40 : decode cX6_works 40 = .ok (.aload_n 0, 1) := by decide +kernel
theorem dX6_works_41 : decode cX6_works 41 = .ok (.getfield 43, 3) := by decide +kernel
theorem dX6_works_44 : decode cX6_works 44 = .ok (.iload 6, 2) := by decide +kernel
theorem dX6_works_46 : decode cX6_works 46 = .ok (.iaload, 1) := by decide +kernel
theorem dX6_works_47 : decode cX6_works 47 = .ok (.idiv, 1) := by decide +kernel
theorem dX6_works_48 : decode cX6_works 48 = .ok (.iconst 3, 1) := by decide +kernel
theorem dX6_works_49 : decode cX6_works 49 = .ok (.irem, 1) := by decide +kernel
theorem dX6_works_50 : decode cX6_works 50 = .ok (.ifCond .eq 7, 3) := by decide +kernel
theorem dX6_works_53 : decode cX6_works 53 = .ok (.iconst 1, 1) := by decide +kernel
theorem dX6_works_54 : decode cX6_works 54 = .ok (.goto 4, 3) := by decide +kernel
theorem dX6_works_57 : decode cX6_works 57 = .ok (.iconst 0, 1) := by decide +kernel
theorem dX6_works_58 : decode cX6_works 58 = .ok (.istore 5, 2) := by decide +kernel
theorem dX6_works_60 : decode cX6_works 60 = .ok (.iinc 6 1, 3) := by decide +kernel
theorem dX6_works_63 : decode cX6_works 63 = .ok (.goto (-39), 3) := by decide +kernel
theorem dX6_works_66 : decode cX6_works 66 = .ok (.iload 5, 2) := by decide +kernel
theorem dX6_works_68 : decode cX6_works 68 = .ok (.ifCond .eq 52, 3) := by decide +kernel
theorem dX6_works_71 : decode cX6_works 71 = .ok (.aload_n 0, 1) := by decide +kernel
theorem dX6_works_72 : decode cX6_works 72 = .ok (.iload 4, 2) := by decide +kernel
theorem dX6_works_74 : decode cX6_works 74 = .ok (.invokevirtual 133, 3) := by decide +kernel
theorem dX6_works_77 : decode cX6_works 77 = .ok (.iload_n 2, 1) := by decide +kernel
theorem dX6_works_78 : decode cX6_works 78 = .ok (.iconst (-1), 1) := by decide +kernel
theorem dX6_works_79 : decode cX6_works 79 = .ok (.if_icmp .ne 11, 3) := by decide +kernel
theorem dX6_works_82 : decode cX6_works 82 = .ok (.aload_n 0, 1) := by decide +kernel
theorem dX6_works_83 : decode cX6_works 83 = .ok (.iload_n 1, 1) := by decide +kernel
theorem dX6_works_84 : decode cX6_works 84 = .ok (.invokevirtual 95, 3) := by decide +kernel
theorem dX6_works_87 : decode cX6_works 87 = .ok (.goto 10, 3) := by decide +kernel
theorem dX6_works_90 : decode cX6_works 90 = .ok (.aload_n 0, 1) := by decide +kernel
theorem dX6_works_91 : decode cX6_works 91 = .ok (.iload_n 1, 1) := by decide +kernel
theorem dX6_works_92 : decode cX6_works 92 = .ok (.iload_n 2, 1) := by decide +kernel
theorem dX6_works_93 : decode cX6_works 93 = .ok (.iload_n 3, 1) := by decide +kernel
theorem dX6_works_94 : decode cX6_works 94 = .ok (.invokevirtual 136, 3) := by decide +kernel
theorem dX6_works_97 : decode cX6_works 97 = .ok (.istore 6, 2) := by decide +kernel
theorem dX6_works_99 : decode cX6_works 99 = .ok (.aload_n 0, 1) := by decide +kernel
theorem dX6_works_100 : decode cX6_works 100 = .ok (.getfield 47, 3) := by decide +kernel
theorem dX6_works_103 : decode cX6_works 103 = .ok (.iload 4, 2) := by decide +kernel
theorem dX6_works_105 : decode cX6_works 105 = .ok (.iload 6, 2) := by decide +kernel
theorem dX6_works_107 : decode cX6_works 107 = .ok (.bastore, 1) := by decide +kernel
theorem dX6_works_108 : decode cX6_works 108 = .ok (.aload_n 0, 1) := by decide +kernel
theorem dX6_works_109 : decode cX6_works 109 = .ok (.getfield 50, 3) := by decide +kernel
theorem dX6_works_112 : decode cX6_works 112 = .ok (.iload 4, 2) := by decide +kernel
theorem dX6_works_114 : decode cX6_works 114 = .ok (.iload 6, 2) := by decide +kernel
theorem dX6_works_116 : decode cX6_works 116 = .ok (.bastore, 1) := by decide +kernel
theorem dX6_works_117 : decode cX6_works 117 = .ok (.goto 193, 3) := by decide +kernel
theorem dX6_works_120 : decode cX6_works 120 = .ok (.iconst 0, 1) := by decide +kernel
theorem dX6_works_121 : decode cX6_works 121 = .ok (.istore 6, 2) := by decide +kernel
theorem dX6_works_123 : decode cX6_works 123 = .ok (.iconst 1, 1) := by decide +kernel
theorem dX6_works_124 : decode cX6_works 124 = .ok (.istore 7, 2) := by decide +kernel
theorem dX6_works_126 : decode cX6_works 126 = .ok (.iconst 0, 1) := by decide +kernel
theorem dX6_works_127 : decode cX6_works 127 = .ok (.istore 8, 2) := by decide +kernel
theorem dX6_works_129 : decode cX6_works 129 = .ok (.iload 8, 2) := by decide +kernel
theorem dX6_works_131 : decode cX6_works 131 = .ok (.aload_n 0, 1) := by decide +kernel
theorem dX6_works_132 : decode cX6_works 132 = .ok (.getfield 130, 3) := by decide +kernel
theorem dX6_works_135 : decode cX6_works 135 = .ok (.if_icmp .ge 137, 3) := by decide +kernel
theorem dX6_works_138 : decode cX6_works 138 = .ok (.iload 4, 2) := by decide +kernel
theorem dX6_works_140 : decode cX6_works 140 = .ok (.aload_n 0, 1) := by decide +kernel
theorem dX6_works_141 : decode cX6_works 141 = .ok (.getfield 43, 3) := by decide +kernel
theorem dX6_works_144 : decode cX6_works 144 = .ok (.iload 8, 2) := by decide +kernel
theorem dX6_works_146 : decode cX6_works 146 = .ok (.iaload, 1) := by decide +kernel
theorem dX6_works_147 : decode cX6_works 147 = .ok (.idiv, 1) := by decide +kernel
theorem dX6_works_148 : decode cX6_works 148 = .ok (.iconst 3, 1) := by decide +kernel
theorem dX6_works_149 : decode cX6_works 149 = .ok (.irem, 1) := by decide +kernel
theorem dX6_works_150 : decode cX6_works 150 = .ok (.ifCond .eq 6, 3) := by decide +kernel
theorem dX6_works_153 : decode cX6_works 153 = .ok (.goto 113, 3) := by decide +kernel
theorem dX6_works_156 : decode cX6_works 156 = .ok (.iload 4, 2) := by decide +kernel
theorem dX6_works_158 : decode cX6_works 158 = .ok (.iload_n 1, 1) := by decide +kernel
theorem dX6_works_159 : decode cX6_works 159 = .ok (.aload_n 0, 1) := by decide +kernel
theorem dX6_works_160 : decode cX6_works 160 = .ok (.getfield 43, 3) := by decide +kernel
theorem dX6_works_163 : decode cX6_works 163 = .ok (.iload 8, 2) := by decide +kernel
theorem dX6_works_165 : decode cX6_works 165 = .ok (.iaload, 1) := by decide +kernel
theorem dX6_works_166 : decode cX6_works 166 = .ok (.imul, 1) := by decide +kernel
theorem dX6_works_167 : decode cX6_works 167 = .ok (.iadd, 1) := by decide +kernel
theorem dX6_works_168 : decode cX6_works 168 = .ok (.istore 9, 2) := by decide +kernel
theorem dX6_works_170 : decode cX6_works 170 = .ok (.iload 4, 2) := by decide +kernel
theorem dX6_works_172 : decode cX6_works 172 = .ok (.iconst 3, 1) := by decide +kernel
theorem dX6_works_173 : decode cX6_works 173 = .ok (.iload_n 1, 1) := by decide +kernel
theorem dX6_works_174 : decode cX6_works 174 = .ok (.isub, 1) := by decide +kernel
theorem dX6_works_175 : decode cX6_works 175 = .ok (.aload_n 0, 1) := by decide +kernel
theorem dX6_works_176 : decode cX6_works 176 = .ok (.getfield 43, 3) := by decide +kernel
theorem dX6_works_179 : decode cX6_works 179 = .ok (.iload 8, 2) := by decide +kernel
theorem dX6_works_181 : decode cX6_works 181 = .ok (.iaload, 1) := by decide +kernel
theorem dX6_works_182 : decode cX6_works 182 = .ok (.imul, 1) := by decide +kernel
theorem dX6_works_183 : decode cX6_works 183 = .ok (.iadd, 1) := by decide +kernel
theorem dX6_works_184 : decode cX6_works 184 = .ok (.istore 10, 2) := by decide +kernel
theorem dX6_works_186 : decode cX6_works 186 = .ok (.iload 6, 2) := by decide +kernel
theorem dX6_works_188 : decode cX6_works 188 = .ok (.ifCond .ne 31, 3) := by decide +kernel
theorem dX6_works_191 : decode cX6_works 191 = .ok (.iload_n 1, 1) := by decide +kernel
theorem dX6_works_192 : decode cX6_works 192 = .ok (.iconst 1, 1) := by decide +kernel
theorem dX6_works_193 : decode cX6_works 193 = .ok (.if_icmp .ne 16, 3) := by decide +kernel
theorem dX6_works_196 : decode cX6_works 196 = .ok (.aload_n 0, 1) := by decide +kernel
theorem dX6_works_197 : decode cX6_works 197 = .ok (.getfield 50, 3) := by decide +kernel
theorem dX6_works_200 : decode cX6_works 200 = .ok (.iload 9, 2) := by decide +kernel
theorem dX6_works_202 : decode cX6_works 202 = .ok (.baload, 1) := by decide +kernel
theorem dX6_works_203 : decode cX6_works 203 = .ok (.ifCond .eq 20, 3) := by decide +kernel
theorem dX6_works_206 : decode cX6_works 206 = .ok (.goto 13, 3) := by decide +kernel
theorem dX6_works_209 : decode cX6_works 209 = .ok (.aload_n 0, 1) := by decide +kernel
theorem dX6_works_210 : decode cX6_works 210 = .ok (.getfield 47, 3) := by decide +kernel
theorem dX6_works_213 : decode cX6_works 213 = .ok (.iload 9, 2) := by decide +kernel
theorem dX6_works_215 : decode cX6_works 215 = .ok (.baload, 1) := by decide +kernel
theorem dX6_works_216 : decode cX6_works 216 = .ok (.ifCond .eq 7, 3) := by decide +kernel
theorem dX6_works_219 : decode cX6_works 219 = .ok (.iconst 1, 1) := by decide +kernel
theorem dX6_works_220 : decode cX6_works 220 = .ok (.goto 4, 3) := by decide +kernel
theorem dX6_works_223 : decode cX6_works 223 = .ok (.iconst 0, 1) := by decide +kernel
theorem dX6_works_224 : decode cX6_works 224 = .ok (.istore 6, 2) := by decide +kernel
theorem dX6_works_226 : decode cX6_works 226 = .ok (.iload 7, 2) := by decide +kernel
theorem dX6_works_228 : decode cX6_works 228 = .ok (.ifCond .eq 35, 3) := by decide +kernel
theorem dX6_works_231 : decode cX6_works 231 = .ok (.iload_n 1, 1) := by decide +kernel
theorem dX6_works_232 : decode cX6_works 232 = .ok (.iconst 1, 1) := by decide +kernel
theorem dX6_works_233 : decode cX6_works 233 = .ok (.if_icmp .ne 16, 3) := by decide +kernel
theorem dX6_works_236 : decode cX6_works 236 = .ok (.aload_n 0, 1) := by decide +kernel
theorem dX6_works_237 : decode cX6_works 237 = .ok (.getfield 47, 3) := by decide +kernel
theorem dX6_works_240 : decode cX6_works 240 = .ok (.iload 10, 2) := by decide +kernel
theorem dX6_works_242 : decode cX6_works 242 = .ok (.baload, 1) := by decide +kernel
theorem dX6_works_243 : decode cX6_works 243 = .ok (.ifCond .eq 20, 3) := by decide +kernel
theorem dX6_works_246 : decode cX6_works 246 = .ok (.goto 13, 3) := by decide +kernel
theorem dX6_works_249 : decode cX6_works 249 = .ok (.aload_n 0, 1) := by decide +kernel
theorem dX6_works_250 : decode cX6_works 250 = .ok (.getfield 50, 3) := by decide +kernel
theorem dX6_works_253 : decode cX6_works 253 = .ok (.iload 10, 2) := by decide +kernel
theorem dX6_works_255 : decode cX6_works 255 = .ok (.baload, 1) := by decide +kernel
theorem dX6_works_256 : decode cX6_works 256 = .ok (.ifCond .eq 7, 3) := by decide +kernel
theorem dX6_works_259 : decode cX6_works 259 = .ok (.iconst 1, 1) := by decide +kernel
theorem dX6_works_260 : decode cX6_works 260 = .ok (.goto 4, 3) := by decide +kernel
theorem dX6_works_263 : decode cX6_works 263 = .ok (.iconst 0, 1) := by decide +kernel
theorem dX6_works_264 : decode cX6_works 264 = .ok (.istore 7, 2) := by decide +kernel
theorem dX6_works_266 : decode cX6_works 266 = .ok (.iinc 8 1, 3) := by decide +kernel
theorem dX6_works_269 : decode cX6_works 269 = .ok (.goto (-140), 3) := by decide +kernel
theorem dX6_works_272 : decode cX6_works 272 = .ok (.aload_n 0, 1) := by decide +kernel
theorem dX6_works_273 : decode cX6_works 273 = .ok (.getfield 47, 3) := by decide +kernel
theorem dX6_works_276 : decode cX6_works 276 = .ok (.iload 4, 2) := by decide +kernel
theorem dX6_works_278 : decode cX6_works 278 = .ok (.iload_n 1, 1) := by decide +kernel
theorem dX6_works_279 : decode cX6_works 279 = .ok (.iconst 1, 1) := by decide +kernel
theorem dX6_works_280 : decode cX6_works 280 = .ok (.if_icmp .ne 8, 3) := by decide +kernel
theorem dX6_works_283 : decode cX6_works 283 = .ok (.iload 6, 2) := by decide +kernel
theorem dX6_works_285 : decode cX6_works 285 = .ok (.goto 5, 3) := by decide +kernel
theorem dX6_works_288 : decode cX6_works 288 = .ok (.iload 7, 2) := by decide +kernel
theorem dX6_works_290 : decode cX6_works 290 = .ok (.bastore, 1) := by decide +kernel
theorem dX6_works_291 : decode cX6_works 291 = .ok (.aload_n 0, 1) := by decide +kernel
theorem dX6_works_292 : decode cX6_works 292 = .ok (.getfield 50, 3) := by decide +kernel
theorem dX6_works_295 : decode cX6_works 295 = .ok (.iload 4, 2) := by decide +kernel
theorem dX6_works_297 : decode cX6_works 297 = .ok (.iload_n 1, 1) := by decide +kernel
theorem dX6_works_298 : decode cX6_works 298 = .ok (.iconst 1, 1) := by decide +kernel
theorem dX6_works_299 : decode cX6_works 299 = .ok (.if_icmp .ne 8, 3) := by decide +kernel
theorem dX6_works_302 : decode cX6_works 302 = .ok (.iload 7, 2) := by decide +kernel
theorem dX6_works_304 : decode cX6_works 304 = .ok (.goto 5, 3) := by decide +kernel
theorem dX6_works_307 : decode cX6_works 307 = .ok (.iload 6, 2) := by decide +kernel
theorem dX6_works_309 : decode cX6_works 309 = .ok (.bastore, 1) := by decide +kernel
theorem dX6_works_310 : decode cX6_works 310 = .ok (.iinc 4 (-1), 3) := by decide +kernel
theorem dX6_works_313 : decode cX6_works 313 = .ok (.goto (-300), 3) := by decide +kernel
theorem dX6_works_316 : decode cX6_works 316 = .ok (.aload_n 0, 1) := by decide +kernel
theorem dX6_works_317 : decode cX6_works 317 = .ok (.iconst 0, 1) := by decide +kernel
theorem dX6_works_318 : decode cX6_works 318 = .ok (.invokevirtual 133, 3) := by decide +kernel
theorem dX6_works_321 : decode cX6_works 321 = .ok (.return_, 1) := by decide +kernel
theorem dX6_gets_0 : decode cX6_gets 0 = .ok (.iload_n 2, 1) := by decide +kernel
theorem dX6_gets_1 : decode cX6_gets 1 = .ok (.iconst 1, 1) := by decide +kernel
theorem dX6_gets_2 : decode cX6_gets 2 = .ok (.if_icmp .ne 12, 3) := by decide +kernel
theorem dX6_gets_5 : decode cX6_gets 5 = .ok (.aload_n 0, 1) := by decide +kernel
theorem dX6_gets_6 : decode cX6_gets 6 = .ok (.getfield 47, 3) := by decide +kernel
theorem dX6_gets_9 : decode cX6_gets 9 = .ok (.iload_n 1, 1) := by decide +kernel
theorem dX6_gets_10 : decode cX6_gets 10 = .ok (.baload, 1) := by decide +kernel
theorem dX6_gets_11 : decode cX6_gets 11 = .ok (.goto 9, 3) := by decide +kernel
theorem dX6_gets_14 : decode cX6_gets 14 = .ok (.aload_n 0, 1) := by decide +kernel
theorem dX6_gets_15 : decode cX6_gets 15 = .ok (.getfield 50, 3) := by decide +kernel
theorem dX6_gets_18 : decode cX6_gets 18 = .ok (.iload_n 1, 1) := by decide +kernel
theorem dX6_gets_19 : decode cX6_gets 19 = .ok (.baload, 1) := by decide +kernel
theorem dX6_gets_20 : decode cX6_gets 20 = .ok (.ireturn, 1) := by decide +kernel
set_option maxRecDepth 20000 in
theorem ggX6_winner_X6_lies : GoodIn wsX6_winner wsX6_lies := goodIn_r _ [4] (by decide +kernel) (by decide +kernel)
set_option maxRecDepth 20000 in
theorem gX6_winner_X6_lies : GoodIn wsX6_winner (va_wsS RX6 60 yX6_lies wsX6_lies) := goodIn_app (goodIn_of _ (by decide +kernel)) ggX6_winner_X6_lies
set_option maxRecDepth 20000 in
theorem ggX6_winner_X6_opens : GoodIn wsX6_winner wsX6_opens := goodIn_r _ [8, 9, 10, 11, 12, 13, 14, 15, 3, 16, 17, 18, 68, 69, 70, 71, 72, 73, 74, 75, 76, 77, 78, 79, 80, 81, 82, 83, 84] (by decide +kernel) (by decide +kernel)
set_option maxRecDepth 20000 in
theorem gX6_winner_X6_opens : GoodIn wsX6_winner (wsV RX6 139 RX6 yX6_opens wsX6_opens) := goodIn_app (goodIn_of _ (by decide +kernel)) ggX6_winner_X6_opens
set_option maxRecDepth 20000 in
theorem ggX6_winner_X6_works : GoodIn wsX6_winner wsX6_works := goodIn_r _ [22, 12, 9, 23, 24, 25, 26, 27, 3, 28, 10, 11, 29, 30, 31, 32, 33, 13, 14, 15, 16, 17, 18, 34, 35, 36, 37, 38, 39, 40, 41, 42, 43, 44, 45, 46, 47, 48, 1, 2, 4, 49, 50, 51, 52, 53, 54, 55, 56, 57, 58, 59, 60, 61, 62, 63, 68, 69, 70, 71, 72, 73, 74, 75, 76, 77, 78, 79, 80, 81, 82, 83, 84] (by decide +kernel) (by decide +kernel)
set_option maxRecDepth 20000 in
theorem gX6_winner_X6_works : GoodIn wsX6_winner (wsV RX6 143 RX6 yX6_works wsX6_works) := goodIn_app (goodIn_of _ (by decide +kernel)) ggX6_winner_X6_works
set_option maxRecDepth 20000 in
theorem ggX6_winner_X6_gets : GoodIn wsX6_winner wsX6_gets := goodIn_r _ [67, 23, 24, 68, 69, 70, 71, 72, 73, 74, 75, 76, 77, 78, 79, 80, 81, 82, 83, 84] (by decide +kernel) (by decide +kernel)
set_option maxRecDepth 20000 in
theorem gX6_winner_X6_gets : GoodIn wsX6_winner (wsV RX6 147 RX6 yX6_gets wsX6_gets) := goodIn_app (goodIn_of _ (by decide +kernel)) ggX6_winner_X6_gets
theorem dX6_winner_0 : decode cX6_winner 0 = .ok (.iload_n 1, 1) := by decide +kernel
theorem dX6_winner_1 : decode cX6_winner 1 = .ok (.iconst 1, 1) := by decide +kernel
theorem dX6_winner_2 : decode cX6_winner 2 = .ok (.iconst 2, 1) := by decide +kernel
theorem dX6_winner_3 : decode cX6_winner 3 = .ok (.invokestatic 60, 3) := by decide +kernel
theorem dX6_winner_6 : decode cX6_winner 6 = .ok (.ifCond .eq 10, 3) := by decide +kernel
theorem dX6_winner_9 : decode cX6_winner 9 = .ok (.aload_n 0, 1) := by decide +kernel
theorem dX6_winner_10 : decode cX6_winner 10 = .ok (.invokevirtual 139, 3) := by decide +kernel
theorem dX6_winner_13 : decode cX6_winner 13 = .ok (.ifCond .ne 5, 3) := by decide +kernel
theorem dX6_winner_16 : decode cX6_winner 16 = .ok (.iconst (-1), 1) := by decide +kernel
theorem dX6_winner_17 : decode cX6_winner 17 = .ok (.ireturn, 1) := by decide +kernel
theorem dX6_winner_18 : decode cX6_winner 18 = .ok (.aload_n 0, 1) := by decide +kernel
theorem dX6_winner_19 : decode cX6_winner 19 = .ok (.iconst 1, 1) := by decide +kernel
theorem dX6_winner_20 : decode cX6_winner 20 = .ok (.iconst (-1), 1) := by decide +kernel
theorem dX6_winner_21 : decode cX6_winner 21 = .ok (.iconst (-1), 1) := by decide +kernel
theorem dX6_winner_22 : decode cX6_winner 22 = .ok (.invokevirtual 143, 3) := by decide +kernel
theorem dX6_winner_25 : decode cX6_winner 25 = .ok (.aload_n 0, 1) := by decide +kernel
theorem dX6_winner_26 : decode cX6_winner 26 = .ok (.iconst 0, 1) := by decide +kernel
theorem dX6_winner_27 : decode cX6_winner 27 = .ok (.iload_n 1, 1) := by decide +kernel
theorem dX6_winner_28 : decode cX6_winner 28 = .ok (.invokevirtual 147, 3) := by decide +kernel
theorem dX6_winner_31 : decode cX6_winner 31 = .ok (.ifCond .eq 7, 3) := by decide +kernel
theorem dX6_winner_34 : decode cX6_winner 34 = .ok (.iconst 1, 1) := by decide +kernel
theorem dX6_winner_35 : decode cX6_winner 35 = .ok (.goto 4, 3) := by decide +kernel
theorem dX6_winner_38 : decode cX6_winner 38 = .ok (.iconst 2, 1) := by decide +kernel
theorem dX6_winner_39 : decode cX6_winner 39 = .ok (.ireturn, 1) := by decide +kernel
set_option maxRecDepth 20000 in
theorem ggX6_first__X6_lies : GoodIn wsX6_first_ wsX6_lies := goodIn_r _ [7] (by decide +kernel) (by decide +kernel)
set_option maxRecDepth 20000 in
theorem gX6_first__X6_lies : GoodIn wsX6_first_ (va_wsS RX6 60 yX6_lies wsX6_lies) := goodIn_app (goodIn_of _ (by decide +kernel)) ggX6_first__X6_lies
set_option maxRecDepth 20000 in
theorem ggX6_first__X6_opens : GoodIn wsX6_first_ wsX6_opens := goodIn_r _ [11, 1, 12, 3, 2, 13, 14, 15, 6, 16, 17, 18, 68, 69, 70, 71, 72, 73, 74, 75, 76, 77, 78, 79, 80, 81, 82, 83, 84] (by decide +kernel) (by decide +kernel)
set_option maxRecDepth 20000 in
theorem gX6_first__X6_opens : GoodIn wsX6_first_ (wsV RX6 139 RX6 yX6_opens wsX6_opens) := goodIn_app (goodIn_of _ (by decide +kernel)) ggX6_first__X6_opens
set_option maxRecDepth 20000 in
theorem ggX6_first__X6_works : GoodIn wsX6_first_ wsX6_works := goodIn_r _ [22, 2, 1, 23, 24, 25, 26, 27, 6, 28, 12, 3, 29, 30, 31, 32, 33, 13, 14, 15, 16, 17, 18, 34, 35, 36, 37, 38, 39, 40, 41, 42, 43, 44, 45, 46, 47, 48, 4, 5, 7, 49, 50, 51, 52, 53, 54, 55, 56, 57, 58, 59, 60, 61, 62, 63, 68, 69, 70, 71, 72, 73, 74, 75, 76, 77, 78, 79, 80, 81, 82, 83, 84] (by decide +kernel) (by decide +kernel)
set_option maxRecDepth 20000 in
theorem gX6_first__X6_works : GoodIn wsX6_first_ (wsV RX6 143 RX6 yX6_works wsX6_works) := goodIn_app (goodIn_of _ (by decide +kernel)) ggX6_first__X6_works
set_option maxRecDepth 20000 in
theorem ggX6_first__X6_gets : GoodIn wsX6_first_ wsX6_gets := goodIn_r _ [67, 23, 24, 68, 69, 70, 71, 72, 73, 74, 75, 76, 77, 78, 79, 80, 81, 82, 83, 84] (by decide +kernel) (by decide +kernel)
set_option maxRecDepth 20000 in
theorem gX6_first__X6_gets : GoodIn wsX6_first_ (wsV RX6 147 RX6 yX6_gets wsX6_gets) := goodIn_app (goodIn_of _ (by decide +kernel)) ggX6_first__X6_gets
theorem dX6_first__0 : decode cX6_first_ 0 = .ok (.iload_n 1, 1) := by decide +kernel
theorem dX6_first__1 : decode cX6_first_ 1 = .ok (.iconst 1, 1) := by decide +kernel
theorem dX6_first__2 : decode cX6_first_ 2 = .ok (.iconst 2, 1) := by decide +kernel
theorem dX6_first__3 : decode cX6_first_ 3 = .ok (.invokestatic 60, 3) := by decide +kernel
theorem dX6_first__6 : decode cX6_first_ 6 = .ok (.ifCond .eq 14, 3) := by decide +kernel
theorem dX6_first__9 : decode cX6_first_ 9 = .ok (.iload_n 2, 1) := by decide +kernel
theorem dX6_first__10 : decode cX6_first_ 10 = .ok (.ifCond .lt 10, 3) := by decide +kernel
theorem dX6_first__13 : decode cX6_first_ 13 = .ok (.aload_n 0, 1) := by decide +kernel
theorem dX6_first__14 : decode cX6_first_ 14 = .ok (.invokevirtual 139, 3) := by decide +kernel
theorem dX6_first__17 : decode cX6_first_ 17 = .ok (.ifCond .ne 5, 3) := by decide +kernel
theorem dX6_first__20 : decode cX6_first_ 20 = .ok (.iconst (-1), 1) := by decide +kernel
theorem dX6_first__21 : decode cX6_first_ 21 = .ok (.ireturn, 1) := by decide +kernel
theorem dX6_first__22 : decode cX6_first_ 22 = .ok (.aload_n 0, 1) := by decide +kernel
theorem dX6_first__23 : decode cX6_first_ 23 = .ok (.iload_n 1, 1) := by decide +kernel
theorem dX6_first__24 : decode cX6_first_ 24 = .ok (.iconst (-1), 1) := by decide +kernel
theorem dX6_first__25 : decode cX6_first_ 25 = .ok (.iconst (-1), 1) := by decide +kernel
theorem dX6_first__26 : decode cX6_first_ 26 = .ok (.invokevirtual 143, 3) := by decide +kernel
theorem dX6_first__29 : decode cX6_first_ 29 = .ok (.iconst 0, 1) := by decide +kernel
theorem dX6_first__30 : decode cX6_first_ 30 = .ok (.istore_n 3, 1) := by decide +kernel
theorem dX6_first__31 : decode cX6_first_ 31 = .ok (.iconst 0, 1) := by decide +kernel
theorem dX6_first__32 : decode cX6_first_ 32 = .ok (.istore 4, 2) := by decide +kernel
theorem dX6_first__34 : decode cX6_first_ 34 = .ok (.iload 4, 2) := by decide +kernel
theorem dX6_first__36 : decode cX6_first_ 36 = .ok (.aload_n 0, 1) := by decide +kernel
theorem dX6_first__37 : decode cX6_first_ 37 = .ok (.getfield 130, 3) := by decide +kernel
theorem dX6_first__40 : decode cX6_first_ 40 = .ok (.if_icmp .ge 47, 3) := by decide +kernel
theorem dX6_first__43 : decode cX6_first_ 43 = .ok (.aload_n 0, 1) := by decide +kernel
theorem dX6_first__44 : decode cX6_first_ 44 = .ok (.iload_n 1, 1) := by decide +kernel
theorem dX6_first__45 : decode cX6_first_ 45 = .ok (.aload_n 0, 1) := by decide +kernel
theorem dX6_first__46 : decode cX6_first_ 46 = .ok (.getfield 43, 3) := by decide +kernel
theorem dX6_first__49 : decode cX6_first_ 49 = .ok (.iload 4, 2) := by decide +kernel
theorem dX6_first__51 : decode cX6_first_ 51 = .ok (.iaload, 1) := by decide +kernel
theorem dX6_first__52 : decode cX6_first_ 52 = .ok (.imul, 1) := by decide +kernel
theorem dX6_first__53 : decode cX6_first_ 53 = .ok (.iconst 3, 1) := by decide +kernel
theorem dX6_first__54 : decode cX6_first_ 54 = .ok (.iload_n 1, 1) := by decide +kernel
theorem dX6_first__55 : decode cX6_first_ 55 = .ok (.isub, 1) := by decide +kernel
theorem dX6_first__56 : decode cX6_first_ 56 = .ok (.invokevirtual 147, 3) := by decide +kernel
theorem dX6_first__59 : decode cX6_first_ 59 = .ok (.ifCond .ne 6, 3) := by decide +kernel
theorem dX6_first__62 : decode cX6_first_ 62 = .ok (.goto 19, 3) := by decide +kernel
theorem dX6_first__65 : decode cX6_first_ 65 = .ok (.iload_n 3, 1) := by decide +kernel
theorem dX6_first__66 : decode cX6_first_ 66 = .ok (.iload_n 2, 1) := by decide +kernel
theorem dX6_first__67 : decode cX6_first_ 67 = .ok (.if_icmp .ne 11, 3) := by decide +kernel
theorem dX6_first__70 : decode cX6_first_ 70 = .ok (.aload_n 0, 1) := by decide +kernel
theorem dX6_first__71 : decode cX6_first_ 71 = .ok (.getfield 40, 3) := by decide +kernel
theorem dX6_first__74 : decode cX6_first_ 74 = .ok (.iload 4, 2) := by decide +kernel
theorem dX6_first__76 : decode cX6_first_ 76 = .ok (.iaload, 1) := by decide +kernel
theorem dX6_first__77 : decode cX6_first_ 77 = .ok (.ireturn, 1) := by decide +kernel
theorem dX6_first__78 : decode cX6_first_ 78 = .ok (.iinc 3 1, 3) := by decide +kernel
theorem dX6_first__81 : decode cX6_first_ 81 = .ok (.iinc 4 1, 3) := by decide +kernel
theorem dX6_first__84 : decode cX6_first_ 84 = .ok (.goto (-50), 3) := by decide +kernel
theorem dX6_first__87 : decode cX6_first_ 87 = .ok (.iconst (-1), 1) := by decide +kernel
theorem dX6_first__88 : decode cX6_first_ 88 = .ok (.ireturn, 1) := by decide +kernel
theorem dX6_codeOf_0 : decode cX6_codeOf 0 = .ok (.iconst 0, 1) := by decide +kernel
theorem dX6_codeOf_1 : decode cX6_codeOf 1 = .ok (.istore_n 2, 1) := by decide +kernel
theorem dX6_codeOf_2 : decode cX6_codeOf 2 = .ok (.iconst 0, 1) := by decide +kernel
theorem dX6_codeOf_3 : decode cX6_codeOf 3 = .ok (.istore_n 3, 1) := by decide +kernel
theorem dX6_codeOf_4 : decode cX6_codeOf 4 = .ok (.iload_n 3, 1) := by decide +kernel
theorem dX6_codeOf_5 : decode cX6_codeOf 5 = .ok (.aload_n 0, 1) := by decide +kernel
theorem dX6_codeOf_6 : decode cX6_codeOf 6 = .ok (.getfield 130, 3) := by decide +kernel
theorem dX6_codeOf_9 : decode cX6_codeOf 9 = .ok (.if_icmp .ge 26, 3) := by decide +kernel
theorem dX6_codeOf_12 : decode cX6_codeOf 12 = .ok (.iload_n 2, 1) := by decide +kernel
theorem dX6_codeOf_13 : decode cX6_codeOf 13 = .ok (.iconst 1, 1) := by decide +kernel
theorem dX6_codeOf_14 : decode cX6_codeOf 14 = .ok (.iload_n 1, 1) := by decide +kernel
theorem dX6_codeOf_15 : decode cX6_codeOf 15 = .ok (.iload_n 3, 1) := by decide +kernel
theorem dX6_codeOf_16 : decode cX6_codeOf 16 = .ok (.ishr, 1) := by decide +kernel
theorem dX6_codeOf_17 : decode cX6_codeOf 17 = .ok (.iconst 1, 1) := by decide +kernel
theorem dX6_codeOf_18 : decode cX6_codeOf 18 = .ok (.iand, 1) := by decide +kernel
theorem dX6_codeOf_19 : decode cX6_codeOf 19 = .ok (.iadd, 1) := by decide +kernel
theorem dX6_codeOf_20 : decode cX6_codeOf 20 = .ok (.aload_n 0, 1) := by decide +kernel
theorem dX6_codeOf_21 : decode cX6_codeOf 21 = .ok (.getfield 43, 3) := by decide +kernel
theorem dX6_codeOf_24 : decode cX6_codeOf 24 = .ok (.iload_n 3, 1) := by decide +kernel
theorem dX6_codeOf_25 : decode cX6_codeOf 25 = .ok (.iaload, 1) := by decide +kernel
theorem dX6_codeOf_26 : decode cX6_codeOf 26 = .ok (.imul, 1) := by decide +kernel
theorem dX6_codeOf_27 : decode cX6_codeOf 27 = .ok (.iadd, 1) := by decide +kernel
theorem dX6_codeOf_28 : decode cX6_codeOf 28 = .ok (.istore_n 2, 1) := by decide +kernel
theorem dX6_codeOf_29 : decode cX6_codeOf 29 = .ok (.iinc 3 1, 3) := by decide +kernel
theorem dX6_codeOf_32 : decode cX6_codeOf 32 = .ok (.goto (-28), 3) := by decide +kernel
theorem dX6_codeOf_35 : decode cX6_codeOf 35 = .ok (.iload_n 2, 1) := by decide +kernel
theorem dX6_codeOf_36 : decode cX6_codeOf 36 = .ok (.ireturn, 1) := by decide +kernel
set_option maxRecDepth 20000 in
theorem ggX6_fillings0_X6_codeOf : GoodIn wsX6_fillings0 wsX6_codeOf := goodIn_r _ [7, 1, 8, 47, 48, 49, 50, 51, 52, 53, 54, 55, 56, 57, 58, 59, 60, 61, 62, 63] (by decide +kernel) (by decide +kernel)
set_option maxRecDepth 20000 in
theorem gX6_fillings0_X6_codeOf : GoodIn wsX6_fillings0 (wsV RX6 151 RX6 yX6_codeOf wsX6_codeOf) := goodIn_app (goodIn_of _ (by decide +kernel)) ggX6_fillings0_X6_codeOf
set_option maxRecDepth 20000 in
theorem ggX6_fillings0_X6_fills : GoodIn wsX6_fillings0 wsX6_fills := goodIn_r _ [12, 1, 13, 14, 8, 47, 48, 49, 50, 51, 52, 53, 54, 55, 56, 57, 58, 59, 60, 61, 62, 63] (by decide +kernel) (by decide +kernel)
set_option maxRecDepth 20000 in
theorem gX6_fillings0_X6_fills : GoodIn wsX6_fillings0 (wsV RX6 133 RX6 yX6_fills wsX6_fills) := goodIn_app (goodIn_of _ (by decide +kernel)) ggX6_fillings0_X6_fills
set_option maxRecDepth 20000 in
theorem ggX6_fillings0_X6_joins : GoodIn wsX6_fillings0 wsX6_joins := goodIn_r _ [18, 19, 13, 20, 21, 22, 6, 23, 24, 25, 26, 27, 28, 29, 30, 31, 32, 33, 34, 35, 36, 37, 38, 39, 40, 41, 42, 43, 44, 45, 46, 47, 48, 49, 50, 51, 52, 53, 54, 55, 56, 57, 58, 59, 60, 61, 62, 63] (by decide +kernel) (by decide +kernel)
set_option maxRecDepth 20000 in
theorem gX6_fillings0_X6_joins : GoodIn wsX6_fillings0 (wsV RX6 95 RX6 yX6_joins wsX6_joins) := goodIn_app (goodIn_of _ (by decide +kernel)) ggX6_fillings0_X6_joins
theorem dX6_fillings0_0 : decode cX6_fillings0 0 = .ok (.iconst 0, 1) := by decide +kernel
theorem dX6_fillings0_1 : decode cX6_fillings0 1 = .ok (.istore_n 1, 1) := by decide +kernel
theorem dX6_fillings0_2 : decode cX6_fillings0 2 = .ok (.iload_n 1, 1) := by decide +kernel
theorem dX6_fillings0_3 : decode cX6_fillings0 3 = .ok (.iconst 1, 1) := by decide +kernel
theorem dX6_fillings0_4 : decode cX6_fillings0 4 = .ok (.aload_n 0, 1) := by decide +kernel
theorem dX6_fillings0_5 : decode cX6_fillings0 5 = .ok (.getfield 130, 3) := by decide +kernel
theorem dX6_fillings0_8 : decode cX6_fillings0 8 = .ok (.ishl, 1) := by decide +kernel
theorem dX6_fillings0_9 : decode cX6_fillings0 9 = .ok (.if_icmp .ge 29, 3) := by decide +kernel
theorem dX6_fillings0_12 : decode cX6_fillings0 12 = .ok (.aload_n 0, 1) := by decide +kernel
theorem dX6_fillings0_13 : decode cX6_fillings0 13 = .ok (.aload_n 0, 1) := by decide +kernel
theorem dX6_fillings0_14 : decode cX6_fillings0 14 = .ok (.iload_n 1, 1) := by decide +kernel
theorem dX6_fillings0_15 : decode cX6_fillings0 15 = .ok (.invokevirtual 151, 3) := by decide +kernel
theorem dX6_fillings0_18 : decode cX6_fillings0 18 = .ok (.invokevirtual 133, 3) := by decide +kernel
theorem dX6_fillings0_21 : decode cX6_fillings0 21 = .ok (.aload_n 0, 1) := by decide +kernel
theorem dX6_fillings0_22 : decode cX6_fillings0 22 = .ok (.getfield 53, 3) := by decide +kernel
theorem dX6_fillings0_25 : decode cX6_fillings0 25 = .ok (.iload_n 1, 1) := by decide +kernel
theorem dX6_fillings0_26 : decode cX6_fillings0 26 = .ok (.aload_n 0, 1) := by decide +kernel
theorem dX6_fillings0_27 : decode cX6_fillings0 27 = .ok (.iconst 1, 1) := by decide +kernel
theorem dX6_fillings0_28 : decode cX6_fillings0 28 = .ok (.invokevirtual 95, 3) := by decide +kernel
theorem dX6_fillings0_31 : decode cX6_fillings0 31 = .ok (.bastore, 1) := by decide +kernel
theorem dX6_fillings0_32 : decode cX6_fillings0 32 = .ok (.iinc 1 1, 3) := by decide +kernel
theorem dX6_fillings0_35 : decode cX6_fillings0 35 = .ok (.goto (-33), 3) := by decide +kernel
theorem dX6_fillings0_38 : decode cX6_fillings0 38 = .ok (.aload_n 0, 1) := by decide +kernel
theorem dX6_fillings0_39 : decode cX6_fillings0 39 = .ok (.iconst 0, 1) := by decide +kernel
theorem dX6_fillings0_40 : decode cX6_fillings0 40 = .ok (.invokevirtual 133, 3) := by decide +kernel
theorem dX6_fillings0_43 : decode cX6_fillings0 43 = .ok (.return_, 1) := by decide +kernel
set_option maxRecDepth 20000 in
theorem ggX6_fillings_X6_opens : GoodIn wsX6_fillings wsX6_opens := goodIn_r _ [7, 1, 8, 9, 10, 11, 12, 13, 6, 14, 15, 16, 55, 56, 57, 58, 59, 60, 61, 62, 63, 64, 65, 66, 67, 68, 69, 70, 71] (by decide +kernel) (by decide +kernel)
set_option maxRecDepth 20000 in
theorem gX6_fillings_X6_opens : GoodIn wsX6_fillings (wsV RX6 139 RX6 yX6_opens wsX6_opens) := goodIn_app (goodIn_of _ (by decide +kernel)) ggX6_fillings_X6_opens
set_option maxRecDepth 20000 in
theorem ggX6_fillings_X6_fillings0 : GoodIn wsX6_fillings wsX6_fillings0 := goodIn_r _ [20, 1, 2, 21, 22, 23, 6, 24, 10, 25, 26, 27, 28, 8, 9, 29, 30, 31, 32, 33, 11, 12, 13, 14, 15, 16, 34, 35, 36, 37, 38, 39, 40, 41, 42, 43, 44, 45, 46, 47, 48, 49, 50, 51, 52, 53, 54, 55, 56, 57, 58, 59, 60, 61, 62, 63, 64, 65, 66, 67, 68, 69, 70, 71] (by decide +kernel) (by decide +kernel)
set_option maxRecDepth 20000 in
theorem gX6_fillings_X6_fillings0 : GoodIn wsX6_fillings (wsV RX6 154 RX6 yX6_fillings0 wsX6_fillings0) := goodIn_app (goodIn_of _ (by decide +kernel)) ggX6_fillings_X6_fillings0
theorem dX6_fillings_0 : decode cX6_fillings 0 = .ok (.aload_n 0, 1) := by decide +kernel
theorem dX6_fillings_1 : decode cX6_fillings 1 = .ok (.invokevirtual 139, 3) := by decide +kernel
theorem dX6_fillings_4 : decode cX6_fillings 4 = .ok (.ifCond .ne 5, 3) := by decide +kernel
theorem dX6_fillings_7 : decode cX6_fillings 7 = .ok (.iconst (-1), 1) := by decide +kernel
theorem dX6_fillings_8 : decode cX6_fillings 8 = .ok (.ireturn, 1) := by decide +kernel
theorem dX6_fillings_9 : decode cX6_fillings 9 = .ok (.aload_n 0, 1) := by decide +kernel
theorem dX6_fillings_10 : decode cX6_fillings 10 = .ok (.invokevirtual 154, 3) := by decide +kernel
theorem dX6_fillings_13 : decode cX6_fillings 13 = .ok (.iconst 0, 1) := by decide +kernel
theorem dX6_fillings_14 : decode cX6_fillings 14 = .ok (.istore_n 1, 1) := by decide +kernel
theorem dX6_fillings_15 : decode cX6_fillings 15 = .ok (.iconst 0, 1) := by decide +kernel
theorem dX6_fillings_16 : decode cX6_fillings 16 = .ok (.istore_n 2, 1) := by decide +kernel
theorem dX6_fillings_17 : decode cX6_fillings 17 = .ok (.iload_n 2, 1) := by decide +kernel
theorem dX6_fillings_18 : decode cX6_fillings 18 = .ok (.iconst 1, 1) := by decide +kernel
theorem dX6_fillings_19 : decode cX6_fillings 19 = .ok (.aload_n 0, 1) := by decide +kernel
theorem dX6_fillings_20 : decode cX6_fillings 20 = .ok (.getfield 130, 3) := by decide +kernel
theorem dX6_fillings_23 : decode cX6_fillings 23 = .ok (.ishl, 1) := by decide +kernel
theorem dX6_fillings_24 : decode cX6_fillings 24 = .ok (.if_icmp .ge 26, 3) := by decide +kernel
theorem dX6_fillings_27 : decode cX6_fillings 27 = .ok (.iload_n 1, 1) := by decide +kernel
theorem dX6_fillings_28 : decode cX6_fillings 28 = .ok (.aload_n 0, 1) := by decide +kernel
theorem dX6_fillings_29 : decode cX6_fillings 29 = .ok (.getfield 53, 3) := by decide +kernel
theorem dX6_fillings_32 : decode cX6_fillings 32 = .ok (.iload_n 2, 1) := by decide +kernel
theorem dX6_fillings_33 : decode cX6_fillings 33 = .ok (.baload, 1) := by decide +kernel
theorem dX6_fillings_34 : decode cX6_fillings 34 = .ok (.ifCond .eq 7, 3) := by decide +kernel
theorem dX6_fillings_37 : decode cX6_fillings 37 = .ok (.iconst 1, 1) := by decide +kernel
theorem dX6_fillings_38 : decode cX6_fillings 38 = .ok (.goto 4, 3) := by decide +kernel
theorem dX6_fillings_41 : decode cX6_fillings 41 = .ok (.iconst 0, 1) := by decide +kernel
theorem dX6_fillings_42 : decode cX6_fillings 42 = .ok (.iadd, 1) := by decide +kernel
theorem dX6_fillings_43 : decode cX6_fillings 43 = .ok (.istore_n 1, 1) := by decide +kernel
theorem dX6_fillings_44 : decode cX6_fillings 44 = .ok (.iinc 2 1, 3) := by decide +kernel
theorem dX6_fillings_47 : decode cX6_fillings 47 = .ok (.goto (-30), 3) := by decide +kernel
theorem dX6_fillings_50 : decode cX6_fillings 50 = .ok (.iload_n 1, 1) := by decide +kernel
theorem dX6_fillings_51 : decode cX6_fillings 51 = .ok (.ireturn, 1) := by decide +kernel
theorem dX6_isDead_0 : decode cX6_isDead 0 = .ok (.iconst 0, 1) := by decide +kernel
theorem dX6_isDead_1 : decode cX6_isDead 1 = .ok (.istore_n 2, 1) := by decide +kernel
theorem dX6_isDead_2 : decode cX6_isDead 2 = .ok (.iload_n 2, 1) := by decide +kernel
theorem dX6_isDead_3 : decode cX6_isDead 3 = .ok (.iconst 1, 1) := by decide +kernel
theorem dX6_isDead_4 : decode cX6_isDead 4 = .ok (.aload_n 0, 1) := by decide +kernel
theorem dX6_isDead_5 : decode cX6_isDead 5 = .ok (.getfield 130, 3) := by decide +kernel
theorem dX6_isDead_8 : decode cX6_isDead 8 = .ok (.ishl, 1) := by decide +kernel
theorem dX6_isDead_9 : decode cX6_isDead 9 = .ok (.if_icmp .ge 30, 3) := by decide +kernel
theorem dX6_isDead_12 : decode cX6_isDead 12 = .ok (.aload_n 0, 1) := by decide +kernel
theorem dX6_isDead_13 : decode cX6_isDead 13 = .ok (.getfield 53, 3) := by decide +kernel
theorem dX6_isDead_16 : decode cX6_isDead 16 = .ok (.iload_n 2, 1) := by decide +kernel
theorem dX6_isDead_17 : decode cX6_isDead 17 = .ok (.baload, 1) := by decide +kernel
theorem dX6_isDead_18 : decode cX6_isDead 18 = .ok (.aload_n 0, 1) := by decide +kernel
theorem dX6_isDead_19 : decode cX6_isDead 19 = .ok (.getfield 53, 3) := by decide +kernel
theorem dX6_isDead_22 : decode cX6_isDead 22 = .ok (.iload_n 2, 1) := by decide +kernel
theorem dX6_isDead_23 : decode cX6_isDead 23 = .ok (.iconst 1, 1) := by decide +kernel
theorem dX6_isDead_24 : decode cX6_isDead 24 = .ok (.iload_n 1, 1) := by decide +kernel
theorem dX6_isDead_25 : decode cX6_isDead 25 = .ok (.ishl, 1) := by decide +kernel
theorem dX6_isDead_26 : decode cX6_isDead 26 = .ok (.ixor, 1) := by decide +kernel
theorem dX6_isDead_27 : decode cX6_isDead 27 = .ok (.baload, 1) := by decide +kernel
theorem dX6_isDead_28 : decode cX6_isDead 28 = .ok (.if_icmp .eq 5, 3) := by decide +kernel
theorem dX6_isDead_31 : decode cX6_isDead 31 = .ok (.iconst 0, 1) := by decide +kernel
theorem dX6_isDead_32 : decode cX6_isDead 32 = .ok (.ireturn, 1) := by decide +kernel
theorem dX6_isDead_33 : decode cX6_isDead 33 = .ok (.iinc 2 1, 3) := by decide +kernel
theorem dX6_isDead_36 : decode cX6_isDead 36 = .ok (.goto (-34), 3) := by decide +kernel
theorem dX6_isDead_39 : decode cX6_isDead 39 = .ok (.iconst 1, 1) := by decide +kernel
theorem dX6_isDead_40 : decode cX6_isDead 40 = .ok (.ireturn, 1) := by decide +kernel
set_option maxRecDepth 20000 in
theorem ggX6_dead_X6_isField : GoodIn wsX6_dead wsX6_isField := goodIn_r _ [7, 8, 9, 10, 6, 11, 12, 13, 14, 15, 16, 63, 64, 65, 66, 67, 68, 69, 70, 71, 72, 73, 74, 75, 76, 77, 78, 79] (by decide +kernel) (by decide +kernel)
set_option maxRecDepth 20000 in
theorem gX6_dead_X6_isField : GoodIn wsX6_dead (wsV RX6 73 RX6 yX6_isField wsX6_isField) := goodIn_app (goodIn_of _ (by decide +kernel)) ggX6_dead_X6_isField
set_option maxRecDepth 20000 in
theorem ggX6_dead_X6_opens : GoodIn wsX6_dead wsX6_opens := goodIn_r _ [20, 21, 1, 2, 22, 8, 9, 10, 6, 11, 12, 13, 63, 64, 65, 66, 67, 68, 69, 70, 71, 72, 73, 74, 75, 76, 77, 78, 79] (by decide +kernel) (by decide +kernel)
set_option maxRecDepth 20000 in
theorem gX6_dead_X6_opens : GoodIn wsX6_dead (wsV RX6 139 RX6 yX6_opens wsX6_opens) := goodIn_app (goodIn_of _ (by decide +kernel)) ggX6_dead_X6_opens
set_option maxRecDepth 20000 in
theorem ggX6_dead_X6_fillings0 : GoodIn wsX6_dead wsX6_fillings0 := goodIn_r _ [26, 21, 27, 28, 29, 30, 6, 31, 22, 32, 33, 34, 35, 1, 2, 36, 37, 38, 39, 40, 8, 9, 10, 11, 12, 13, 41, 42, 43, 44, 45, 46, 47, 48, 49, 50, 51, 52, 53, 54, 55, 14, 15, 16, 56, 57, 58, 63, 64, 65, 66, 67, 68, 69, 70, 71, 72, 73, 74, 75, 76, 77, 78, 79] (by decide +kernel) (by decide +kernel)
set_option maxRecDepth 20000 in
theorem gX6_dead_X6_fillings0 : GoodIn wsX6_dead (wsV RX6 154 RX6 yX6_fillings0 wsX6_fillings0) := goodIn_app (goodIn_of _ (by decide +kernel)) ggX6_dead_X6_fillings0
set_option maxRecDepth 20000 in
theorem ggX6_dead_X6_isDead : GoodIn wsX6_dead wsX6_isDead := goodIn_r _ [62, 21, 27, 63, 64, 65, 66, 67, 68, 69, 70, 71, 72, 73, 74, 75, 76, 77, 78, 79] (by decide +kernel) (by decide +kernel)
set_option maxRecDepth 20000 in
theorem gX6_dead_X6_isDead : GoodIn wsX6_dead (wsV RX6 157 RX6 yX6_isDead wsX6_isDead) := goodIn_app (goodIn_of _ (by decide +kernel)) ggX6_dead_X6_isDead
theorem dX6_dead_0 : decode cX6_dead 0 = .ok (.aload_n 0, 1) := by decide +kernel
theorem dX6_dead_1 : decode cX6_dead 1 = .ok (.iload_n 1, 1) := by decide +kernel
theorem dX6_dead_2 : decode cX6_dead 2 = .ok (.invokevirtual 73, 3) := by decide +kernel
theorem dX6_dead_5 : decode cX6_dead 5 = .ok (.ifCond .eq 19, 3) := by decide +kernel
theorem dX6_dead_8 : decode cX6_dead 8 = .ok (.aload_n 0, 1) := by decide +kernel
theorem dX6_dead_9 : decode cX6_dead 9 = .ok (.getfield 19, 3) := by decide +kernel
theorem dX6_dead_12 : decode cX6_dead 12 = .ok (.iload_n 1, 1) := by decide +kernel
theorem dX6_dead_13 : decode cX6_dead 13 = .ok (.iaload, 1) := by decide +kernel
theorem dX6_dead_14 : decode cX6_dead 14 = .ok (.ifCond .ne 10, 3) := by decide +kernel
theorem dX6_dead_17 : decode cX6_dead 17 = .ok (.aload_n 0, 1) := by decide +kernel
theorem dX6_dead_18 : decode cX6_dead 18 = .ok (.invokevirtual 139, 3) := by decide +kernel
theorem dX6_dead_21 : decode cX6_dead 21 = .ok (.ifCond .ne 5, 3) := by decide +kernel
theorem dX6_dead_24 : decode cX6_dead 24 = .ok (.iconst (-1), 1) := by decide +kernel
theorem dX6_dead_25 : decode cX6_dead 25 = .ok (.ireturn, 1) := by decide +kernel
theorem dX6_dead_26 : decode cX6_dead 26 = .ok (.aload_n 0, 1) := by decide +kernel
theorem dX6_dead_27 : decode cX6_dead 27 = .ok (.invokevirtual 154, 3) := by decide +kernel
theorem dX6_dead_30 : decode cX6_dead 30 = .ok (.iconst 0, 1) := by decide +kernel
theorem dX6_dead_31 : decode cX6_dead 31 = .ok (.istore_n 2, 1) := by decide +kernel
theorem dX6_dead_32 : decode cX6_dead 32 = .ok (.aload_n 0, 1) := by decide +kernel
theorem dX6_dead_33 : decode cX6_dead 33 = .ok (.getfield 40, 3) := by decide +kernel
