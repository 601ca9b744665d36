theorem dX6_joins_3 : decode cX6_joins 3 = .ok (.aload_n 0, 1) := by decide +kernel
theorem dX6_joins_4 : decode cX6_joins 4 = .ok (.invokevirtual 56, 3) := by decide +kernel
theorem dX6_joins_7 : decode cX6_joins 7 = .ok (.if_icmp .ge 43, 3) := by decide +kernel
theorem dX6_joins_10 : decode cX6_joins 10 = .ok (.aload_n 0, 1) := by decide +kernel
theorem dX6_joins_11 : decode cX6_joins 11 = .ok (.getfield 30, 3) := by decide +kernel
theorem dX6_joins_14 : decode cX6_joins 14 = .ok (.iload_n 2, 1) := by decide +kernel
theorem dX6_joins_15 : decode cX6_joins 15 = .ok (.aload_n 0, 1) := by decide +kernel
theorem dX6_joins_16 : decode cX6_joins 16 = .ok (.getfield 19, 3) := by decide +kernel
theorem dX6_joins_19 : decode cX6_joins 19 = .ok (.iload_n 2, 1) := by decide +kernel
theorem dX6_joins_20 : decode cX6_joins 20 = .ok (.iaload, 1) := by decide +kernel
theorem dX6_joins_21 : decode cX6_joins 21 = .ok (.iload_n 1, 1) := by decide +kernel
theorem dX6_joins_22 : decode cX6_joins 22 = .ok (.if_icmp .ne 20, 3) := by decide +kernel
theorem dX6_joins_25 : decode cX6_joins 25 = .ok (.aload_n 0, 1) := by decide +kernel
theorem dX6_joins_26 : decode cX6_joins 26 = .ok (.iload_n 2, 1) := by decide +kernel
theorem dX6_joins_27 : decode cX6_joins 27 = .ok (.invokevirtual 81, 3) := by decide +kernel
theorem dX6_joins_30 : decode cX6_joins 30 = .ok (.iload_n 1, 1) := by decide +kernel
theorem dX6_joins_31 : decode cX6_joins 31 = .ok (.invokestatic 85, 3) := by decide +kernel
theorem dX6_joins_34 : decode cX6_joins 34 = .ok (.iand, 1) := by decide +kernel
theorem dX6_joins_35 : decode cX6_joins 35 = .ok (.ifCond .eq 7, 3) := by decide +kernel
theorem dX6_joins_38 : decode cX6_joins 38 = .ok (.iconst 1, 1) := by decide +kernel
theorem dX6_joins_39 : decode cX6_joins 39 = .ok (.goto 4, 3) := by decide +kernel
theorem dX6_joins_42 : decode cX6_joins 42 = .ok (.iconst 0, 1) := by decide +kernel
theorem dX6_joins_43 : decode cX6_joins 43 = .ok (.bastore, 1) := by decide +kernel
theorem dX6_joins_44 : decode cX6_joins 44 = .ok (.iinc 2 1, 3) := by decide +kernel
theorem dX6_joins_47 : decode cX6_joins 47 = .ok (.goto (-45), 3) := by decide +kernel
theorem dX6_joins_50 : decode cX6_joins 50 = .ok (.aload_n 0, 1) := by decide +kernel
theorem dX6_joins_51 : decode cX6_joins 51 = .ok (.iload_n 1, 1) := by decide +kernel
theorem dX6_joins_52 : decode cX6_joins 52 = .ok (.invokevirtual 88, 3) := by decide +kernel
theorem dX6_joins_55 : decode cX6_joins 55 = .ok (.iconst 0, 1) := by decide +kernel
theorem dX6_joins_56 : decode cX6_joins 56 = .ok (.istore_n 2, 1) := by decide +kernel
theorem dX6_joins_57 : decode cX6_joins 57 = .ok (.iload_n 2, 1) := by decide +kernel
theorem dX6_joins_58 : decode cX6_joins 58 = .ok (.aload_n 0, 1) := by decide +kernel
theorem dX6_joins_59 : decode cX6_joins 59 = .ok (.invokevirtual 56, 3) := by decide +kernel
theorem dX6_joins_62 : decode cX6_joins 62 = .ok (.if_icmp .ge 33, 3) := by decide +kernel
theorem dX6_joins_65 : decode cX6_joins 65 = .ok (.aload_n 0, 1) := by decide +kernel
theorem dX6_joins_66 : decode cX6_joins 66 = .ok (.getfield 30, 3) := by decide +kernel
theorem dX6_joins_69 : decode cX6_joins 69 = .ok (.iload_n 2, 1) := by decide +kernel
theorem dX6_joins_70 : decode cX6_joins 70 = .ok (.baload, 1) := by decide +kernel
theorem dX6_joins_71 : decode cX6_joins 71 = .ok (.ifCond .eq 18, 3) := by decide +kernel
theorem dX6_joins_74 : decode cX6_joins 74 = .ok (.aload_n 0, 1) := by decide +kernel
theorem dX6_joins_75 : decode cX6_joins 75 = .ok (.iload_n 2, 1) := by decide +kernel
theorem dX6_joins_76 : decode cX6_joins 76 = .ok (.invokevirtual 81, 3) := by decide +kernel
theorem dX6_joins_79 : decode cX6_joins 79 = .ok (.iload_n 1, 1) := by decide +kernel
theorem dX6_joins_80 : decode cX6_joins 80 = .ok (.invokestatic 92, 3) := by decide +kernel
theorem dX6_joins_83 : decode cX6_joins 83 = .ok (.iand, 1) := by decide +kernel
theorem dX6_joins_84 : decode cX6_joins 84 = .ok (.ifCond .eq 5, 3) := by decide +kernel
theorem dX6_joins_87 : decode cX6_joins 87 = .ok (.iconst 1, 1) := by decide +kernel
theorem dX6_joins_88 : decode cX6_joins 88 = .ok (.ireturn, 1) := by decide +kernel
theorem dX6_joins_89 : decode cX6_joins 89 = .ok (.iinc 2 1, 3) := by decide +kernel
theorem dX6_joins_92 : decode cX6_joins 92 = .ok (.goto (-35), 3) := by decide +kernel
theorem dX6_joins_95 : decode cX6_joins 95 = .ok (.iconst 0, 1) := by decide +kernel
theorem dX6_joins_96 : decode cX6_joins 96 = .ok (.ireturn, 1) := by decide +kernel
set_option maxRecDepth 20000 in
theorem ggX6_joined_X6_joins : GoodIn wsX6_joined wsX6_joins := goodIn_r _ [5, 6, 7, 8, 9, 10, 4, 11, 12, 13, 14, 15, 16, 17, 18, 19, 20, 21, 22, 23, 24, 25, 26, 27, 28, 29, 30, 31, 32, 33, 34, 35, 36, 37, 38, 39, 40, 41, 42, 43, 44, 45, 46, 47, 48, 49, 50, 51] (by decide +kernel) (by decide +kernel)
set_option maxRecDepth 20000 in
theorem gX6_joined_X6_joins : GoodIn wsX6_joined (wsV RX6 95 RX6 yX6_joins wsX6_joins) := goodIn_app (goodIn_of _ (by decide +kernel)) ggX6_joined_X6_joins
theorem dX6_joined_0 : decode cX6_joined 0 = .ok (.aload_n 0, 1) := by decide +kernel
theorem dX6_joined_1 : decode cX6_joined 1 = .ok (.iconst 1, 1) := by decide +kernel
theorem dX6_joined_2 : decode cX6_joined 2 = .ok (.invokevirtual 95, 3) := by decide +kernel
theorem dX6_joined_5 : decode cX6_joined 5 = .ok (.ifCond .eq 7, 3) := by decide +kernel
theorem dX6_joined_8 : decode cX6_joined 8 = .ok (.iconst 1, 1) := by decide +kernel
theorem dX6_joined_9 : decode cX6_joined 9 = .ok (.goto 16, 3) := by decide +kernel
theorem dX6_joined_12 : decode cX6_joined 12 = .ok (.aload_n 0, 1) := by decide +kernel
theorem dX6_joined_13 : decode cX6_joined 13 = .ok (.iconst 2, 1) := by decide +kernel
theorem dX6_joined_14 : decode cX6_joined 14 = .ok (.invokevirtual 95, 3) := by decide +kernel
theorem dX6_joined_17 : decode cX6_joined 17 = .ok (.ifCond .eq 7, 3) := by decide +kernel
theorem dX6_joined_20 : decode cX6_joined 20 = .ok (.iconst 2, 1) := by decide +kernel
theorem dX6_joined_21 : decode cX6_joined 21 = .ok (.goto 4, 3) := by decide +kernel
theorem dX6_joined_24 : decode cX6_joined 24 = .ok (.iconst 0, 1) := by decide +kernel
theorem dX6_joined_25 : decode cX6_joined 25 = .ok (.ireturn, 1) := by decide +kernel
theorem dX6_does_0 : decode cX6_does 0 = .ok (.iload_n 1, 1) := by decide +kernel
theorem dX6_does_1 : decode cX6_does 1 = .ok (.bipush 100, 2) := by decide +kernel
theorem dX6_does_3 : decode cX6_does 3 = .ok (.irem, 1) := by decide +kernel
theorem dX6_does_4 : decode cX6_does 4 = .ok (.istore_n 2, 1) := by decide +kernel
theorem dX6_does_5 : decode cX6_does 5 = .ok (.iload_n 1, 1) := by decide +kernel
theorem dX6_does_6 : decode cX6_does 6 = .ok (.bipush 100, 2) := by decide +kernel
theorem dX6_does_8 : decode cX6_does 8 = .ok (.if_icmp .ge 24, 3) := by decide +kernel
theorem dX6_does_11 : decode cX6_does 11 = .ok (.aload_n 0, 1) := by decide +kernel
theorem dX6_does_12 : decode cX6_does 12 = .ok (.getfield 19, 3) := by decide +kernel
theorem dX6_does_15 : decode cX6_does 15 = .ok (.iload_n 2, 1) := by decide +kernel
theorem dX6_does_16 : decode cX6_does 16 = .ok (.aload_n 0, 1) := by decide +kernel
theorem dX6_does_17 : decode cX6_does 17 = .ok (.getfield 16, 3) := by decide +kernel
theorem dX6_does_20 : decode cX6_does 20 = .ok (.iastore, 1) := by decide +kernel
theorem dX6_does_21 : decode cX6_does 21 = .ok (.aload_n 0, 1) := by decide +kernel
theorem dX6_does_22 : decode cX6_does 22 = .ok (.iconst 3, 1) := by decide +kernel
theorem dX6_does_23 : decode cX6_does 23 = .ok (.aload_n 0, 1) := by decide +kernel
theorem dX6_does_24 : decode cX6_does 24 = .ok (.getfield 16, 3) := by decide +kernel
theorem dX6_does_27 : decode cX6_does 27 = .ok (.isub, 1) := by decide +kernel
theorem dX6_does_28 : decode cX6_does 28 = .ok (.putfield 16, 3) := by decide +kernel
theorem dX6_does_31 : decode cX6_does 31 = .ok (.return_, 1) := by decide +kernel
theorem dX6_does_32 : decode cX6_does 32 = .ok (.aload_n 0, 1) := by decide +kernel
theorem dX6_does_33 : decode cX6_does 33 = .ok (.getfield 19, 3) := by decide +kernel
theorem dX6_does_36 : decode cX6_does 36 = .ok (.iload_n 2, 1) := by decide +kernel
theorem dX6_does_37 : decode cX6_does 37 = .ok (.iconst 0, 1) := by decide +kernel
theorem dX6_does_38 : decode cX6_does 38 = .ok (.iastore, 1) := by decide +kernel
theorem dX6_does_39 : decode cX6_does 39 = .ok (.aload_n 0, 1) := by decide +kernel
theorem dX6_does_40 : decode cX6_does 40 = .ok (.getfield 19, 3) := by decide +kernel
theorem dX6_does_43 : decode cX6_does 43 = .ok (.aload_n 0, 1) := by decide +kernel
theorem dX6_does_44 : decode cX6_does 44 = .ok (.getfield 13, 3) := by decide +kernel
theorem dX6_does_47 : decode cX6_does 47 = .ok (.iload_n 2, 1) := by decide +kernel
theorem dX6_does_48 : decode cX6_does 48 = .ok (.aload_n 0, 1) := by decide +kernel
theorem dX6_does_49 : decode cX6_does 49 = .ok (.getfield 13, 3) := by decide +kernel
theorem dX6_does_52 : decode cX6_does 52 = .ok (.irem, 1) := by decide +kernel
theorem dX6_does_53 : decode cX6_does 53 = .ok (.imul, 1) := by decide +kernel
theorem dX6_does_54 : decode cX6_does 54 = .ok (.iload_n 2, 1) := by decide +kernel
theorem dX6_does_55 : decode cX6_does 55 = .ok (.aload_n 0, 1) := by decide +kernel
theorem dX6_does_56 : decode cX6_does 56 = .ok (.getfield 13, 3) := by decide +kernel
theorem dX6_does_59 : decode cX6_does 59 = .ok (.idiv, 1) := by decide +kernel
theorem dX6_does_60 : decode cX6_does 60 = .ok (.iadd, 1) := by decide +kernel
theorem dX6_does_61 : decode cX6_does 61 = .ok (.iconst 2, 1) := by decide +kernel
theorem dX6_does_62 : decode cX6_does 62 = .ok (.iastore, 1) := by decide +kernel
theorem dX6_does_63 : decode cX6_does 63 = .ok (.aload_n 0, 1) := by decide +kernel
theorem dX6_does_64 : decode cX6_does 64 = .ok (.iconst 1, 1) := by decide +kernel
theorem dX6_does_65 : decode cX6_does 65 = .ok (.putfield 16, 3) := by decide +kernel
theorem dX6_does_68 : decode cX6_does 68 = .ok (.return_, 1) := by decide +kernel
theorem dX6_undoes_0 : decode cX6_undoes 0 = .ok (.iload_n 1, 1) := by decide +kernel
theorem dX6_undoes_1 : decode cX6_undoes 1 = .ok (.bipush 100, 2) := by decide +kernel
theorem dX6_undoes_3 : decode cX6_undoes 3 = .ok (.irem, 1) := by decide +kernel
theorem dX6_undoes_4 : decode cX6_undoes 4 = .ok (.istore_n 2, 1) := by decide +kernel
theorem dX6_undoes_5 : decode cX6_undoes 5 = .ok (.iload_n 1, 1) := by decide +kernel
theorem dX6_undoes_6 : decode cX6_undoes 6 = .ok (.bipush 100, 2) := by decide +kernel
theorem dX6_undoes_8 : decode cX6_undoes 8 = .ok (.if_icmp .ge 21, 3) := by decide +kernel
theorem dX6_undoes_11 : decode cX6_undoes 11 = .ok (.aload_n 0, 1) := by decide +kernel
theorem dX6_undoes_12 : decode cX6_undoes 12 = .ok (.getfield 19, 3) := by decide +kernel
theorem dX6_undoes_15 : decode cX6_undoes 15 = .ok (.iload_n 2, 1) := by decide +kernel
theorem dX6_undoes_16 : decode cX6_undoes 16 = .ok (.iconst 0, 1) := by decide +kernel
theorem dX6_undoes_17 : decode cX6_undoes 17 = .ok (.iastore, 1) := by decide +kernel
theorem dX6_undoes_18 : decode cX6_undoes 18 = .ok (.aload_n 0, 1) := by decide +kernel
theorem dX6_undoes_19 : decode cX6_undoes 19 = .ok (.iconst 3, 1) := by decide +kernel
theorem dX6_undoes_20 : decode cX6_undoes 20 = .ok (.aload_n 0, 1) := by decide +kernel
theorem dX6_undoes_21 : decode cX6_undoes 21 = .ok (.getfield 16, 3) := by decide +kernel
theorem dX6_undoes_24 : decode cX6_undoes 24 = .ok (.isub, 1) := by decide +kernel
theorem dX6_undoes_25 : decode cX6_undoes 25 = .ok (.putfield 16, 3) := by decide +kernel
theorem dX6_undoes_28 : decode cX6_undoes 28 = .ok (.return_, 1) := by decide +kernel
theorem dX6_undoes_29 : decode cX6_undoes 29 = .ok (.aload_n 0, 1) := by decide +kernel
theorem dX6_undoes_30 : decode cX6_undoes 30 = .ok (.getfield 19, 3) := by decide +kernel
theorem dX6_undoes_33 : decode cX6_undoes 33 = .ok (.aload_n 0, 1) := by decide +kernel
theorem dX6_undoes_34 : decode cX6_undoes 34 = .ok (.getfield 13, 3) := by decide +kernel
theorem dX6_undoes_37 : decode cX6_undoes 37 = .ok (.iload_n 2, 1) := by decide +kernel
theorem dX6_undoes_38 : decode cX6_undoes 38 = .ok (.aload_n 0, 1) := by decide +kernel
theorem dX6_undoes_39 : decode cX6_undoes 39 = .ok (.getfield 13, 3) := by decide +kernel
theorem dX6_undoes_42 : decode cX6_undoes 42 = .ok (.irem, 1) := by decide +kernel
theorem dX6_undoes_43 : decode cX6_undoes 43 = .ok (.imul, 1) := by decide +kernel
theorem dX6_undoes_44 : decode cX6_undoes 44 = .ok (.iload_n 2, 1) := by decide +kernel
theorem dX6_undoes_45 : decode cX6_undoes 45 = .ok (.aload_n 0, 1) := by decide +kernel
theorem dX6_undoes_46 : decode cX6_undoes 46 = .ok (.getfield 13, 3) := by decide +kernel
theorem dX6_undoes_49 : decode cX6_undoes 49 = .ok (.idiv, 1) := by decide +kernel
theorem dX6_undoes_50 : decode cX6_undoes 50 = .ok (.iadd, 1) := by decide +kernel
theorem dX6_undoes_51 : decode cX6_undoes 51 = .ok (.iconst 0, 1) := by decide +kernel
theorem dX6_undoes_52 : decode cX6_undoes 52 = .ok (.iastore, 1) := by decide +kernel
theorem dX6_undoes_53 : decode cX6_undoes 53 = .ok (.aload_n 0, 1) := by decide +kernel
theorem dX6_undoes_54 : decode cX6_undoes 54 = .ok (.getfield 19, 3) := by decide +kernel
theorem dX6_undoes_57 : decode cX6_undoes 57 = .ok (.iload_n 2, 1) := by decide +kernel
theorem dX6_undoes_58 : decode cX6_undoes 58 = .ok (.iconst 1, 1) := by decide +kernel
theorem dX6_undoes_59 : decode cX6_undoes 59 = .ok (.iastore, 1) := by decide +kernel
theorem dX6_undoes_60 : decode cX6_undoes 60 = .ok (.aload_n 0, 1) := by decide +kernel
theorem dX6_undoes_61 : decode cX6_undoes 61 = .ok (.iconst 2, 1) := by decide +kernel
theorem dX6_undoes_62 : decode cX6_undoes 62 = .ok (.putfield 16, 3) := by decide +kernel
theorem dX6_undoes_65 : decode cX6_undoes 65 = .ok (.return_, 1) := by decide +kernel
set_option maxRecDepth 20000 in
theorem ggX6_acts_X6_does : GoodIn wsX6_acts wsX6_does := goodIn_r _ [8, 9, 10, 11, 12, 13, 14, 15, 16, 17, 18, 19, 20, 21, 22, 23, 24, 25, 26, 27, 28] (by decide +kernel) (by decide +kernel)
set_option maxRecDepth 20000 in
theorem gX6_acts_X6_does : GoodIn wsX6_acts (wsV RX6 98 RX6 yX6_does wsX6_does) := goodIn_app (goodIn_of _ (by decide +kernel)) ggX6_acts_X6_does
theorem dX6_acts_0 : decode cX6_acts 0 = .ok (.aload_n 0, 1) := by decide +kernel
theorem dX6_acts_1 : decode cX6_acts 1 = .ok (.getfield 23, 3) := by decide +kernel
theorem dX6_acts_4 : decode cX6_acts 4 = .ok (.aload_n 0, 1) := by decide +kernel
theorem dX6_acts_5 : decode cX6_acts 5 = .ok (.getfield 64, 3) := by decide +kernel
theorem dX6_acts_8 : decode cX6_acts 8 = .ok (.iload_n 1, 1) := by decide +kernel
theorem dX6_acts_9 : decode cX6_acts 9 = .ok (.iastore, 1) := by decide +kernel
theorem dX6_acts_10 : decode cX6_acts 10 = .ok (.aload_n 0, 1) := by decide +kernel
theorem dX6_acts_11 : decode cX6_acts 11 = .ok (.dup, 1) := by decide +kernel
theorem dX6_acts_12 : decode cX6_acts 12 = .ok (.getfield 64, 3) := by decide +kernel
theorem dX6_acts_15 : decode cX6_acts 15 = .ok (.iconst 1, 1) := by decide +kernel
theorem dX6_acts_16 : decode cX6_acts 16 = .ok (.iadd, 1) := by decide +kernel
theorem dX6_acts_17 : decode cX6_acts 17 = .ok (.putfield 64, 3) := by decide +kernel
theorem dX6_acts_20 : decode cX6_acts 20 = .ok (.aload_n 0, 1) := by decide +kernel
theorem dX6_acts_21 : decode cX6_acts 21 = .ok (.iconst 0, 1) := by decide +kernel
theorem dX6_acts_22 : decode cX6_acts 22 = .ok (.putfield 67, 3) := by decide +kernel
theorem dX6_acts_25 : decode cX6_acts 25 = .ok (.aload_n 0, 1) := by decide +kernel
theorem dX6_acts_26 : decode cX6_acts 26 = .ok (.iload_n 1, 1) := by decide +kernel
theorem dX6_acts_27 : decode cX6_acts 27 = .ok (.invokevirtual 98, 3) := by decide +kernel
theorem dX6_acts_30 : decode cX6_acts 30 = .ok (.return_, 1) := by decide +kernel
set_option maxRecDepth 20000 in
theorem ggX6_lay_X6_isField : GoodIn wsX6_lay wsX6_isField := goodIn_r _ [6, 7, 8, 9, 5, 10, 11, 12, 13, 14, 15, 55, 56, 57, 58, 59, 60, 61, 62, 63, 64, 65, 66, 67, 68, 69, 70, 71] (by decide +kernel) (by decide +kernel)
set_option maxRecDepth 20000 in
theorem gX6_lay_X6_isField : GoodIn wsX6_lay (wsV RX6 73 RX6 yX6_isField wsX6_isField) := goodIn_app (goodIn_of _ (by decide +kernel)) ggX6_lay_X6_isField
set_option maxRecDepth 20000 in
theorem ggX6_lay_X6_joined : GoodIn wsX6_lay wsX6_joined := goodIn_r _ [19, 20, 21, 22, 5, 23, 24, 1, 7, 8, 9, 10, 11, 12, 25, 26, 27, 28, 29, 30, 31, 32, 33, 34, 35, 36, 37, 38, 39, 13, 14, 15, 40, 41, 42, 55, 56, 57, 58, 59, 60, 61, 62, 63, 64, 65, 66, 67, 68, 69, 70, 71] (by decide +kernel) (by decide +kernel)
set_option maxRecDepth 20000 in
theorem gX6_lay_X6_joined : GoodIn wsX6_lay (wsV RX6 101 RX6 yX6_joined wsX6_joined) := goodIn_app (goodIn_of _ (by decide +kernel)) ggX6_lay_X6_joined
set_option maxRecDepth 20000 in
theorem ggX6_lay_X6_acts : GoodIn wsX6_lay wsX6_acts := goodIn_r _ [46, 47, 48, 49, 50, 51, 52, 5, 53, 1, 54, 12, 55, 56, 57, 58, 59, 60, 61, 62, 63, 64, 65, 66, 67, 68, 69, 70, 71] (by decide +kernel) (by decide +kernel)
set_option maxRecDepth 20000 in
theorem gX6_lay_X6_acts : GoodIn wsX6_lay (wsV RX6 104 RX6 yX6_acts wsX6_acts) := goodIn_app (goodIn_of _ (by decide +kernel)) ggX6_lay_X6_acts
theorem dX6_lay_0 : decode cX6_lay 0 = .ok (.aload_n 0, 1) := by decide +kernel
theorem dX6_lay_1 : decode cX6_lay 1 = .ok (.iload_n 1, 1) := by decide +kernel
theorem dX6_lay_2 : decode cX6_lay 2 = .ok (.invokevirtual 73, 3) := by decide +kernel
theorem dX6_lay_5 : decode cX6_lay 5 = .ok (.ifCond .eq 19, 3) := by decide +kernel
theorem dX6_lay_8 : decode cX6_lay 8 = .ok (.aload_n 0, 1) := by decide +kernel
theorem dX6_lay_9 : decode cX6_lay 9 = .ok (.getfield 19, 3) := by decide +kernel
theorem dX6_lay_12 : decode cX6_lay 12 = .ok (.iload_n 1, 1) := by decide +kernel
theorem dX6_lay_13 : decode cX6_lay 13 = .ok (.iaload, 1) := by decide +kernel
theorem dX6_lay_14 : decode cX6_lay 14 = .ok (.ifCond .ne 10, 3) := by decide +kernel
theorem dX6_lay_17 : decode cX6_lay 17 = .ok (.aload_n 0, 1) := by decide +kernel
theorem dX6_lay_18 : decode cX6_lay 18 = .ok (.invokevirtual 101, 3) := by decide +kernel
theorem dX6_lay_21 : decode cX6_lay 21 = .ok (.ifCond .eq 5, 3) := by decide +kernel
theorem dX6_lay_24 : decode cX6_lay 24 = .ok (.iconst (-1), 1) := by decide +kernel
theorem dX6_lay_25 : decode cX6_lay 25 = .ok (.ireturn, 1) := by decide +kernel
theorem dX6_lay_26 : decode cX6_lay 26 = .ok (.aload_n 0, 1) := by decide +kernel
theorem dX6_lay_27 : decode cX6_lay 27 = .ok (.iload_n 1, 1) := by decide +kernel
theorem dX6_lay_28 : decode cX6_lay 28 = .ok (.invokevirtual 104, 3) := by decide +kernel
theorem dX6_lay_31 : decode cX6_lay 31 = .ok (.aload_n 0, 1) := by decide +kernel
theorem dX6_lay_32 : decode cX6_lay 32 = .ok (.invokevirtual 101, 3) := by decide +kernel
theorem dX6_lay_35 : decode cX6_lay 35 = .ok (.ifCond .ne 7, 3) := by decide +kernel
theorem dX6_lay_38 : decode cX6_lay 38 = .ok (.iconst 1, 1) := by decide +kernel
theorem dX6_lay_39 : decode cX6_lay 39 = .ok (.goto 4, 3) := by decide +kernel
theorem dX6_lay_42 : decode cX6_lay 42 = .ok (.iconst 2, 1) := by decide +kernel
theorem dX6_lay_43 : decode cX6_lay 43 = .ok (.ireturn, 1) := by decide +kernel
set_option maxRecDepth 20000 in
theorem ggX6_swap_X6_joined : GoodIn wsX6_swap wsX6_joined := goodIn_r _ [10, 11, 12, 13, 9, 14, 15, 16, 17, 18, 19, 20, 1, 2, 21, 22, 23, 24, 25, 26, 27, 28, 29, 30, 31, 32, 33, 34, 35, 36, 37, 38, 39, 40, 41, 52, 53, 54, 55, 56, 57, 58, 59, 60, 61, 62, 63, 64, 65, 66, 67, 68] (by decide +kernel) (by decide +kernel)
set_option maxRecDepth 20000 in
theorem gX6_swap_X6_joined : GoodIn wsX6_swap (wsV RX6 101 RX6 yX6_joined wsX6_joined) := goodIn_app (goodIn_of _ (by decide +kernel)) ggX6_swap_X6_joined
set_option maxRecDepth 20000 in
theorem ggX6_swap_X6_acts : GoodIn wsX6_swap wsX6_acts := goodIn_r _ [45, 5, 4, 46, 47, 48, 49, 9, 50, 16, 51, 2, 52, 53, 54, 55, 56, 57, 58, 59, 60, 61, 62, 63, 64, 65, 66, 67, 68] (by decide +kernel) (by decide +kernel)
set_option maxRecDepth 20000 in
theorem gX6_swap_X6_acts : GoodIn wsX6_swap (wsV RX6 104 RX6 yX6_acts wsX6_acts) := goodIn_app (goodIn_of _ (by decide +kernel)) ggX6_swap_X6_acts
theorem dX6_swap_0 : decode cX6_swap 0 = .ok (.aload_n 0, 1) := by decide +kernel
theorem dX6_swap_1 : decode cX6_swap 1 = .ok (.getfield 7, 3) := by decide +kernel
theorem dX6_swap_4 : decode cX6_swap 4 = .ok (.aload_n 0, 1) := by decide +kernel
theorem dX6_swap_5 : decode cX6_swap 5 = .ok (.getfield 13, 3) := by decide +kernel
theorem dX6_swap_8 : decode cX6_swap 8 = .ok (.if_icmp .ne 36, 3) := by decide +kernel
theorem dX6_swap_11 : decode cX6_swap 11 = .ok (.aload_n 0, 1) := by decide +kernel
theorem dX6_swap_12 : decode cX6_swap 12 = .ok (.getfield 26, 3) := by decide +kernel
theorem dX6_swap_15 : decode cX6_swap 15 = .ok (.ifCond .eq 29, 3) := by decide +kernel
theorem dX6_swap_18 : decode cX6_swap 18 = .ok (.aload_n 0, 1) := by decide +kernel
theorem dX6_swap_19 : decode cX6_swap 19 = .ok (.getfield 64, 3) := by decide +kernel
theorem dX6_swap_22 : decode cX6_swap 22 = .ok (.iconst 1, 1) := by decide +kernel
theorem dX6_swap_23 : decode cX6_swap 23 = .ok (.if_icmp .ne 21, 3) := by decide +kernel
theorem dX6_swap_26 : decode cX6_swap 26 = .ok (.aload_n 0, 1) := by decide +kernel
theorem dX6_swap_27 : decode cX6_swap 27 = .ok (.getfield 23, 3) := by decide +kernel
theorem dX6_swap_30 : decode cX6_swap 30 = .ok (.iconst 0, 1) := by decide +kernel
theorem dX6_swap_31 : decode cX6_swap 31 = .ok (.iaload, 1) := by decide +kernel
theorem dX6_swap_32 : decode cX6_swap 32 = .ok (.bipush 100, 2) := by decide +kernel
theorem dX6_swap_34 : decode cX6_swap 34 = .ok (.if_icmp .ge 10, 3) := by decide +kernel
theorem dX6_swap_37 : decode cX6_swap 37 = .ok (.aload_n 0, 1) := by decide +kernel
theorem dX6_swap_38 : decode cX6_swap 38 = .ok (.invokevirtual 101, 3) := by decide +kernel
theorem dX6_swap_41 : decode cX6_swap 41 = .ok (.ifCond .eq 5, 3) := by decide +kernel
theorem dX6_swap_44 : decode cX6_swap 44 = .ok (.iconst 0, 1) := by decide +kernel
theorem dX6_swap_45 : decode cX6_swap 45 = .ok (.ireturn, 1) := by decide +kernel
theorem dX6_swap_46 : decode cX6_swap 46 = .ok (.aload_n 0, 1) := by decide +kernel
theorem dX6_swap_47 : decode cX6_swap 47 = .ok (.bipush 100, 2) := by decide +kernel
theorem dX6_swap_49 : decode cX6_swap 49 = .ok (.aload_n 0, 1) := by decide +kernel
theorem dX6_swap_50 : decode cX6_swap 50 = .ok (.getfield 23, 3) := by decide +kernel
theorem dX6_swap_53 : decode cX6_swap 53 = .ok (.iconst 0, 1) := by decide +kernel
theorem dX6_swap_54 : decode cX6_swap 54 = .ok (.iaload, 1) := by decide +kernel
theorem dX6_swap_55 : decode cX6_swap 55 = .ok (.iadd, 1) := by decide +kernel
theorem dX6_swap_56 : decode cX6_swap 56 = .ok (.invokevirtual 104, 3) := by decide +kernel
theorem dX6_swap_59 : decode cX6_swap 59 = .ok (.iconst 1, 1) := by decide +kernel
theorem dX6_swap_60 : decode cX6_swap 60 = .ok (.ireturn, 1) := by decide +kernel
set_option maxRecDepth 20000 in
theorem ggX6_undo_X6_undoes : GoodIn wsX6_undo wsX6_undoes := goodIn_r _ [8, 9, 10, 11, 12, 13, 14, 15, 16, 17, 18, 19, 20, 21, 22, 23, 24, 25, 26, 27, 28] (by decide +kernel) (by decide +kernel)
set_option maxRecDepth 20000 in
theorem gX6_undo_X6_undoes : GoodIn wsX6_undo (wsV RX6 106 RX6 yX6_undoes wsX6_undoes) := goodIn_app (goodIn_of _ (by decide +kernel)) ggX6_undo_X6_undoes
theorem dX6_undo_0 : decode cX6_undo 0 = .ok (.aload_n 0, 1) := by decide +kernel
theorem dX6_undo_1 : decode cX6_undo 1 = .ok (.getfield 64, 3) := by decide +kernel
theorem dX6_undo_4 : decode cX6_undo 4 = .ok (.ifCond .ne 5, 3) := by decide +kernel
theorem dX6_undo_7 : decode cX6_undo 7 = .ok (.iconst 0, 1) := by decide +kernel
theorem dX6_undo_8 : decode cX6_undo 8 = .ok (.ireturn, 1) := by decide +kernel
theorem dX6_undo_9 : decode cX6_undo 9 = .ok (.aload_n 0, 1) := by decide +kernel
theorem dX6_undo_10 : decode cX6_undo 10 = .ok (.dup, 1) := by decide +kernel
theorem dX6_undo_11 : decode cX6_undo 11 = .ok (.getfield 64, 3) := by decide +kernel
theorem dX6_undo_14 : decode cX6_undo 14 = .ok (.iconst 1, 1) := by decide +kernel
theorem dX6_undo_15 : decode cX6_undo 15 = .ok (.isub, 1) := by decide +kernel
theorem dX6_undo_16 : decode cX6_undo 16 = .ok (.putfield 64, 3) := by decide +kernel
theorem dX6_undo_19 : decode cX6_undo 19 = .ok (.aload_n 0, 1) := by decide +kernel
theorem dX6_undo_20 : decode cX6_undo 20 = .ok (.dup, 1) := by decide +kernel
theorem dX6_undo_21 : decode cX6_undo 21 = .ok (.getfield 67, 3) := by decide +kernel
theorem dX6_undo_24 : decode cX6_undo 24 = .ok (.iconst 1, 1) := by decide +kernel
theorem dX6_undo_25 : decode cX6_undo 25 = .ok (.iadd, 1) := by decide +kernel
theorem dX6_undo_26 : decode cX6_undo 26 = .ok (.putfield 67, 3) := by decide +kernel
theorem dX6_undo_29 : decode cX6_undo 29 = .ok (.aload_n 0, 1) := by decide +kernel
theorem dX6_undo_30 : decode cX6_undo 30 = .ok (.aload_n 0, 1) := by decide +kernel
theorem dX6_undo_31 : decode cX6_undo 31 = .ok (.getfield 23, 3) := by decide +kernel
theorem dX6_undo_34 : decode cX6_undo 34 = .ok (.aload_n 0, 1) := by decide +kernel
theorem dX6_undo_35 : decode cX6_undo 35 = .ok (.getfield 64, 3) := by decide +kernel
theorem dX6_undo_38 : decode cX6_undo 38 = .ok (.iaload, 1) := by decide +kernel
theorem dX6_undo_39 : decode cX6_undo 39 = .ok (.invokevirtual 106, 3) := by decide +kernel
theorem dX6_undo_42 : decode cX6_undo 42 = .ok (.iconst 1, 1) := by decide +kernel
theorem dX6_undo_43 : decode cX6_undo 43 = .ok (.ireturn, 1) := by decide +kernel
set_option maxRecDepth 20000 in
theorem ggX6_redo_X6_does : GoodIn wsX6_redo wsX6_does := goodIn_r _ [8, 9, 10, 11, 12, 13, 14, 15, 16, 17, 18, 19, 20, 21, 22, 23, 24, 25, 26, 27, 28] (by decide +kernel) (by decide +kernel)
set_option maxRecDepth 20000 in
theorem gX6_redo_X6_does : GoodIn wsX6_redo (wsV RX6 98 RX6 yX6_does wsX6_does) := goodIn_app (goodIn_of _ (by decide +kernel)) ggX6_redo_X6_does
theorem dX6_redo_0 : decode cX6_redo 0 = .ok (.aload_n 0, 1) := by decide +kernel
theorem dX6_redo_1 : decode cX6_redo 1 = .ok (.getfield 67, 3) := by decide +kernel
theorem dX6_redo_4 : decode cX6_redo 4 = .ok (.ifCond .ne 5, 3) := by decide +kernel
theorem dX6_redo_7 : decode cX6_redo 7 = .ok (.iconst 0, 1) := by decide +kernel
theorem dX6_redo_8 : decode cX6_redo 8 = .ok (.ireturn, 1) := by decide +kernel
theorem dX6_redo_9 : decode cX6_redo 9 = .ok (.aload_n 0, 1) := by decide +kernel
theorem dX6_redo_10 : decode cX6_redo 10 = .ok (.dup, 1) := by decide +kernel
theorem dX6_redo_11 : decode cX6_redo 11 = .ok (.getfield 67, 3) := by decide +kernel
theorem dX6_redo_14 : decode cX6_redo 14 = .ok (.iconst 1, 1) := by decide +kernel
theorem dX6_redo_15 : decode cX6_redo 15 = .ok (.isub, 1) := by decide +kernel
theorem dX6_redo_16 : decode cX6_redo 16 = .ok (.putfield 67, 3) := by decide +kernel
theorem dX6_redo_19 : decode cX6_redo 19 = .ok (.aload_n 0, 1) := by decide +kernel
theorem dX6_redo_20 : decode cX6_redo 20 = .ok (.aload_n 0, 1) := by decide +kernel
theorem dX6_redo_21 : decode cX6_redo 21 = .ok (.getfield 23, 3) := by decide +kernel
theorem dX6_redo_24 : decode cX6_redo 24 = .ok (.aload_n 0, 1) := by decide +kernel
theorem dX6_redo_25 : decode cX6_redo 25 = .ok (.getfield 64, 3) := by decide +kernel
theorem dX6_redo_28 : decode cX6_redo 28 = .ok (.iaload, 1) := by decide +kernel
theorem dX6_redo_29 : decode cX6_redo 29 = .ok (.invokevirtual 98, 3) := by decide +kernel
theorem dX6_redo_32 : decode cX6_redo 32 = .ok (.aload_n 0, 1) := by decide +kernel
theorem dX6_redo_33 : decode cX6_redo 33 = .ok (.dup, 1) := by decide +kernel
theorem dX6_redo_34 : decode cX6_redo 34 = .ok (.getfield 64, 3) := by decide +kernel
theorem dX6_redo_37 : decode cX6_redo 37 = .ok (.iconst 1, 1) := by decide +kernel
theorem dX6_redo_38 : decode cX6_redo 38 = .ok (.iadd, 1) := by decide +kernel
theorem dX6_redo_39 : decode cX6_redo 39 = .ok (.putfield 64, 3) := by decide +kernel
theorem dX6_redo_42 : decode cX6_redo 42 = .ok (.iconst 1, 1) := by decide +kernel
theorem dX6_redo_43 : decode cX6_redo 43 = .ok (.ireturn, 1) := by decide +kernel
set_option maxRecDepth 20000 in
theorem ggX6_change_X6_fields : GoodIn wsX6_change wsX6_fields := goodIn_r _ [11, 2, 3, 18, 19, 20, 21, 22, 23, 24, 25, 26, 27, 28, 29, 30, 31, 32, 33, 34] (by decide +kernel) (by decide +kernel)
set_option maxRecDepth 20000 in
theorem gX6_change_X6_fields : GoodIn wsX6_change (wsV RX6 56 RX6 yX6_fields wsX6_fields) := goodIn_app (goodIn_of _ (by decide +kernel)) ggX6_change_X6_fields
set_option maxRecDepth 20000 in
theorem ggX6_change_X6_forgets : GoodIn wsX6_change wsX6_forgets := goodIn_r _ [15, 16, 17, 18, 19, 20, 21, 22, 23, 24, 25, 26, 27, 28, 29, 30, 31, 32, 33, 34] (by decide +kernel) (by decide +kernel)
set_option maxRecDepth 20000 in
theorem gX6_change_X6_forgets : GoodIn wsX6_change (wsV RX6 70 RX6 yX6_forgets wsX6_forgets) := goodIn_app (goodIn_of _ (by decide +kernel)) ggX6_change_X6_forgets
theorem dX6_change_0 : decode cX6_change 0 = .ok (.iconst 0, 1) := by decide +kernel
theorem dX6_change_1 : decode cX6_change 1 = .ok (.istore_n 1, 1) := by decide +kernel
theorem dX6_change_2 : decode cX6_change 2 = .ok (.iload_n 1, 1) := by decide +kernel
theorem dX6_change_3 : decode cX6_change 3 = .ok (.aload_n 0, 1) := by decide +kernel
theorem dX6_change_4 : decode cX6_change 4 = .ok (.invokevirtual 56, 3) := by decide +kernel
theorem dX6_change_7 : decode cX6_change 7 = .ok (.if_icmp .ge 53, 3) := by decide +kernel
theorem dX6_change_10 : decode cX6_change 10 = .ok (.aload_n 0, 1) := by decide +kernel
theorem dX6_change_11 : decode cX6_change 11 = .ok (.getfield 34, 3) := by decide +kernel
theorem dX6_change_14 : decode cX6_change 14 = .ok (.aload_n 0, 1) := by decide +kernel
theorem dX6_change_15 : decode cX6_change 15 = .ok (.getfield 7, 3) := by decide +kernel
theorem dX6_change_18 : decode cX6_change 18 = .ok (.iload_n 1, 1) := by decide +kernel
theorem dX6_change_19 : decode cX6_change 19 = .ok (.aload_n 0, 1) := by decide +kernel
theorem dX6_change_20 : decode cX6_change 20 = .ok (.getfield 13, 3) := by decide +kernel
theorem dX6_change_23 : decode cX6_change 23 = .ok (.irem, 1) := by decide +kernel
theorem dX6_change_24 : decode cX6_change 24 = .ok (.imul, 1) := by decide +kernel
theorem dX6_change_25 : decode cX6_change 25 = .ok (.iload_n 1, 1) := by decide +kernel
theorem dX6_change_26 : decode cX6_change 26 = .ok (.aload_n 0, 1) := by decide +kernel
theorem dX6_change_27 : decode cX6_change 27 = .ok (.getfield 13, 3) := by decide +kernel
theorem dX6_change_30 : decode cX6_change 30 = .ok (.idiv, 1) := by decide +kernel
theorem dX6_change_31 : decode cX6_change 31 = .ok (.iadd, 1) := by decide +kernel
theorem dX6_change_32 : decode cX6_change 32 = .ok (.aload_n 0, 1) := by decide +kernel
theorem dX6_change_33 : decode cX6_change 33 = .ok (.getfield 19, 3) := by decide +kernel
theorem dX6_change_36 : decode cX6_change 36 = .ok (.iload_n 1, 1) := by decide +kernel
theorem dX6_change_37 : decode cX6_change 37 = .ok (.iaload, 1) := by decide +kernel
theorem dX6_change_38 : decode cX6_change 38 = .ok (.ifCond .ne 7, 3) := by decide +kernel
theorem dX6_change_41 : decode cX6_change 41 = .ok (.iconst 0, 1) := by decide +kernel
theorem dX6_change_42 : decode cX6_change 42 = .ok (.goto 11, 3) := by decide +kernel
theorem dX6_change_45 : decode cX6_change 45 = .ok (.iconst 3, 1) := by decide +kernel
theorem dX6_change_46 : decode cX6_change 46 = .ok (.aload_n 0, 1) := by decide +kernel
theorem dX6_change_47 : decode cX6_change 47 = .ok (.getfield 19, 3) := by decide +kernel
theorem dX6_change_50 : decode cX6_change 50 = .ok (.iload_n 1, 1) := by decide +kernel
theorem dX6_change_51 : decode cX6_change 51 = .ok (.iaload, 1) := by decide +kernel
theorem dX6_change_52 : decode cX6_change 52 = .ok (.isub, 1) := by decide +kernel
theorem dX6_change_53 : decode cX6_change 53 = .ok (.iastore, 1) := by decide +kernel
theorem dX6_change_54 : decode cX6_change 54 = .ok (.iinc 1 1, 3) := by decide +kernel
theorem dX6_change_57 : decode cX6_change 57 = .ok (.goto (-55), 3) := by decide +kernel
theorem dX6_change_60 : decode cX6_change 60 = .ok (.iconst 0, 1) := by decide +kernel
theorem dX6_change_61 : decode cX6_change 61 = .ok (.istore_n 1, 1) := by decide +kernel
theorem dX6_change_62 : decode cX6_change 62 = .ok (.iload_n 1, 1) := by decide +kernel
theorem dX6_change_63 : decode cX6_change 63 = .ok (.aload_n 0, 1) := by decide +kernel
theorem dX6_change_64 : decode cX6_change 64 = .ok (.invokevirtual 56, 3) := by decide +kernel
theorem dX6_change_67 : decode cX6_change 67 = .ok (.if_icmp .ge 21, 3) := by decide +kernel
theorem dX6_change_70 : decode cX6_change 70 = .ok (.aload_n 0, 1) := by decide +kernel
theorem dX6_change_71 : decode cX6_change 71 = .ok (.getfield 19, 3) := by decide +kernel
theorem dX6_change_74 : decode cX6_change 74 = .ok (.iload_n 1, 1) := by decide +kernel
theorem dX6_change_75 : decode cX6_change 75 = .ok (.aload_n 0, 1) := by decide +kernel
theorem dX6_change_76 : decode cX6_change 76 = .ok (.getfield 34, 3) := by decide +kernel
theorem dX6_change_79 : decode cX6_change 79 = .ok (.iload_n 1, 1) := by decide +kernel
theorem dX6_change_80 : decode cX6_change 80 = .ok (.iaload, 1) := by decide +kernel
theorem dX6_change_81 : decode cX6_change 81 = .ok (.iastore, 1) := by decide +kernel
theorem dX6_change_82 : decode cX6_change 82 = .ok (.iinc 1 1, 3) := by decide +kernel
theorem dX6_change_85 : decode cX6_change 85 = .ok (.goto (-23), 3) := by decide +kernel
theorem dX6_change_88 : decode cX6_change 88 = .ok (.aload_n 0, 1) := by decide +kernel
theorem dX6_change_89 : decode cX6_change 89 = .ok (.getfield 7, 3) := by decide +kernel
theorem dX6_change_92 : decode cX6_change 92 = .ok (.istore_n 1, 1) := by decide +kernel
theorem dX6_change_93 : decode cX6_change 93 = .ok (.aload_n 0, 1) := by decide +kernel
theorem dX6_change_94 : decode cX6_change 94 = .ok (.aload_n 0, 1) := by decide +kernel
theorem dX6_change_95 : decode cX6_change 95 = .ok (.getfield 13, 3) := by decide +kernel
theorem dX6_change_98 : decode cX6_change 98 = .ok (.putfield 7, 3) := by decide +kernel
theorem dX6_change_101 : decode cX6_change 101 = .ok (.aload_n 0, 1) := by decide +kernel
theorem dX6_change_102 : decode cX6_change 102 = .ok (.iload_n 1, 1) := by decide +kernel
theorem dX6_change_103 : decode cX6_change 103 = .ok (.putfield 13, 3) := by decide +kernel
theorem dX6_change_106 : decode cX6_change 106 = .ok (.aload_n 0, 1) := by decide +kernel
theorem dX6_change_107 : decode cX6_change 107 = .ok (.iconst 3, 1) := by decide +kernel
theorem dX6_change_108 : decode cX6_change 108 = .ok (.aload_n 0, 1) := by decide +kernel
theorem dX6_change_109 : decode cX6_change 109 = .ok (.getfield 16, 3) := by decide +kernel
theorem dX6_change_112 : decode cX6_change 112 = .ok (.isub, 1) := by decide +kernel
theorem dX6_change_113 : decode cX6_change 113 = .ok (.putfield 16, 3) := by decide +kernel
theorem dX6_change_116 : decode cX6_change 116 = .ok (.aload_n 0, 1) := by decide +kernel
theorem dX6_change_117 : decode cX6_change 117 = .ok (.iconst 0, 1) := by decide +kernel
theorem dX6_change_118 : decode cX6_change 118 = .ok (.putfield 26, 3) := by decide +kernel
theorem dX6_change_121 : decode cX6_change 121 = .ok (.aload_n 0, 1) := by decide +kernel
theorem dX6_change_122 : decode cX6_change 122 = .ok (.invokevirtual 70, 3) := by decide +kernel
theorem dX6_change_125 : decode cX6_change 125 = .ok (.return_, 1) := by decide +kernel
set_option maxRecDepth 20000 in
theorem ggX6_at_X6_isField : GoodIn wsX6_at wsX6_isField := goodIn_r _ [6, 7, 8, 9, 5, 10, 11, 12, 13, 14, 15, 16, 17, 18, 19, 20, 21, 22, 23, 24, 25, 26, 27, 28, 29, 30, 31, 32] (by decide +kernel) (by decide +kernel)
set_option maxRecDepth 20000 in
theorem gX6_at_X6_isField : GoodIn wsX6_at (wsV RX6 73 RX6 yX6_isField wsX6_isField) := goodIn_app (goodIn_of _ (by decide +kernel)) ggX6_at_X6_isField
theorem dX6_at_0 : decode cX6_at 0 = .ok (.aload_n 0, 1) := by decide +kernel
theorem dX6_at_1 : decode cX6_at 1 = .ok (.iload_n 1, 1) := by decide +kernel
theorem dX6_at_2 : decode cX6_at 2 = .ok (.invokevirtual 73, 3) := by decide +kernel
theorem dX6_at_5 : decode cX6_at 5 = .ok (.ifCond .eq 12, 3) := by decide +kernel
theorem dX6_at_8 : decode cX6_at 8 = .ok (.aload_n 0, 1) := by decide +kernel
theorem dX6_at_9 : decode cX6_at 9 = .ok (.getfield 19, 3) := by decide +kernel
theorem dX6_at_12 : decode cX6_at 12 = .ok (.iload_n 1, 1) := by decide +kernel
theorem dX6_at_13 : decode cX6_at 13 = .ok (.iaload, 1) := by decide +kernel
theorem dX6_at_14 : decode cX6_at 14 = .ok (.goto 4, 3) := by decide +kernel
theorem dX6_at_17 : decode cX6_at 17 = .ok (.iconst (-1), 1) := by decide +kernel
theorem dX6_at_18 : decode cX6_at 18 = .ok (.ireturn, 1) := by decide +kernel
set_option maxRecDepth 20000 in
theorem ggX6_isStone_X6_isField : GoodIn wsX6_isStone wsX6_isField := goodIn_r _ [6, 7, 8, 9, 5, 10, 11, 12, 13, 14, 15, 16, 17, 18, 19, 20, 21, 22, 23, 24, 25, 26, 27, 28, 29, 30, 31, 32] (by decide +kernel) (by decide +kernel)
set_option maxRecDepth 20000 in
theorem gX6_isStone_X6_isField : GoodIn wsX6_isStone (wsV RX6 73 RX6 yX6_isField wsX6_isField) := goodIn_app (goodIn_of _ (by decide +kernel)) ggX6_isStone_X6_isField
theorem dX6_isStone_0 : decode cX6_isStone 0 = .ok (.aload_n 0, 1) := by decide +kernel
theorem dX6_isStone_1 : decode cX6_isStone 1 = .ok (.iload_n 1, 1) := by decide +kernel
theorem dX6_isStone_2 : decode cX6_isStone 2 = .ok (.invokevirtual 73, 3) := by decide +kernel
theorem dX6_isStone_5 : decode cX6_isStone 5 = .ok (.ifCond .eq 16, 3) := by decide +kernel
theorem dX6_isStone_8 : decode cX6_isStone 8 = .ok (.aload_n 0, 1) := by decide +kernel
theorem dX6_isStone_9 : decode cX6_isStone 9 = .ok (.getfield 19, 3) := by decide +kernel
theorem dX6_isStone_12 : decode cX6_isStone 12 = .ok (.iload_n 1, 1) := by decide +kernel
theorem dX6_isStone_13 : decode cX6_isStone 13 = .ok (.iaload, 1) := by decide +kernel
theorem dX6_isStone_14 : decode cX6_isStone 14 = .ok (.ifCond .eq 7, 3) := by decide +kernel
theorem dX6_isStone_17 : decode cX6_isStone 17 = .ok (.iconst 1, 1) := by decide +kernel
theorem dX6_isStone_18 : decode cX6_isStone 18 = .ok (.goto 4, 3) := by decide +kernel
theorem dX6_isStone_21 : decode cX6_isStone 21 = .ok (.iconst 0, 1) := by decide +kernel
theorem dX6_isStone_22 : decode cX6_isStone 22 = .ok (.ireturn, 1) := by decide +kernel
set_option maxRecDepth 20000 in
theorem ggX6_groupOf_X6_reachesNone : GoodIn wsX6_groupOf wsX6_reachesNone := goodIn_r _ [7, 1, 25, 26, 27, 28, 29, 30, 31, 32, 33, 34, 35, 36, 37, 38, 39, 40, 41] (by decide +kernel) (by decide +kernel)
set_option maxRecDepth 20000 in
theorem gX6_groupOf_X6_reachesNone : GoodIn wsX6_groupOf (wsV RX6 109 RX6 yX6_reachesNone wsX6_reachesNone) := goodIn_app (goodIn_of _ (by decide +kernel)) ggX6_groupOf_X6_reachesNone
set_option maxRecDepth 20000 in
theorem ggX6_groupOf_X6_reaches : GoodIn wsX6_groupOf wsX6_reaches := goodIn_r _ [11, 1, 2, 12, 13, 14, 6, 15, 16, 17, 18, 19, 20, 21, 22, 23, 24, 25, 26, 27, 28, 29, 30, 31, 32, 33, 34, 35, 36, 37, 38, 39, 40, 41] (by decide +kernel) (by decide +kernel)
set_option maxRecDepth 20000 in
theorem gX6_groupOf_X6_reaches : GoodIn wsX6_groupOf (wsV RX6 88 RX6 yX6_reaches wsX6_reaches) := goodIn_app (goodIn_of _ (by decide +kernel)) ggX6_groupOf_X6_reaches
theorem dX6_groupOf_0 : decode cX6_groupOf 0 = .ok (.aload_n 0, 1) := by decide +kernel
theorem dX6_groupOf_1 : decode cX6_groupOf 1 = .ok (.invokevirtual 109, 3) := by decide +kernel
theorem dX6_groupOf_4 : decode cX6_groupOf 4 = .ok (.aload_n 0, 1) := by decide +kernel
theorem dX6_groupOf_5 : decode cX6_groupOf 5 = .ok (.getfield 30, 3) := by decide +kernel
theorem dX6_groupOf_8 : decode cX6_groupOf 8 = .ok (.iload_n 1, 1) := by decide +kernel
theorem dX6_groupOf_9 : decode cX6_groupOf 9 = .ok (.iconst 1, 1) := by decide +kernel
theorem dX6_groupOf_10 : decode cX6_groupOf 10 = .ok (.bastore, 1) := by decide +kernel
theorem dX6_groupOf_11 : decode cX6_groupOf 11 = .ok (.aload_n 0, 1) := by decide +kernel
theorem dX6_groupOf_12 : decode cX6_groupOf 12 = .ok (.aload_n 0, 1) := by decide +kernel
theorem dX6_groupOf_13 : decode cX6_groupOf 13 = .ok (.getfield 19, 3) := by decide +kernel
theorem dX6_groupOf_16 : decode cX6_groupOf 16 = .ok (.iload_n 1, 1) := by decide +kernel
theorem dX6_groupOf_17 : decode cX6_groupOf 17 = .ok (.iaload, 1) := by decide +kernel
theorem dX6_groupOf_18 : decode cX6_groupOf 18 = .ok (.invokevirtual 88, 3) := by decide +kernel
theorem dX6_groupOf_21 : decode cX6_groupOf 21 = .ok (.return_, 1) := by decide +kernel
set_option maxRecDepth 20000 in
theorem ggX6_group_X6_isStone : GoodIn wsX6_group wsX6_isStone := goodIn_r _ [6, 7, 8, 9, 10, 5, 11, 12, 13, 14, 15, 16, 17, 18, 19, 20, 37, 38, 39, 40, 41, 42, 43, 44, 45, 46, 47, 48, 49, 50, 51, 52, 53] (by decide +kernel) (by decide +kernel)
set_option maxRecDepth 20000 in
theorem gX6_group_X6_isStone : GoodIn wsX6_group (wsV RX6 112 RX6 yX6_isStone wsX6_isStone) := goodIn_app (goodIn_of _ (by decide +kernel)) ggX6_group_X6_isStone
set_option maxRecDepth 20000 in
theorem ggX6_group_X6_groupOf : GoodIn wsX6_group wsX6_groupOf := goodIn_r _ [24, 1, 7, 25, 26, 27, 5, 28, 29, 30, 31, 32, 12, 13, 14, 15, 16, 17, 33, 34, 35, 36, 18, 19, 20, 37, 38, 39, 40, 41, 42, 43, 44, 45, 46, 47, 48, 49, 50, 51, 52, 53] (by decide +kernel) (by decide +kernel)
set_option maxRecDepth 20000 in
theorem gX6_group_X6_groupOf : GoodIn wsX6_group (wsV RX6 115 RX6 yX6_groupOf wsX6_groupOf) := goodIn_app (goodIn_of _ (by decide +kernel)) ggX6_group_X6_groupOf
theorem dX6_group_0 : decode cX6_group 0 = .ok (.aload_n 0, 1) := by decide +kernel
theorem dX6_group_1 : decode cX6_group 1 = .ok (.iload_n 1, 1) := by decide +kernel
theorem dX6_group_2 : decode cX6_group 2 = .ok (.invokevirtual 112, 3) := by decide +kernel
theorem dX6_group_5 : decode cX6_group 5 = .ok (.ifCond .ne 5, 3) := by decide +kernel
theorem dX6_group_8 : decode cX6_group 8 = .ok (.iconst (-1), 1) := by decide +kernel
theorem dX6_group_9 : decode cX6_group 9 = .ok (.ireturn, 1) := by decide +kernel
theorem dX6_group_10 : decode cX6_group 10 = .ok (.aload_n 0, 1) := by decide +kernel
theorem dX6_group_11 : decode cX6_group 11 = .ok (.iload_n 1, 1) := by decide +kernel
theorem dX6_group_12 : decode cX6_group 12 = .ok (.invokevirtual 115, 3) := by decide +kernel
theorem dX6_group_15 : decode cX6_group 15 = .ok (.iconst 0, 1) := by decide +kernel
theorem dX6_group_16 : decode cX6_group 16 = .ok (.istore_n 2, 1) := by decide +kernel
theorem dX6_group_17 : decode cX6_group 17 = .ok (.aload_n 0, 1) := by decide +kernel
theorem dX6_group_18 : decode cX6_group 18 = .ok (.getfield 30, 3) := by decide +kernel
theorem dX6_group_21 : decode cX6_group 21 = .ok (.iload_n 2, 1) := by decide +kernel
theorem dX6_group_22 : decode cX6_group 22 = .ok (.baload, 1) := by decide +kernel
theorem dX6_group_23 : decode cX6_group 23 = .ok (.ifCond .ne 9, 3) := by decide +kernel
theorem dX6_group_26 : decode cX6_group 26 = .ok (.iinc 2 1, 3) := by decide +kernel
theorem dX6_group_29 : decode cX6_group 29 = .ok (.goto (-12), 3) := by decide +kernel
theorem dX6_group_32 : decode cX6_group 32 = .ok (.iload_n 2, 1) := by decide +kernel
theorem dX6_group_33 : decode cX6_group 33 = .ok (.ireturn, 1) := by decide +kernel
set_option maxRecDepth 20000 in
theorem ggX6_look_X6_isStone : GoodIn wsX6_look wsX6_isStone := goodIn_r _ [7, 2, 8, 9, 10, 6, 11, 12, 13, 14, 15, 16, 17, 18, 19, 20, 45, 46, 47, 48, 49, 50, 51, 52, 53, 54, 55, 56, 57, 58, 59, 60, 61] (by decide +kernel) (by decide +kernel)
set_option maxRecDepth 20000 in
theorem gX6_look_X6_isStone : GoodIn wsX6_look (wsV RX6 112 RX6 yX6_isStone wsX6_isStone) := goodIn_app (goodIn_of _ (by decide +kernel)) ggX6_look_X6_isStone
set_option maxRecDepth 20000 in
theorem ggX6_look_X6_lies : GoodIn wsX6_look wsX6_lies := goodIn_r _ [20] (by decide +kernel) (by decide +kernel)
set_option maxRecDepth 20000 in
theorem gX6_look_X6_lies : GoodIn wsX6_look (va_wsS RX6 60 yX6_lies wsX6_lies) := goodIn_app (goodIn_of _ (by decide +kernel)) ggX6_look_X6_lies
set_option maxRecDepth 20000 in
theorem ggX6_look_X6_groupOf : GoodIn wsX6_look wsX6_groupOf := goodIn_r _ [24, 1, 2, 25, 26, 27, 6, 28, 29, 30, 31, 32, 12, 13, 14, 15, 16, 17, 33, 34, 35, 36, 18, 19, 20, 45, 46, 47, 48, 49, 50, 51, 52, 53, 54, 55, 56, 57, 58, 59, 60, 61] (by decide +kernel) (by decide +kernel)
set_option maxRecDepth 20000 in
theorem gX6_look_X6_groupOf : GoodIn wsX6_look (wsV RX6 115 RX6 yX6_groupOf wsX6_groupOf) := goodIn_app (goodIn_of _ (by decide +kernel)) ggX6_look_X6_groupOf
set_option maxRecDepth 20000 in
theorem ggX6_look_X6_fields : GoodIn wsX6_look wsX6_fields := goodIn_r _ [15, 16, 17, 45, 46, 47, 48, 49, 50, 51, 52, 53, 54, 55, 56, 57, 58, 59, 60, 61] (by decide +kernel) (by decide +kernel)
set_option maxRecDepth 20000 in
theorem gX6_look_X6_fields : GoodIn wsX6_look (wsV RX6 56 RX6 yX6_fields wsX6_fields) := goodIn_app (goodIn_of _ (by decide +kernel)) ggX6_look_X6_fields
set_option maxRecDepth 20000 in
theorem ggX6_look_X6_banks : GoodIn wsX6_look wsX6_banks := goodIn_r _ [40, 17, 16, 45, 46, 47, 48, 49, 50, 51, 52, 53, 54, 55, 56, 57, 58, 59, 60, 61] (by decide +kernel) (by decide +kernel)
set_option maxRecDepth 20000 in
theorem gX6_look_X6_banks : GoodIn wsX6_look (wsV RX6 81 RX6 yX6_banks wsX6_banks) := goodIn_app (goodIn_of _ (by decide +kernel)) ggX6_look_X6_banks
set_option maxRecDepth 20000 in
theorem ggX6_look_X6_isBeside : GoodIn wsX6_look wsX6_isBeside := goodIn_r _ [44, 1, 33, 34, 35, 6, 36, 17, 16, 18, 19, 20, 45, 46, 47, 48, 49, 50, 51, 52, 53, 54, 55, 56, 57, 58, 59, 60, 61] (by decide +kernel) (by decide +kernel)
set_option maxRecDepth 20000 in
theorem gX6_look_X6_isBeside : GoodIn wsX6_look (wsV RX6 118 RX6 yX6_isBeside wsX6_isBeside) := goodIn_app (goodIn_of _ (by decide +kernel)) ggX6_look_X6_isBeside
theorem dX6_look_0 : decode cX6_look 0 = .ok (.aload_n 0, 1) := by decide +kernel
theorem dX6_look_1 : decode cX6_look 1 = .ok (.iload_n 1, 1) := by decide +kernel
theorem dX6_look_2 : decode cX6_look 2 = .ok (.invokevirtual 112, 3) := by decide +kernel
theorem dX6_look_5 : decode cX6_look 5 = .ok (.ifCond .eq 12, 3) := by decide +kernel
theorem dX6_look_8 : decode cX6_look 8 = .ok (.iload_n 2, 1) := by decide +kernel
theorem dX6_look_9 : decode cX6_look 9 = .ok (.iconst 0, 1) := by decide +kernel
theorem dX6_look_10 : decode cX6_look 10 = .ok (.iconst 2, 1) := by decide +kernel
theorem dX6_look_11 : decode cX6_look 11 = .ok (.invokestatic 60, 3) := by decide +kernel
theorem dX6_look_14 : decode cX6_look 14 = .ok (.ifCond .ne 5, 3) := by decide +kernel
theorem dX6_look_17 : decode cX6_look 17 = .ok (.iconst (-1), 1) := by decide +kernel
theorem dX6_look_18 : decode cX6_look 18 = .ok (.ireturn, 1) := by decide +kernel
theorem dX6_look_19 : decode cX6_look 19 = .ok (.aload_n 0, 1) := by decide +kernel
theorem dX6_look_20 : decode cX6_look 20 = .ok (.iload_n 1, 1) := by decide +kernel
theorem dX6_look_21 : decode cX6_look 21 = .ok (.invokevirtual 115, 3) := by decide +kernel
theorem dX6_look_24 : decode cX6_look 24 = .ok (.iconst 0, 1) := by decide +kernel
theorem dX6_look_25 : decode cX6_look 25 = .ok (.istore_n 3, 1) := by decide +kernel
theorem dX6_look_26 : decode cX6_look 26 = .ok (.iconst 0, 1) := by decide +kernel
theorem dX6_look_27 : decode cX6_look 27 = .ok (.istore 4, 2) := by decide +kernel
theorem dX6_look_29 : decode cX6_look 29 = .ok (.iload 4, 2) := by decide +kernel
theorem dX6_look_31 : decode cX6_look 31 = .ok (.aload_n 0, 1) := by decide +kernel
theorem dX6_look_32 : decode cX6_look 32 = .ok (.invokevirtual 56, 3) := by decide +kernel
theorem dX6_look_35 : decode cX6_look 35 = .ok (.if_icmp .ge 91, 3) := by decide +kernel
theorem dX6_look_38 : decode cX6_look 38 = .ok (.iload_n 2, 1) := by decide +kernel
theorem dX6_look_39 : decode cX6_look 39 = .ok (.ifCond .ne 21, 3) := by decide +kernel
theorem dX6_look_42 : decode cX6_look 42 = .ok (.iload_n 3, 1) := by decide +kernel
theorem dX6_look_43 : decode cX6_look 43 = .ok (.aload_n 0, 1) := by decide +kernel
theorem dX6_look_44 : decode cX6_look 44 = .ok (.getfield 30, 3) := by decide +kernel
theorem dX6_look_47 : decode cX6_look 47 = .ok (.iload 4, 2) := by decide +kernel
theorem dX6_look_49 : decode cX6_look 49 = .ok (.baload, 1) := by decide +kernel
theorem dX6_look_50 : decode cX6_look 50 = .ok (.ifCond .eq 7, 3) := by decide +kernel
theorem dX6_look_53 : decode cX6_look 53 = .ok (.iconst 1, 1) := by decide +kernel
theorem dX6_look_54 : decode cX6_look 54 = .ok (.goto 4, 3) := by decide +kernel
theorem dX6_look_57 : decode cX6_look 57 = .ok (.iconst 0, 1) := by decide +kernel
theorem dX6_look_58 : decode cX6_look 58 = .ok (.iadd, 1) := by decide +kernel
theorem dX6_look_59 : decode cX6_look 59 = .ok (.istore_n 3, 1) := by decide +kernel
theorem dX6_look_60 : decode cX6_look 60 = .ok (.iload_n 2, 1) := by decide +kernel
theorem dX6_look_61 : decode cX6_look 61 = .ok (.iconst 1, 1) := by decide +kernel
theorem dX6_look_62 : decode cX6_look 62 = .ok (.if_icmp .ne 26, 3) := by decide +kernel
theorem dX6_look_65 : decode cX6_look 65 = .ok (.iload_n 3, 1) := by decide +kernel
theorem dX6_look_66 : decode cX6_look 66 = .ok (.aload_n 0, 1) := by decide +kernel
theorem dX6_look_67 : decode cX6_look 67 = .ok (.getfield 30, 3) := by decide +kernel
theorem dX6_look_70 : decode cX6_look 70 = .ok (.iload 4, 2) := by decide +kernel
theorem dX6_look_72 : decode cX6_look 72 = .ok (.baload, 1) := by decide +kernel
theorem dX6_look_73 : decode cX6_look 73 = .ok (.ifCond .eq 12, 3) := by decide +kernel
theorem dX6_look_76 : decode cX6_look 76 = .ok (.aload_n 0, 1) := by decide +kernel
theorem dX6_look_77 : decode cX6_look 77 = .ok (.iload 4, 2) := by decide +kernel
theorem dX6_look_79 : decode cX6_look 79 = .ok (.invokevirtual 81, 3) := by decide +kernel
theorem dX6_look_82 : decode cX6_look 82 = .ok (.goto 4, 3) := by decide +kernel
theorem dX6_look_85 : decode cX6_look 85 = .ok (.iconst 0, 1) := by decide +kernel
theorem dX6_look_86 : decode cX6_look 86 = .ok (.ior, 1) := by decide +kernel
theorem dX6_look_87 : decode cX6_look 87 = .ok (.istore_n 3, 1) := by decide +kernel
theorem dX6_look_88 : decode cX6_look 88 = .ok (.iload_n 2, 1) := by decide +kernel
theorem dX6_look_89 : decode cX6_look 89 = .ok (.iconst 2, 1) := by decide +kernel
theorem dX6_look_90 : decode cX6_look 90 = .ok (.if_icmp .ne 30, 3) := by decide +kernel
theorem dX6_look_93 : decode cX6_look 93 = .ok (.iload_n 3, 1) := by decide +kernel
theorem dX6_look_94 : decode cX6_look 94 = .ok (.aload_n 0, 1) := by decide +kernel
theorem dX6_look_95 : decode cX6_look 95 = .ok (.getfield 19, 3) := by decide +kernel
theorem dX6_look_98 : decode cX6_look 98 = .ok (.iload 4, 2) := by decide +kernel
theorem dX6_look_100 : decode cX6_look 100 = .ok (.iaload, 1) := by decide +kernel
theorem dX6_look_101 : decode cX6_look 101 = .ok (.ifCond .ne 16, 3) := by decide +kernel
theorem dX6_look_104 : decode cX6_look 104 = .ok (.aload_n 0, 1) := by decide +kernel
theorem dX6_look_105 : decode cX6_look 105 = .ok (.iload 4, 2) := by decide +kernel
theorem dX6_look_107 : decode cX6_look 107 = .ok (.invokevirtual 118, 3) := by decide +kernel
theorem dX6_look_110 : decode cX6_look 110 = .ok (.ifCond .eq 7, 3) := by decide +kernel
theorem dX6_look_113 : decode cX6_look 113 = .ok (.iconst 1, 1) := by decide +kernel
theorem dX6_look_114 : decode cX6_look 114 = .ok (.goto 4, 3) := by decide +kernel
theorem dX6_look_117 : decode cX6_look 117 = .ok (.iconst 0, 1) := by decide +kernel
theorem dX6_look_118 : decode cX6_look 118 = .ok (.iadd, 1) := by decide +kernel
theorem dX6_look_119 : decode cX6_look 119 = .ok (.istore_n 3, 1) := by decide +kernel
theorem dX6_look_120 : decode cX6_look 120 = .ok (.iinc 4 1, 3) := by decide +kernel
theorem dX6_look_123 : decode cX6_look 123 = .ok (.goto (-94), 3) := by decide +kernel
theorem dX6_look_126 : decode cX6_look 126 = .ok (.iload_n 3, 1) := by decide +kernel
theorem dX6_look_127 : decode cX6_look 127 = .ok (.ireturn, 1) := by decide +kernel
set_option maxRecDepth 20000 in
theorem ggX6_isBeside_X6_beside : GoodIn wsX6_isBeside wsX6_beside := goodIn_r _ [6, 7, 8, 9, 10, 5, 11, 12, 13, 14, 15, 16, 17, 18, 19, 20, 21, 22, 23, 24, 25, 26, 27, 28] (by decide +kernel) (by decide +kernel)
set_option maxRecDepth 20000 in
theorem gX6_isBeside_X6_beside : GoodIn wsX6_isBeside (wsV RX6 77 RX6 yX6_beside wsX6_beside) := goodIn_app (goodIn_of _ (by decide +kernel)) ggX6_isBeside_X6_beside
theorem dX6_isBeside_0 : decode cX6_isBeside 0 = .ok (.iconst 0, 1) := by decide +kernel
theorem dX6_isBeside_1 : decode cX6_isBeside 1 = .ok (.istore_n 2, 1) := by decide +kernel
theorem dX6_isBeside_2 : decode cX6_isBeside 2 = .ok (.iload_n 2, 1) := by decide +kernel
theorem dX6_isBeside_3 : decode cX6_isBeside 3 = .ok (.bipush 6, 2) := by decide +kernel
theorem dX6_isBeside_5 : decode cX6_isBeside 5 = .ok (.if_icmp .ge 35, 3) := by decide +kernel
theorem dX6_isBeside_8 : decode cX6_isBeside 8 = .ok (.aload_n 0, 1) := by decide +kernel
theorem dX6_isBeside_9 : decode cX6_isBeside 9 = .ok (.iload_n 1, 1) := by decide +kernel
theorem dX6_isBeside_10 : decode cX6_isBeside 10 = .ok (.iload_n 2, 1) := by decide +kernel
theorem dX6_isBeside_11 : decode cX6_isBeside 11 = .ok (.invokevirtual 77, 3) := by decide +kernel
theorem dX6_isBeside_14 : decode cX6_isBeside 14 = .ok (.iconst (-1), 1) := by decide +kernel
theorem dX6_isBeside_15 : decode cX6_isBeside 15 = .ok (.if_icmp .eq 19, 3) := by decide +kernel
theorem dX6_isBeside_18 : decode cX6_isBeside 18 = .ok (.aload_n 0, 1) := by decide +kernel
theorem dX6_isBeside_19 : decode cX6_isBeside 19 = .ok (.getfield 30, 3) := by decide +kernel
theorem dX6_isBeside_22 : decode cX6_isBeside 22 = .ok (.aload_n 0, 1) := by decide +kernel
theorem dX6_isBeside_23 : decode cX6_isBeside 23 = .ok (.iload_n 1, 1) := by decide +kernel
theorem dX6_isBeside_24 : decode cX6_isBeside 24 = .ok (.iload_n 2, 1) := by decide +kernel
theorem dX6_isBeside_25 : decode cX6_isBeside 25 = .ok (.invokevirtual 77, 3) := by decide +kernel
theorem dX6_isBeside_28 : decode cX6_isBeside 28 = .ok (.baload, 1) := by decide +kernel
theorem dX6_isBeside_29 : decode cX6_isBeside 29 = .ok (.ifCond .eq 5, 3) := by decide +kernel
theorem dX6_isBeside_32 : decode cX6_isBeside 32 = .ok (.iconst 1, 1) := by decide +kernel
theorem dX6_isBeside_33 : decode cX6_isBeside 33 = .ok (.ireturn, 1) := by decide +kernel
theorem dX6_isBeside_34 : decode cX6_isBeside 34 = .ok (.iinc 2 1, 3) := by decide +kernel
theorem dX6_isBeside_37 : decode cX6_isBeside 37 = .ok (.goto (-35), 3) := by decide +kernel
theorem dX6_isBeside_40 : decode cX6_isBeside 40 = .ok (.iconst 0, 1) := by decide +kernel
theorem dX6_isBeside_41 : decode cX6_isBeside 41 = .ok (.ireturn, 1) := by decide +kernel
set_option maxRecDepth 20000 in
theorem ggX6_groups_X6_fields : GoodIn wsX6_groups wsX6_fields := goodIn_r _ [6, 7, 8, 41, 42, 43, 44, 45, 46, 47, 48, 49, 50, 51, 52, 53, 54, 55, 56, 57] (by decide +kernel) (by decide +kernel)
set_option maxRecDepth 20000 in
theorem gX6_groups_X6_fields : GoodIn wsX6_groups (wsV RX6 56 RX6 yX6_fields wsX6_fields) := goodIn_app (goodIn_of _ (by decide +kernel)) ggX6_groups_X6_fields
set_option maxRecDepth 20000 in
theorem ggX6_groups_X6_group : GoodIn wsX6_groups wsX6_group := goodIn_r _ [12, 13, 14, 15, 16, 5, 17, 1, 18, 19, 20, 21, 2, 3, 4, 6, 7, 8, 22, 23, 24, 25, 26, 27, 28, 29, 30, 31, 32, 33, 34, 35, 36, 37, 38, 39, 40, 41, 42, 43, 44, 45, 46, 47, 48, 49, 50, 51, 52, 53, 54, 55, 56, 57] (by decide +kernel) (by decide +kernel)
set_option maxRecDepth 20000 in
theorem gX6_groups_X6_group : GoodIn wsX6_groups (wsV RX6 121 RX6 yX6_group wsX6_group) := goodIn_app (goodIn_of _ (by decide +kernel)) ggX6_groups_X6_group
theorem dX6_groups_0 : decode cX6_groups 0 = .ok (.iconst 0, 1) := by decide +kernel
theorem dX6_groups_1 : decode cX6_groups 1 = .ok (.istore_n 2, 1) := by decide +kernel
theorem dX6_groups_2 : decode cX6_groups 2 = .ok (.iconst 0, 1) := by decide +kernel
theorem dX6_groups_3 : decode cX6_groups 3 = .ok (.istore_n 3, 1) := by decide +kernel
theorem dX6_groups_4 : decode cX6_groups 4 = .ok (.iload_n 3, 1) := by decide +kernel
theorem dX6_groups_5 : decode cX6_groups 5 = .ok (.aload_n 0, 1) := by decide +kernel
theorem dX6_groups_6 : decode cX6_groups 6 = .ok (.invokevirtual 56, 3) := by decide +kernel
theorem dX6_groups_9 : decode cX6_groups 9 = .ok (.if_icmp .ge 36, 3) := by decide +kernel
theorem dX6_groups_12 : decode cX6_groups 12 = .ok (.iload_n 2, 1) := by decide +kernel
theorem dX6_groups_13 : decode cX6_groups 13 = .ok (.aload_n 0, 1) := by decide +kernel
theorem dX6_groups_14 : decode cX6_groups 14 = .ok (.getfield 19, 3) := by decide +kernel
theorem dX6_groups_17 : decode cX6_groups 17 = .ok (.iload_n 3, 1) := by decide +kernel
theorem dX6_groups_18 : decode cX6_groups 18 = .ok (.iaload, 1) := by decide +kernel
theorem dX6_groups_19 : decode cX6_groups 19 = .ok (.iload_n 1, 1) := by decide +kernel
theorem dX6_groups_20 : decode cX6_groups 20 = .ok (.if_icmp .ne 16, 3) := by decide +kernel
theorem dX6_groups_23 : decode cX6_groups 23 = .ok (.aload_n 0, 1) := by decide +kernel
theorem dX6_groups_24 : decode cX6_groups 24 = .ok (.iload_n 3, 1) := by decide +kernel
theorem dX6_groups_25 : decode cX6_groups 25 = .ok (.invokevirtual 121, 3) := by decide +kernel
theorem dX6_groups_28 : decode cX6_groups 28 = .ok (.iload_n 3, 1) := by decide +kernel
theorem dX6_groups_29 : decode cX6_groups 29 = .ok (.if_icmp .ne 7, 3) := by decide +kernel
theorem dX6_groups_32 : decode cX6_groups 32 = .ok (.iconst 1, 1) := by decide +kernel
theorem dX6_groups_33 : decode cX6_groups 33 = .ok (.goto 4, 3) := by decide +kernel
theorem dX6_groups_36 : decode cX6_groups 36 = .ok (.iconst 0, 1) := by decide +kernel
theorem dX6_groups_37 : decode cX6_groups 37 = .ok (.iadd, 1) := by decide +kernel
theorem dX6_groups_38 : decode cX6_groups 38 = .ok (.istore_n 2, 1) := by decide +kernel
theorem dX6_groups_39 : decode cX6_groups 39 = .ok (.iinc 3 1, 3) := by decide +kernel
theorem dX6_groups_42 : decode cX6_groups 42 = .ok (.goto (-38), 3) := by decide +kernel
theorem dX6_groups_45 : decode cX6_groups 45 = .ok (.iload_n 2, 1) := by decide +kernel
theorem dX6_groups_46 : decode cX6_groups 46 = .ok (.ireturn, 1) := by decide +kernel
set_option maxRecDepth 20000 in
theorem ggX6_measures_X6_fields : GoodIn wsX6_measures wsX6_fields := goodIn_r _ [7, 8, 9, 24, 25, 26, 27, 28, 29, 30, 31, 32, 33, 34, 35, 36, 37, 38, 39, 40] (by decide +kernel) (by decide +kernel)
set_option maxRecDepth 20000 in
theorem gX6_measures_X6_fields : GoodIn wsX6_measures (wsV RX6 56 RX6 yX6_fields wsX6_fields) := goodIn_app (goodIn_of _ (by decide +kernel)) ggX6_measures_X6_fields
set_option maxRecDepth 20000 in
theorem ggX6_measures_X6_banks : GoodIn wsX6_measures wsX6_banks := goodIn_r _ [13, 9, 8, 24, 25, 26, 27, 28, 29, 30, 31, 32, 33, 34, 35, 36, 37, 38, 39, 40] (by decide +kernel) (by decide +kernel)
set_option maxRecDepth 20000 in
theorem gX6_measures_X6_banks : GoodIn wsX6_measures (wsV RX6 81 RX6 yX6_banks wsX6_banks) := goodIn_app (goodIn_of _ (by decide +kernel)) ggX6_measures_X6_banks
set_option maxRecDepth 20000 in
theorem ggX6_measures_X6_last : GoodIn wsX6_measures wsX6_last := goodIn_r _ [16] (by decide +kernel) (by decide +kernel)
set_option maxRecDepth 20000 in
theorem gX6_measures_X6_last : GoodIn wsX6_measures (va_wsS RX6 92 yX6_last wsX6_last) := goodIn_app (goodIn_of _ (by decide +kernel)) ggX6_measures_X6_last
set_option maxRecDepth 20000 in
theorem ggX6_measures_X6_beside : GoodIn wsX6_measures wsX6_beside := goodIn_r _ [20, 9, 8, 21, 22, 6, 23, 24, 25, 26, 27, 28, 29, 30, 31, 32, 33, 34, 35, 36, 37, 38, 39, 40] (by decide +kernel) (by decide +kernel)
set_option maxRecDepth 20000 in
theorem gX6_measures_X6_beside : GoodIn wsX6_measures (wsV RX6 77 RX6 yX6_beside wsX6_beside) := goodIn_app (goodIn_of _ (by decide +kernel)) ggX6_measures_X6_beside
theorem dX6_measures_0 : decode cX6_measures 0 = .ok (.iconst 0, 1) := by decide +kernel
theorem dX6_measures_1 : decode cX6_measures 1 = .ok (.istore_n 2, 1) := by decide +kernel
theorem dX6_measures_2 : decode cX6_measures 2 = .ok (.iload_n 2, 1) := by decide +kernel
theorem dX6_measures_3 : decode cX6_measures 3 = .ok (.aload_n 0, 1) := by decide +kernel
theorem dX6_measures_4 : decode cX6_measures 4 = .ok (.invokevirtual 56, 3) := by decide +kernel
theorem dX6_measures_7 : decode cX6_measures 7 = .ok (.if_icmp .ge 44, 3) := by decide +kernel
theorem dX6_measures_10 : decode cX6_measures 10 = .ok (.aload_n 0, 1) := by decide +kernel
theorem dX6_measures_11 : decode cX6_measures 11 = .ok (.getfield 37, 3) := by decide +kernel
theorem dX6_measures_14 : decode cX6_measures 14 = .ok (.iload_n 2, 1) := by decide +kernel
theorem dX6_measures_15 : decode cX6_measures 15 = .ok (.aload_n 0, 1) := by decide +kernel
theorem dX6_measures_16 : decode cX6_measures 16 = .ok (.getfield 19, 3) := by decide +kernel
theorem dX6_measures_19 : decode cX6_measures 19 = .ok (.iload_n 2, 1) := by decide +kernel
theorem dX6_measures_20 : decode cX6_measures 20 = .ok (.iaload, 1) := by decide +kernel
theorem dX6_measures_21 : decode cX6_measures 21 = .ok (.iload_n 1, 1) := by decide +kernel
theorem dX6_measures_22 : decode cX6_measures 22 = .ok (.if_icmp .ne 20, 3) := by decide +kernel
theorem dX6_measures_25 : decode cX6_measures 25 = .ok (.aload_n 0, 1) := by decide +kernel
theorem dX6_measures_26 : decode cX6_measures 26 = .ok (.iload_n 2, 1) := by decide +kernel
theorem dX6_measures_27 : decode cX6_measures 27 = .ok (.invokevirtual 81, 3) := by decide +kernel
theorem dX6_measures_30 : decode cX6_measures 30 = .ok (.iload_n 1, 1) := by decide +kernel
theorem dX6_measures_31 : decode cX6_measures 31 = .ok (.invokestatic 92, 3) := by decide +kernel
theorem dX6_measures_34 : decode cX6_measures 34 = .ok (.iand, 1) := by decide +kernel
theorem dX6_measures_35 : decode cX6_measures 35 = .ok (.ifCond .eq 7, 3) := by decide +kernel
theorem dX6_measures_38 : decode cX6_measures 38 = .ok (.iconst 1, 1) := by decide +kernel
theorem dX6_measures_39 : decode cX6_measures 39 = .ok (.goto 5, 3) := by decide +kernel
theorem dX6_measures_42 : decode cX6_measures 42 = .ok (.bipush 100, 2) := by decide +kernel
theorem dX6_measures_44 : decode cX6_measures 44 = .ok (.iastore, 1) := by decide +kernel
theorem dX6_measures_45 : decode cX6_measures 45 = .ok (.iinc 2 1, 3) := by decide +kernel
theorem dX6_measures_48 : decode cX6_measures 48 = .ok (.goto (-46), 3) := by decide +kernel
theorem dX6_measures_51 : decode cX6_measures 51 = .ok (.iconst 2, 1) := by decide +kernel
theorem dX6_measures_52 : decode cX6_measures 52 = .ok (.istore_n 2, 1) := by decide +kernel
theorem dX6_measures_53 : decode cX6_measures 53 = .ok (.iload_n 2, 1) := by decide +kernel
theorem dX6_measures_54 : decode cX6_measures 54 = .ok (.bipush 36, 2) := by decide +kernel
theorem dX6_measures_56 : decode cX6_measures 56 = .ok (.if_icmp .gt 101, 3) := by decide +kernel
theorem dX6_measures_59 : decode cX6_measures 59 = .ok (.iconst 0, 1) := by decide +kernel
theorem dX6_measures_60 : decode cX6_measures 60 = .ok (.istore_n 3, 1) := by decide +kernel
theorem dX6_measures_61 : decode cX6_measures 61 = .ok (.iload_n 3, 1) := by decide +kernel
theorem dX6_measures_62 : decode cX6_measures 62 = .ok (.aload_n 0, 1) := by decide +kernel
theorem dX6_measures_63 : decode cX6_measures 63 = .ok (.invokevirtual 56, 3) := by decide +kernel
theorem dX6_measures_66 : decode cX6_measures 66 = .ok (.if_icmp .ge 85, 3) := by decide +kernel
theorem dX6_measures_69 : decode cX6_measures 69 = .ok (.aload_n 0, 1) := by decide +kernel
theorem dX6_measures_70 : decode cX6_measures 70 = .ok (.getfield 19, 3) := by decide +kernel
theorem dX6_measures_73 : decode cX6_measures 73 = .ok (.iload_n 3, 1) := by decide +kernel
theorem dX6_measures_74 : decode cX6_measures 74 = .ok (.iaload, 1) := by decide +kernel
theorem dX6_measures_75 : decode cX6_measures 75 = .ok (.iload_n 1, 1) := by decide +kernel
theorem dX6_measures_76 : decode cX6_measures 76 = .ok (.if_icmp .ne 69, 3) := by decide +kernel
theorem dX6_measures_79 : decode cX6_measures 79 = .ok (.aload_n 0, 1) := by decide +kernel
theorem dX6_measures_80 : decode cX6_measures 80 = .ok (.getfield 37, 3) := by decide +kernel
theorem dX6_measures_83 : decode cX6_measures 83 = .ok (.iload_n 3, 1) := by decide +kernel
theorem dX6_measures_84 : decode cX6_measures 84 = .ok (.iaload, 1) := by decide +kernel
theorem dX6_measures_85 : decode cX6_measures 85 = .ok (.bipush 100, 2) := by decide +kernel
theorem dX6_measures_87 : decode cX6_measures 87 = .ok (.if_icmp .ge 6, 3) := by decide +kernel
theorem dX6_measures_90 : decode cX6_measures 90 = .ok (.goto 55, 3) := by decide +kernel
theorem dX6_measures_93 : decode cX6_measures 93 = .ok (.iconst 0, 1) := by decide +kernel
theorem dX6_measures_94 : decode cX6_measures 94 = .ok (.istore 4, 2) := by decide +kernel
theorem dX6_measures_96 : decode cX6_measures 96 = .ok (.iload 4, 2) := by decide +kernel
theorem dX6_measures_98 : decode cX6_measures 98 = .ok (.bipush 6, 2) := by decide +kernel
theorem dX6_measures_100 : decode cX6_measures 100 = .ok (.if_icmp .ge 45, 3) := by decide +kernel
theorem dX6_measures_103 : decode cX6_measures 103 = .ok (.aload_n 0, 1) := by decide +kernel
theorem dX6_measures_104 : decode cX6_measures 104 = .ok (.iload_n 3, 1) := by decide +kernel
theorem dX6_measures_105 : decode cX6_measures 105 = .ok (.iload 4, 2) := by decide +kernel
theorem dX6_measures_107 : decode cX6_measures 107 = .ok (.invokevirtual 77, 3) := by decide +kernel
theorem dX6_measures_110 : decode cX6_measures 110 = .ok (.iconst (-1), 1) := by decide +kernel
theorem dX6_measures_111 : decode cX6_measures 111 = .ok (.if_icmp .eq 28, 3) := by decide +kernel
theorem dX6_measures_114 : decode cX6_measures 114 = .ok (.aload_n 0, 1) := by decide +kernel
theorem dX6_measures_115 : decode cX6_measures 115 = .ok (.getfield 37, 3) := by decide +kernel
theorem dX6_measures_118 : decode cX6_measures 118 = .ok (.aload_n 0, 1) := by decide +kernel
theorem dX6_measures_119 : decode cX6_measures 119 = .ok (.iload_n 3, 1) := by decide +kernel
theorem dX6_measures_120 : decode cX6_measures 120 = .ok (.iload 4, 2) := by decide +kernel
theorem dX6_measures_122 : decode cX6_measures 122 = .ok (.invokevirtual 77, 3) := by decide +kernel
theorem dX6_measures_125 : decode cX6_measures 125 = .ok (.iaload, 1) := by decide +kernel
theorem dX6_measures_126 : decode cX6_measures 126 = .ok (.iload_n 2, 1) := by decide +kernel
theorem dX6_measures_127 : decode cX6_measures 127 = .ok (.iconst 1, 1) := by decide +kernel
theorem dX6_measures_128 : decode cX6_measures 128 = .ok (.isub, 1) := by decide +kernel
theorem dX6_measures_129 : decode cX6_measures 129 = .ok (.if_icmp .ne 10, 3) := by decide +kernel
theorem dX6_measures_132 : decode cX6_measures 132 = .ok (.aload_n 0, 1) := by decide +kernel
theorem dX6_measures_133 : decode cX6_measures 133 = .ok (.getfield 37, 3) := by decide +kernel
theorem dX6_measures_136 : decode cX6_measures 136 = .ok (.iload_n 3, 1) := by decide +kernel
theorem dX6_measures_137 : decode cX6_measures 137 = .ok (.iload_n 2, 1) := by decide +kernel
theorem dX6_measures_138 : decode cX6_measures 138 = .ok (.iastore, 1) := by decide +kernel
theorem dX6_measures_139 : decode cX6_measures 139 = .ok (.iinc 4 1, 3) := by decide +kernel
theorem dX6_measures_142 : decode cX6_measures 142 = .ok (.goto (-46), 3) := by decide +kernel
theorem dX6_measures_145 : decode cX6_measures 145 = .ok (.iinc 3 1, 3) := by decide +kernel
theorem dX6_measures_148 : decode cX6_measures 148 = .ok (.goto (-87), 3) := by decide +kernel
theorem dX6_measures_151 : decode cX6_measures 151 = .ok (.iinc 2 1, 3) := by decide +kernel
theorem dX6_measures_154 : decode cX6_measures 154 = .ok (.goto (-101), 3) := by decide +kernel
theorem dX6_measures_157 : decode cX6_measures 157 = .ok (.return_, 1) := by decide +kernel
set_option maxRecDepth 20000 in
theorem ggX6_wayLong_X6_joined : GoodIn wsX6_wayLong wsX6_joined := goodIn_r _ [6, 7, 8, 9, 5, 10, 11, 12, 13, 14, 15, 16, 17, 18, 19, 20, 21, 22, 23, 24, 25, 26, 27, 28, 29, 30, 31, 32, 33, 34, 35, 36, 37, 38, 39, 44, 45, 46, 47, 48, 49, 50, 51, 52, 53, 54, 55, 56, 57, 58, 59, 60] (by decide +kernel) (by decide +kernel)
