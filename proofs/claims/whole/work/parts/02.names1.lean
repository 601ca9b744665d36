theorem dX2_westBank_1 : decode cX2_westBank 1 = .ok (.getfield 32, 3) := by decide +kernel
theorem dX2_westBank_4 : decode cX2_westBank 4 = .ok (.lreturn, 1) := by decide +kernel
theorem dX2_eastBank_0 : decode cX2_eastBank 0 = .ok (.aload_n 0, 1) := by decide +kernel
theorem dX2_eastBank_1 : decode cX2_eastBank 1 = .ok (.getfield 35, 3) := by decide +kernel
theorem dX2_eastBank_4 : decode cX2_eastBank 4 = .ok (.lreturn, 1) := by decide +kernel
theorem dX2_has_0 : decode cX2_has 0 = .ok (.iload_n 1, 1) := by decide +kernel
theorem dX2_has_1 : decode cX2_has 1 = .ok (.ifCond .lt 20, 3) := by decide +kernel
theorem dX2_has_4 : decode cX2_has 4 = .ok (.iload_n 1, 1) := by decide +kernel
theorem dX2_has_5 : decode cX2_has 5 = .ok (.aload_n 0, 1) := by decide +kernel
theorem dX2_has_6 : decode cX2_has 6 = .ok (.getfield 9, 3) := by decide +kernel
theorem dX2_has_9 : decode cX2_has 9 = .ok (.aload_n 0, 1) := by decide +kernel
theorem dX2_has_10 : decode cX2_has 10 = .ok (.getfield 15, 3) := by decide +kernel
theorem dX2_has_13 : decode cX2_has 13 = .ok (.imul, 1) := by decide +kernel
theorem dX2_has_14 : decode cX2_has 14 = .ok (.if_icmp .ge 7, 3) := by decide +kernel
theorem dX2_has_17 : decode cX2_has 17 = .ok (.iconst 1, 1) := by decide +kernel
theorem dX2_has_18 : decode cX2_has 18 = .ok (.goto 4, 3) := by decide +kernel
theorem dX2_has_21 : decode cX2_has 21 = .ok (.iconst 0, 1) := by decide +kernel
theorem dX2_has_22 : decode cX2_has 22 = .ok (.ireturn, 1) := by decide +kernel
theorem dX2_beside_0 : decode cX2_beside 0 = .ok (.lload_n 1, 1) := by decide +kernel
theorem dX2_beside_1 : decode cX2_beside 1 = .ok (.aload_n 0, 1) := by decide +kernel
theorem dX2_beside_2 : decode cX2_beside 2 = .ok (.getfield 35, 3) := by decide +kernel
theorem dX2_beside_5 : decode cX2_beside 5 = .ok (.ldc2_w 38, 3) := by decide +kernel
theorem dX2_beside_8 : decode cX2_beside 8 = .ok (.lxor, 1) := by decide +kernel
theorem dX2_beside_9 : decode cX2_beside 9 = .ok (.land, 1) := by decide +kernel
theorem dX2_beside_10 : decode cX2_beside 10 = .ok (.lstore_n 3, 1) := by decide +kernel
theorem dX2_beside_11 : decode cX2_beside 11 = .ok (.lload_n 1, 1) := by decide +kernel
theorem dX2_beside_12 : decode cX2_beside 12 = .ok (.aload_n 0, 1) := by decide +kernel
theorem dX2_beside_13 : decode cX2_beside 13 = .ok (.getfield 32, 3) := by decide +kernel
theorem dX2_beside_16 : decode cX2_beside 16 = .ok (.ldc2_w 38, 3) := by decide +kernel
theorem dX2_beside_19 : decode cX2_beside 19 = .ok (.lxor, 1) := by decide +kernel
theorem dX2_beside_20 : decode cX2_beside 20 = .ok (.land, 1) := by decide +kernel
theorem dX2_beside_21 : decode cX2_beside 21 = .ok (.lstore 5, 2) := by decide +kernel
theorem dX2_beside_23 : decode cX2_beside 23 = .ok (.lload_n 3, 1) := by decide +kernel
theorem dX2_beside_24 : decode cX2_beside 24 = .ok (.iconst 1, 1) := by decide +kernel
theorem dX2_beside_25 : decode cX2_beside 25 = .ok (.lshl, 1) := by decide +kernel
theorem dX2_beside_26 : decode cX2_beside 26 = .ok (.lload 5, 2) := by decide +kernel
theorem dX2_beside_28 : decode cX2_beside 28 = .ok (.iconst 1, 1) := by decide +kernel
theorem dX2_beside_29 : decode cX2_beside 29 = .ok (.lushr, 1) := by decide +kernel
theorem dX2_beside_30 : decode cX2_beside 30 = .ok (.lor, 1) := by decide +kernel
theorem dX2_beside_31 : decode cX2_beside 31 = .ok (.lstore 7, 2) := by decide +kernel
theorem dX2_beside_33 : decode cX2_beside 33 = .ok (.lload_n 1, 1) := by decide +kernel
theorem dX2_beside_34 : decode cX2_beside 34 = .ok (.aload_n 0, 1) := by decide +kernel
theorem dX2_beside_35 : decode cX2_beside 35 = .ok (.getfield 15, 3) := by decide +kernel
theorem dX2_beside_38 : decode cX2_beside 38 = .ok (.lshl, 1) := by decide +kernel
theorem dX2_beside_39 : decode cX2_beside 39 = .ok (.lload_n 1, 1) := by decide +kernel
theorem dX2_beside_40 : decode cX2_beside 40 = .ok (.aload_n 0, 1) := by decide +kernel
theorem dX2_beside_41 : decode cX2_beside 41 = .ok (.getfield 15, 3) := by decide +kernel
theorem dX2_beside_44 : decode cX2_beside 44 = .ok (.lushr, 1) := by decide +kernel
theorem dX2_beside_45 : decode cX2_beside 45 = .ok (.lor, 1) := by decide +kernel
theorem dX2_beside_46 : decode cX2_beside 46 = .ok (.lstore 9, 2) := by decide +kernel
theorem dX2_beside_48 : decode cX2_beside 48 = .ok (.lload_n 3, 1) := by decide +kernel
theorem dX2_beside_49 : decode cX2_beside 49 = .ok (.aload_n 0, 1) := by decide +kernel
theorem dX2_beside_50 : decode cX2_beside 50 = .ok (.getfield 15, 3) := by decide +kernel
theorem dX2_beside_53 : decode cX2_beside 53 = .ok (.iconst 1, 1) := by decide +kernel
theorem dX2_beside_54 : decode cX2_beside 54 = .ok (.isub, 1) := by decide +kernel
theorem dX2_beside_55 : decode cX2_beside 55 = .ok (.lushr, 1) := by decide +kernel
theorem dX2_beside_56 : decode cX2_beside 56 = .ok (.lload 5, 2) := by decide +kernel
theorem dX2_beside_58 : decode cX2_beside 58 = .ok (.aload_n 0, 1) := by decide +kernel
theorem dX2_beside_59 : decode cX2_beside 59 = .ok (.getfield 15, 3) := by decide +kernel
theorem dX2_beside_62 : decode cX2_beside 62 = .ok (.iconst 1, 1) := by decide +kernel
theorem dX2_beside_63 : decode cX2_beside 63 = .ok (.isub, 1) := by decide +kernel
theorem dX2_beside_64 : decode cX2_beside 64 = .ok (.lshl, 1) := by decide +kernel
theorem dX2_beside_65 : decode cX2_beside 65 = .ok (.lor, 1) := by decide +kernel
theorem dX2_beside_66 : decode cX2_beside 66 = .ok (.lstore 11, 2) := by decide +kernel
theorem dX2_beside_68 : decode cX2_beside 68 = .ok (.lload 7, 2) := by decide +kernel
theorem dX2_beside_70 : decode cX2_beside 70 = .ok (.lload 9, 2) := by decide +kernel
theorem dX2_beside_72 : decode cX2_beside 72 = .ok (.lor, 1) := by decide +kernel
theorem dX2_beside_73 : decode cX2_beside 73 = .ok (.lload 11, 2) := by decide +kernel
theorem dX2_beside_75 : decode cX2_beside 75 = .ok (.lor, 1) := by decide +kernel
theorem dX2_beside_76 : decode cX2_beside 76 = .ok (.aload_n 0, 1) := by decide +kernel
theorem dX2_beside_77 : decode cX2_beside 77 = .ok (.getfield 22, 3) := by decide +kernel
theorem dX2_beside_80 : decode cX2_beside 80 = .ok (.land, 1) := by decide +kernel
theorem dX2_beside_81 : decode cX2_beside 81 = .ok (.lreturn, 1) := by decide +kernel
set_option maxRecDepth 20000 in
theorem ggX2_spread_X2_beside : GoodIn wsX2_spread wsX2_beside := goodIn_r _ [5, 6, 7, 8, 9, 10, 11, 12, 13, 14, 15, 16, 17] (by decide +kernel) (by decide +kernel)
set_option maxRecDepth 20000 in
theorem gX2_spread_X2_beside : GoodIn wsX2_spread (wsV RX2 40 RX2 yX2_beside wsX2_beside) := goodIn_app (goodIn_of _ (by decide +kernel)) ggX2_spread_X2_beside
theorem dX2_spread_0 : decode cX2_spread 0 = .ok (.lload_n 1, 1) := by decide +kernel
theorem dX2_spread_1 : decode cX2_spread 1 = .ok (.lload_n 3, 1) := by decide +kernel
theorem dX2_spread_2 : decode cX2_spread 2 = .ok (.land, 1) := by decide +kernel
theorem dX2_spread_3 : decode cX2_spread 3 = .ok (.lstore 5, 2) := by decide +kernel
theorem dX2_spread_5 : decode cX2_spread 5 = .ok (.iconst 0, 1) := by decide +kernel
theorem dX2_spread_6 : decode cX2_spread 6 = .ok (.istore 7, 2) := by decide +kernel
theorem dX2_spread_8 : decode cX2_spread 8 = .ok (.iload 7, 2) := by decide +kernel
theorem dX2_spread_10 : decode cX2_spread 10 = .ok (.bipush 36, 2) := by decide +kernel
theorem dX2_spread_12 : decode cX2_spread 12 = .ok (.if_icmp .ge 37, 3) := by decide +kernel
theorem dX2_spread_15 : decode cX2_spread 15 = .ok (.lload 5, 2) := by decide +kernel
theorem dX2_spread_17 : decode cX2_spread 17 = .ok (.aload_n 0, 1) := by decide +kernel
theorem dX2_spread_18 : decode cX2_spread 18 = .ok (.lload 5, 2) := by decide +kernel
theorem dX2_spread_20 : decode cX2_spread 20 = .ok (.invokevirtual 40, 3) := by decide +kernel
theorem dX2_spread_23 : decode cX2_spread 23 = .ok (.lor, 1) := by decide +kernel
theorem dX2_spread_24 : decode cX2_spread 24 = .ok (.lload_n 3, 1) := by decide +kernel
theorem dX2_spread_25 : decode cX2_spread 25 = .ok (.land, 1) := by decide +kernel
theorem dX2_spread_26 : decode cX2_spread 26 = .ok (.lstore 8, 2) := by decide +kernel
theorem dX2_spread_28 : decode cX2_spread 28 = .ok (.lload 8, 2) := by decide +kernel
theorem dX2_spread_30 : decode cX2_spread 30 = .ok (.lload 5, 2) := by decide +kernel
theorem dX2_spread_32 : decode cX2_spread 32 = .ok (.lcmp, 1) := by decide +kernel
theorem dX2_spread_33 : decode cX2_spread 33 = .ok (.ifCond .ne 6, 3) := by decide +kernel
theorem dX2_spread_36 : decode cX2_spread 36 = .ok (.lload 5, 2) := by decide +kernel
theorem dX2_spread_38 : decode cX2_spread 38 = .ok (.lreturn, 1) := by decide +kernel
theorem dX2_spread_39 : decode cX2_spread 39 = .ok (.lload 8, 2) := by decide +kernel
theorem dX2_spread_41 : decode cX2_spread 41 = .ok (.lstore 5, 2) := by decide +kernel
theorem dX2_spread_43 : decode cX2_spread 43 = .ok (.iinc 7 1, 3) := by decide +kernel
theorem dX2_spread_46 : decode cX2_spread 46 = .ok (.goto (-38), 3) := by decide +kernel
theorem dX2_spread_49 : decode cX2_spread 49 = .ok (.lload 5, 2) := by decide +kernel
theorem dX2_spread_51 : decode cX2_spread 51 = .ok (.lreturn, 1) := by decide +kernel
set_option maxRecDepth 20000 in
theorem ggX2_joins_X2_spread : GoodIn wsX2_joins wsX2_spread := goodIn_r _ [5, 6, 7, 8, 4, 9, 10, 11, 12, 13, 14, 15, 16, 17, 18, 19, 20, 21] (by decide +kernel) (by decide +kernel)
set_option maxRecDepth 20000 in
theorem gX2_joins_X2_spread : GoodIn wsX2_joins (wsV RX2 44 RX2 yX2_spread wsX2_spread) := goodIn_app (goodIn_of _ (by decide +kernel)) ggX2_joins_X2_spread
theorem dX2_joins_0 : decode cX2_joins 0 = .ok (.aload_n 0, 1) := by decide +kernel
theorem dX2_joins_1 : decode cX2_joins 1 = .ok (.lload_n 3, 1) := by decide +kernel
theorem dX2_joins_2 : decode cX2_joins 2 = .ok (.lload_n 1, 1) := by decide +kernel
theorem dX2_joins_3 : decode cX2_joins 3 = .ok (.invokevirtual 44, 3) := by decide +kernel
theorem dX2_joins_6 : decode cX2_joins 6 = .ok (.lload 5, 2) := by decide +kernel
theorem dX2_joins_8 : decode cX2_joins 8 = .ok (.land, 1) := by decide +kernel
theorem dX2_joins_9 : decode cX2_joins 9 = .ok (.lconst 0, 1) := by decide +kernel
theorem dX2_joins_10 : decode cX2_joins 10 = .ok (.lcmp, 1) := by decide +kernel
theorem dX2_joins_11 : decode cX2_joins 11 = .ok (.ifCond .eq 7, 3) := by decide +kernel
theorem dX2_joins_14 : decode cX2_joins 14 = .ok (.iconst 1, 1) := by decide +kernel
theorem dX2_joins_15 : decode cX2_joins 15 = .ok (.goto 4, 3) := by decide +kernel
theorem dX2_joins_18 : decode cX2_joins 18 = .ok (.iconst 0, 1) := by decide +kernel
theorem dX2_joins_19 : decode cX2_joins 19 = .ok (.ireturn, 1) := by decide +kernel
set_option maxRecDepth 20000 in
theorem ggX2_groupsOf_X2_spread : GoodIn wsX2_groupsOf wsX2_spread := goodIn_r _ [6, 7, 8, 9, 5, 10, 11, 1, 12, 13, 14, 15, 16, 17, 18, 19, 20, 21] (by decide +kernel) (by decide +kernel)
set_option maxRecDepth 20000 in
theorem gX2_groupsOf_X2_spread : GoodIn wsX2_groupsOf (wsV RX2 44 RX2 yX2_spread wsX2_spread) := goodIn_app (goodIn_of _ (by decide +kernel)) ggX2_groupsOf_X2_spread
theorem dX2_groupsOf_0 : decode cX2_groupsOf 0 = .ok (.iconst 0, 1) := by decide +kernel
theorem dX2_groupsOf_1 : decode cX2_groupsOf 1 = .ok (.istore_n 3, 1) := by decide +kernel
theorem dX2_groupsOf_2 : decode cX2_groupsOf 2 = .ok (.lload_n 1, 1) := by decide +kernel
theorem dX2_groupsOf_3 : decode cX2_groupsOf 3 = .ok (.lstore 4, 2) := by decide +kernel
theorem dX2_groupsOf_5 : decode cX2_groupsOf 5 = .ok (.iconst 0, 1) := by decide +kernel
theorem dX2_groupsOf_6 : decode cX2_groupsOf 6 = .ok (.istore 6, 2) := by decide +kernel
theorem dX2_groupsOf_8 : decode cX2_groupsOf 8 = .ok (.iload 6, 2) := by decide +kernel
theorem dX2_groupsOf_10 : decode cX2_groupsOf 10 = .ok (.bipush 36, 2) := by decide +kernel
theorem dX2_groupsOf_12 : decode cX2_groupsOf 12 = .ok (.if_icmp .ge 39, 3) := by decide +kernel
theorem dX2_groupsOf_15 : decode cX2_groupsOf 15 = .ok (.lload 4, 2) := by decide +kernel
theorem dX2_groupsOf_17 : decode cX2_groupsOf 17 = .ok (.lconst 0, 1) := by decide +kernel
theorem dX2_groupsOf_18 : decode cX2_groupsOf 18 = .ok (.lcmp, 1) := by decide +kernel
theorem dX2_groupsOf_19 : decode cX2_groupsOf 19 = .ok (.ifCond .eq 32, 3) := by decide +kernel
theorem dX2_groupsOf_22 : decode cX2_groupsOf 22 = .ok (.lload 4, 2) := by decide +kernel
theorem dX2_groupsOf_24 : decode cX2_groupsOf 24 = .ok (.aload_n 0, 1) := by decide +kernel
theorem dX2_groupsOf_25 : decode cX2_groupsOf 25 = .ok (.lload 4, 2) := by decide +kernel
theorem dX2_groupsOf_27 : decode cX2_groupsOf 27 = .ok (.lload 4, 2) := by decide +kernel
theorem dX2_groupsOf_29 : decode cX2_groupsOf 29 = .ok (.lneg, 1) := by decide +kernel
theorem dX2_groupsOf_30 : decode cX2_groupsOf 30 = .ok (.land, 1) := by decide +kernel
theorem dX2_groupsOf_31 : decode cX2_groupsOf 31 = .ok (.lload_n 1, 1) := by decide +kernel
theorem dX2_groupsOf_32 : decode cX2_groupsOf 32 = .ok (.invokevirtual 44, 3) := by decide +kernel
theorem dX2_groupsOf_35 : decode cX2_groupsOf 35 = .ok (.ldc2_w 38, 3) := by decide +kernel
theorem dX2_groupsOf_38 : decode cX2_groupsOf 38 = .ok (.lxor, 1) := by decide +kernel
theorem dX2_groupsOf_39 : decode cX2_groupsOf 39 = .ok (.land, 1) := by decide +kernel
theorem dX2_groupsOf_40 : decode cX2_groupsOf 40 = .ok (.lstore 4, 2) := by decide +kernel
theorem dX2_groupsOf_42 : decode cX2_groupsOf 42 = .ok (.iinc 3 1, 3) := by decide +kernel
theorem dX2_groupsOf_45 : decode cX2_groupsOf 45 = .ok (.iinc 6 1, 3) := by decide +kernel
theorem dX2_groupsOf_48 : decode cX2_groupsOf 48 = .ok (.goto (-40), 3) := by decide +kernel
theorem dX2_groupsOf_51 : decode cX2_groupsOf 51 = .ok (.iload_n 3, 1) := by decide +kernel
theorem dX2_groupsOf_52 : decode cX2_groupsOf 52 = .ok (.ireturn, 1) := by decide +kernel
theorem dX2_banksOf_0 : decode cX2_banksOf 0 = .ok (.lload_n 1, 1) := by decide +kernel
theorem dX2_banksOf_1 : decode cX2_banksOf 1 = .ok (.aload_n 0, 1) := by decide +kernel
theorem dX2_banksOf_2 : decode cX2_banksOf 2 = .ok (.getfield 26, 3) := by decide +kernel
theorem dX2_banksOf_5 : decode cX2_banksOf 5 = .ok (.land, 1) := by decide +kernel
theorem dX2_banksOf_6 : decode cX2_banksOf 6 = .ok (.lconst 0, 1) := by decide +kernel
theorem dX2_banksOf_7 : decode cX2_banksOf 7 = .ok (.lcmp, 1) := by decide +kernel
theorem dX2_banksOf_8 : decode cX2_banksOf 8 = .ok (.ifCond .eq 7, 3) := by decide +kernel
theorem dX2_banksOf_11 : decode cX2_banksOf 11 = .ok (.iconst 1, 1) := by decide +kernel
theorem dX2_banksOf_12 : decode cX2_banksOf 12 = .ok (.goto 4, 3) := by decide +kernel
theorem dX2_banksOf_15 : decode cX2_banksOf 15 = .ok (.iconst 0, 1) := by decide +kernel
theorem dX2_banksOf_16 : decode cX2_banksOf 16 = .ok (.istore_n 3, 1) := by decide +kernel
theorem dX2_banksOf_17 : decode cX2_banksOf 17 = .ok (.iload_n 3, 1) := by decide +kernel
theorem dX2_banksOf_18 : decode cX2_banksOf 18 = .ok (.lload_n 1, 1) := by decide +kernel
theorem dX2_banksOf_19 : decode cX2_banksOf 19 = .ok (.aload_n 0, 1) := by decide +kernel
theorem dX2_banksOf_20 : decode cX2_banksOf 20 = .ok (.getfield 29, 3) := by decide +kernel
theorem dX2_banksOf_23 : decode cX2_banksOf 23 = .ok (.land, 1) := by decide +kernel
theorem dX2_banksOf_24 : decode cX2_banksOf 24 = .ok (.lconst 0, 1) := by decide +kernel
theorem dX2_banksOf_25 : decode cX2_banksOf 25 = .ok (.lcmp, 1) := by decide +kernel
theorem dX2_banksOf_26 : decode cX2_banksOf 26 = .ok (.ifCond .eq 7, 3) := by decide +kernel
theorem dX2_banksOf_29 : decode cX2_banksOf 29 = .ok (.iconst 2, 1) := by decide +kernel
theorem dX2_banksOf_30 : decode cX2_banksOf 30 = .ok (.goto 4, 3) := by decide +kernel
theorem dX2_banksOf_33 : decode cX2_banksOf 33 = .ok (.iconst 0, 1) := by decide +kernel
theorem dX2_banksOf_34 : decode cX2_banksOf 34 = .ok (.ior, 1) := by decide +kernel
theorem dX2_banksOf_35 : decode cX2_banksOf 35 = .ok (.istore_n 3, 1) := by decide +kernel
theorem dX2_banksOf_36 : decode cX2_banksOf 36 = .ok (.iload_n 3, 1) := by decide +kernel
theorem dX2_banksOf_37 : decode cX2_banksOf 37 = .ok (.lload_n 1, 1) := by decide +kernel
theorem dX2_banksOf_38 : decode cX2_banksOf 38 = .ok (.aload_n 0, 1) := by decide +kernel
theorem dX2_banksOf_39 : decode cX2_banksOf 39 = .ok (.getfield 32, 3) := by decide +kernel
theorem dX2_banksOf_42 : decode cX2_banksOf 42 = .ok (.land, 1) := by decide +kernel
theorem dX2_banksOf_43 : decode cX2_banksOf 43 = .ok (.lconst 0, 1) := by decide +kernel
theorem dX2_banksOf_44 : decode cX2_banksOf 44 = .ok (.lcmp, 1) := by decide +kernel
theorem dX2_banksOf_45 : decode cX2_banksOf 45 = .ok (.ifCond .eq 7, 3) := by decide +kernel
theorem dX2_banksOf_48 : decode cX2_banksOf 48 = .ok (.iconst 4, 1) := by decide +kernel
theorem dX2_banksOf_49 : decode cX2_banksOf 49 = .ok (.goto 4, 3) := by decide +kernel
theorem dX2_banksOf_52 : decode cX2_banksOf 52 = .ok (.iconst 0, 1) := by decide +kernel
theorem dX2_banksOf_53 : decode cX2_banksOf 53 = .ok (.ior, 1) := by decide +kernel
theorem dX2_banksOf_54 : decode cX2_banksOf 54 = .ok (.istore_n 3, 1) := by decide +kernel
theorem dX2_banksOf_55 : decode cX2_banksOf 55 = .ok (.iload_n 3, 1) := by decide +kernel
theorem dX2_banksOf_56 : decode cX2_banksOf 56 = .ok (.lload_n 1, 1) := by decide +kernel
theorem dX2_banksOf_57 : decode cX2_banksOf 57 = .ok (.aload_n 0, 1) := by decide +kernel
theorem dX2_banksOf_58 : decode cX2_banksOf 58 = .ok (.getfield 35, 3) := by decide +kernel
theorem dX2_banksOf_61 : decode cX2_banksOf 61 = .ok (.land, 1) := by decide +kernel
theorem dX2_banksOf_62 : decode cX2_banksOf 62 = .ok (.lconst 0, 1) := by decide +kernel
theorem dX2_banksOf_63 : decode cX2_banksOf 63 = .ok (.lcmp, 1) := by decide +kernel
theorem dX2_banksOf_64 : decode cX2_banksOf 64 = .ok (.ifCond .eq 8, 3) := by decide +kernel
theorem dX2_banksOf_67 : decode cX2_banksOf 67 = .ok (.bipush 8, 2) := by decide +kernel
theorem dX2_banksOf_69 : decode cX2_banksOf 69 = .ok (.goto 4, 3) := by decide +kernel
theorem dX2_banksOf_72 : decode cX2_banksOf 72 = .ok (.iconst 0, 1) := by decide +kernel
theorem dX2_banksOf_73 : decode cX2_banksOf 73 = .ok (.ior, 1) := by decide +kernel
theorem dX2_banksOf_74 : decode cX2_banksOf 74 = .ok (.istore_n 3, 1) := by decide +kernel
theorem dX2_banksOf_75 : decode cX2_banksOf 75 = .ok (.iload_n 3, 1) := by decide +kernel
theorem dX2_banksOf_76 : decode cX2_banksOf 76 = .ok (.ireturn, 1) := by decide +kernel
set_option maxRecDepth 20000 in
theorem ggX2_turned_X5_bit : GoodIn wsX2_turned wsX5_bit := goodIn_r _ [5] (by decide +kernel) (by decide +kernel)
set_option maxRecDepth 20000 in
theorem gX2_turned_X5_bit_n18 : GoodIn wsX2_turned (wsX5_bit) := ggX2_turned_X5_bit
theorem dX2_turned_0 : decode cX2_turned 0 = .ok (.lconst 0, 1) := by decide +kernel
theorem dX2_turned_1 : decode cX2_turned 1 = .ok (.lstore_n 3, 1) := by decide +kernel
theorem dX2_turned_2 : decode cX2_turned 2 = .ok (.iconst 0, 1) := by decide +kernel
theorem dX2_turned_3 : decode cX2_turned 3 = .ok (.istore 5, 2) := by decide +kernel
theorem dX2_turned_5 : decode cX2_turned 5 = .ok (.iload 5, 2) := by decide +kernel
theorem dX2_turned_7 : decode cX2_turned 7 = .ok (.aload_n 0, 1) := by decide +kernel
theorem dX2_turned_8 : decode cX2_turned 8 = .ok (.getfield 9, 3) := by decide +kernel
theorem dX2_turned_11 : decode cX2_turned 11 = .ok (.if_icmp .ge 63, 3) := by decide +kernel
theorem dX2_turned_14 : decode cX2_turned 14 = .ok (.iconst 0, 1) := by decide +kernel
theorem dX2_turned_15 : decode cX2_turned 15 = .ok (.istore 6, 2) := by decide +kernel
theorem dX2_turned_17 : decode cX2_turned 17 = .ok (.iload 6, 2) := by decide +kernel
theorem dX2_turned_19 : decode cX2_turned 19 = .ok (.aload_n 0, 1) := by decide +kernel
theorem dX2_turned_20 : decode cX2_turned 20 = .ok (.getfield 15, 3) := by decide +kernel
theorem dX2_turned_23 : decode cX2_turned 23 = .ok (.if_icmp .ge 45, 3) := by decide +kernel
theorem dX2_turned_26 : decode cX2_turned 26 = .ok (.lload_n 1, 1) := by decide +kernel
theorem dX2_turned_27 : decode cX2_turned 27 = .ok (.aload_n 0, 1) := by decide +kernel
theorem dX2_turned_28 : decode cX2_turned 28 = .ok (.getfield 15, 3) := by decide +kernel
theorem dX2_turned_31 : decode cX2_turned 31 = .ok (.iload 5, 2) := by decide +kernel
theorem dX2_turned_33 : decode cX2_turned 33 = .ok (.imul, 1) := by decide +kernel
theorem dX2_turned_34 : decode cX2_turned 34 = .ok (.iload 6, 2) := by decide +kernel
theorem dX2_turned_36 : decode cX2_turned 36 = .ok (.iadd, 1) := by decide +kernel
theorem dX2_turned_37 : decode cX2_turned 37 = .ok (.invokestatic 18, 3) := by decide +kernel
theorem dX2_turned_40 : decode cX2_turned 40 = .ok (.land, 1) := by decide +kernel
theorem dX2_turned_41 : decode cX2_turned 41 = .ok (.lconst 0, 1) := by decide +kernel
theorem dX2_turned_42 : decode cX2_turned 42 = .ok (.lcmp, 1) := by decide +kernel
theorem dX2_turned_43 : decode cX2_turned 43 = .ok (.ifCond .eq 19, 3) := by decide +kernel
theorem dX2_turned_46 : decode cX2_turned 46 = .ok (.lload_n 3, 1) := by decide +kernel
theorem dX2_turned_47 : decode cX2_turned 47 = .ok (.aload_n 0, 1) := by decide +kernel
theorem dX2_turned_48 : decode cX2_turned 48 = .ok (.getfield 9, 3) := by decide +kernel
theorem dX2_turned_51 : decode cX2_turned 51 = .ok (.iload 6, 2) := by decide +kernel
theorem dX2_turned_53 : decode cX2_turned 53 = .ok (.imul, 1) := by decide +kernel
theorem dX2_turned_54 : decode cX2_turned 54 = .ok (.iload 5, 2) := by decide +kernel
theorem dX2_turned_56 : decode cX2_turned 56 = .ok (.iadd, 1) := by decide +kernel
theorem dX2_turned_57 : decode cX2_turned 57 = .ok (.invokestatic 18, 3) := by decide +kernel
theorem dX2_turned_60 : decode cX2_turned 60 = .ok (.lor, 1) := by decide +kernel
theorem dX2_turned_61 : decode cX2_turned 61 = .ok (.lstore_n 3, 1) := by decide +kernel
theorem dX2_turned_62 : decode cX2_turned 62 = .ok (.iinc 6 1, 3) := by decide +kernel
theorem dX2_turned_65 : decode cX2_turned 65 = .ok (.goto (-48), 3) := by decide +kernel
theorem dX2_turned_68 : decode cX2_turned 68 = .ok (.iinc 5 1, 3) := by decide +kernel
theorem dX2_turned_71 : decode cX2_turned 71 = .ok (.goto (-66), 3) := by decide +kernel
theorem dX2_turned_74 : decode cX2_turned 74 = .ok (.lload_n 3, 1) := by decide +kernel
theorem dX2_turned_75 : decode cX2_turned 75 = .ok (.lreturn, 1) := by decide +kernel
theorem dX3_init_0 : decode cX3_init 0 = .ok (.aload_n 0, 1) := by decide +kernel
theorem dX3_init_1 : decode cX3_init 1 = .ok (.invokespecial 1, 3) := by decide +kernel
theorem dX3_init_4 : decode cX3_init 4 = .ok (.aload_n 0, 1) := by decide +kernel
theorem dX3_init_5 : decode cX3_init 5 = .ok (.iconst 0, 1) := by decide +kernel
theorem dX3_init_6 : decode cX3_init 6 = .ok (.iload_n 1, 1) := by decide +kernel
theorem dX3_init_7 : decode cX3_init 7 = .ok (.bipush 63, 2) := by decide +kernel
theorem dX3_init_9 : decode cX3_init 9 = .ok (.iadd, 1) := by decide +kernel
theorem dX3_init_10 : decode cX3_init 10 = .ok (.bipush 6, 2) := by decide +kernel
theorem dX3_init_12 : decode cX3_init 12 = .ok (.ishr, 1) := by decide +kernel
theorem dX3_init_13 : decode cX3_init 13 = .ok (.invokestatic 7, 3) := by decide +kernel
theorem dX3_init_16 : decode cX3_init 16 = .ok (.newarray .long, 2) := by decide +kernel
theorem dX3_init_18 : decode cX3_init 18 = .ok (.putfield 13, 3) := by decide +kernel
theorem dX3_init_21 : decode cX3_init 21 = .ok (.return_, 1) := by decide +kernel
set_option maxRecDepth 20000 in
theorem ggX3_forget_J7_fill_d0a16 : GoodIn wsX3_forget wsJ7_fill_d0a16 := goodIn_r _ [5] (by decide +kernel) (by decide +kernel)
set_option maxRecDepth 20000 in
theorem gX3_forget_J7_fill_d0a16 : GoodIn wsX3_forget (va_wsS RX3 19 yJ7_fill_d0a16 wsJ7_fill_d0a16) := goodIn_app (goodIn_of _ (by decide +kernel)) ggX3_forget_J7_fill_d0a16
theorem dX3_forget_0 : decode cX3_forget 0 = .ok (.aload_n 0, 1) := by decide +kernel
theorem dX3_forget_1 : decode cX3_forget 1 = .ok (.getfield 13, 3) := by decide +kernel
theorem dX3_forget_4 : decode cX3_forget 4 = .ok (.lconst 0, 1) := by decide +kernel
theorem dX3_forget_5 : decode cX3_forget 5 = .ok (.invokestatic 19, 3) := by decide +kernel
theorem dX3_forget_8 : decode cX3_forget 8 = .ok (.return_, 1) := by decide +kernel
set_option maxRecDepth 20000 in
theorem ggX3_has_X5_bit : GoodIn wsX3_has wsX5_bit := goodIn_r _ [4] (by decide +kernel) (by decide +kernel)
set_option maxRecDepth 20000 in
theorem gX3_has_X5_bit_n25 : GoodIn wsX3_has (wsX5_bit) := ggX3_has_X5_bit
theorem dX3_has_0 : decode cX3_has 0 = .ok (.iload_n 1, 1) := by decide +kernel
theorem dX3_has_1 : decode cX3_has 1 = .ok (.bipush 6, 2) := by decide +kernel
theorem dX3_has_3 : decode cX3_has 3 = .ok (.ishr, 1) := by decide +kernel
theorem dX3_has_4 : decode cX3_has 4 = .ok (.istore_n 2, 1) := by decide +kernel
theorem dX3_has_5 : decode cX3_has 5 = .ok (.iload_n 2, 1) := by decide +kernel
theorem dX3_has_6 : decode cX3_has 6 = .ok (.ifCond .lt 35, 3) := by decide +kernel
theorem dX3_has_9 : decode cX3_has 9 = .ok (.iload_n 2, 1) := by decide +kernel
theorem dX3_has_10 : decode cX3_has 10 = .ok (.aload_n 0, 1) := by decide +kernel
theorem dX3_has_11 : decode cX3_has 11 = .ok (.getfield 13, 3) := by decide +kernel
theorem dX3_has_14 : decode cX3_has 14 = .ok (.arraylength, 1) := by decide +kernel
theorem dX3_has_15 : decode cX3_has 15 = .ok (.if_icmp .ge 26, 3) := by decide +kernel
theorem dX3_has_18 : decode cX3_has 18 = .ok (.aload_n 0, 1) := by decide +kernel
theorem dX3_has_19 : decode cX3_has 19 = .ok (.getfield 13, 3) := by decide +kernel
theorem dX3_has_22 : decode cX3_has 22 = .ok (.iload_n 2, 1) := by decide +kernel
theorem dX3_has_23 : decode cX3_has 23 = .ok (.laload, 1) := by decide +kernel
theorem dX3_has_24 : decode cX3_has 24 = .ok (.iload_n 1, 1) := by decide +kernel
theorem dX3_has_25 : decode cX3_has 25 = .ok (.bipush 63, 2) := by decide +kernel
theorem dX3_has_27 : decode cX3_has 27 = .ok (.iand, 1) := by decide +kernel
theorem dX3_has_28 : decode cX3_has 28 = .ok (.invokestatic 25, 3) := by decide +kernel
theorem dX3_has_31 : decode cX3_has 31 = .ok (.land, 1) := by decide +kernel
theorem dX3_has_32 : decode cX3_has 32 = .ok (.lconst 0, 1) := by decide +kernel
theorem dX3_has_33 : decode cX3_has 33 = .ok (.lcmp, 1) := by decide +kernel
theorem dX3_has_34 : decode cX3_has 34 = .ok (.ifCond .eq 7, 3) := by decide +kernel
theorem dX3_has_37 : decode cX3_has 37 = .ok (.iconst 1, 1) := by decide +kernel
theorem dX3_has_38 : decode cX3_has 38 = .ok (.goto 4, 3) := by decide +kernel
theorem dX3_has_41 : decode cX3_has 41 = .ok (.iconst 0, 1) := by decide +kernel
theorem dX3_has_42 : decode cX3_has 42 = .ok (.ireturn, 1) := by decide +kernel
set_option maxRecDepth 20000 in
theorem ggX3_mark_X5_bit : GoodIn wsX3_mark wsX5_bit := goodIn_r _ [4] (by decide +kernel) (by decide +kernel)
set_option maxRecDepth 20000 in
theorem gX3_mark_X5_bit_n25 : GoodIn wsX3_mark (wsX5_bit) := ggX3_mark_X5_bit
theorem dX3_mark_0 : decode cX3_mark 0 = .ok (.iload_n 1, 1) := by decide +kernel
theorem dX3_mark_1 : decode cX3_mark 1 = .ok (.bipush 6, 2) := by decide +kernel
theorem dX3_mark_3 : decode cX3_mark 3 = .ok (.ishr, 1) := by decide +kernel
theorem dX3_mark_4 : decode cX3_mark 4 = .ok (.istore_n 2, 1) := by decide +kernel
theorem dX3_mark_5 : decode cX3_mark 5 = .ok (.iload_n 2, 1) := by decide +kernel
theorem dX3_mark_6 : decode cX3_mark 6 = .ok (.ifCond .lt 28, 3) := by decide +kernel
theorem dX3_mark_9 : decode cX3_mark 9 = .ok (.iload_n 2, 1) := by decide +kernel
theorem dX3_mark_10 : decode cX3_mark 10 = .ok (.aload_n 0, 1) := by decide +kernel
theorem dX3_mark_11 : decode cX3_mark 11 = .ok (.getfield 13, 3) := by decide +kernel
theorem dX3_mark_14 : decode cX3_mark 14 = .ok (.arraylength, 1) := by decide +kernel
theorem dX3_mark_15 : decode cX3_mark 15 = .ok (.if_icmp .ge 19, 3) := by decide +kernel
theorem dX3_mark_18 : decode cX3_mark 18 = .ok (.aload_n 0, 1) := by decide +kernel
theorem dX3_mark_19 : decode cX3_mark 19 = .ok (.getfield 13, 3) := by decide +kernel
theorem dX3_mark_22 : decode cX3_mark 22 = .ok (.iload_n 2, 1) := by decide +kernel
theorem dX3_mark_23 : decode cX3_mark 23 = .ok (.dup2, 1) := by decide +kernel
theorem dX3_mark_24 : decode cX3_mark 24 = .ok (.laload, 1) := by decide +kernel
theorem dX3_mark_25 : decode cX3_mark 25 = .ok (.iload_n 1, 1) := by decide +kernel
theorem dX3_mark_26 : decode cX3_mark 26 = .ok (.bipush 63, 2) := by decide +kernel
theorem dX3_mark_28 : decode cX3_mark 28 = .ok (.iand, 1) := by decide +kernel
theorem dX3_mark_29 : decode cX3_mark 29 = .ok (.invokestatic 25, 3) := by decide +kernel
theorem dX3_mark_32 : decode cX3_mark 32 = .ok (.lor, 1) := by decide +kernel
theorem dX3_mark_33 : decode cX3_mark 33 = .ok (.lastore, 1) := by decide +kernel
theorem dX3_mark_34 : decode cX3_mark 34 = .ok (.return_, 1) := by decide +kernel
theorem dX4_init_0 : decode cX4_init 0 = .ok (.aload_n 0, 1) := by decide +kernel
theorem dX4_init_1 : decode cX4_init 1 = .ok (.invokespecial 3, 3) := by decide +kernel
theorem dX4_init_4 : decode cX4_init 4 = .ok (.aload_n 0, 1) := by decide +kernel
theorem dX4_init_5 : decode cX4_init 5 = .ok (.bipush 36, 2) := by decide +kernel
theorem dX4_init_7 : decode cX4_init 7 = .ok (.newarray .long, 2) := by decide +kernel
theorem dX4_init_9 : decode cX4_init 9 = .ok (.putfield 9, 3) := by decide +kernel
theorem dX4_init_12 : decode cX4_init 12 = .ok (.aload_n 0, 1) := by decide +kernel
theorem dX4_init_13 : decode cX4_init 13 = .ok (.bipush 36, 2) := by decide +kernel
theorem dX4_init_15 : decode cX4_init 15 = .ok (.newarray .int, 2) := by decide +kernel
theorem dX4_init_17 : decode cX4_init 17 = .ok (.putfield 15, 3) := by decide +kernel
theorem dX4_init_20 : decode cX4_init 20 = .ok (.return_, 1) := by decide +kernel
theorem dX4_forget_0 : decode cX4_forget 0 = .ok (.aload_n 0, 1) := by decide +kernel
theorem dX4_forget_1 : decode cX4_forget 1 = .ok (.iconst 0, 1) := by decide +kernel
theorem dX4_forget_2 : decode cX4_forget 2 = .ok (.putfield 19, 3) := by decide +kernel
theorem dX4_forget_5 : decode cX4_forget 5 = .ok (.return_, 1) := by decide +kernel
theorem dX4_length_0 : decode cX4_length 0 = .ok (.aload_n 0, 1) := by decide +kernel
theorem dX4_length_1 : decode cX4_length 1 = .ok (.getfield 19, 3) := by decide +kernel
theorem dX4_length_4 : decode cX4_length 4 = .ok (.ireturn, 1) := by decide +kernel
theorem dX4_field_0 : decode cX4_field 0 = .ok (.iload_n 1, 1) := by decide +kernel
theorem dX4_field_1 : decode cX4_field 1 = .ok (.ifCond .lt 29, 3) := by decide +kernel
theorem dX4_field_4 : decode cX4_field 4 = .ok (.iload_n 1, 1) := by decide +kernel
theorem dX4_field_5 : decode cX4_field 5 = .ok (.aload_n 0, 1) := by decide +kernel
theorem dX4_field_6 : decode cX4_field 6 = .ok (.getfield 19, 3) := by decide +kernel
theorem dX4_field_9 : decode cX4_field 9 = .ok (.if_icmp .ge 21, 3) := by decide +kernel
theorem dX4_field_12 : decode cX4_field 12 = .ok (.iload_n 1, 1) := by decide +kernel
theorem dX4_field_13 : decode cX4_field 13 = .ok (.aload_n 0, 1) := by decide +kernel
theorem dX4_field_14 : decode cX4_field 14 = .ok (.getfield 15, 3) := by decide +kernel
theorem dX4_field_17 : decode cX4_field 17 = .ok (.arraylength, 1) := by decide +kernel
theorem dX4_field_18 : decode cX4_field 18 = .ok (.if_icmp .ge 12, 3) := by decide +kernel
theorem dX4_field_21 : decode cX4_field 21 = .ok (.aload_n 0, 1) := by decide +kernel
theorem dX4_field_22 : decode cX4_field 22 = .ok (.getfield 15, 3) := by decide +kernel
theorem dX4_field_25 : decode cX4_field 25 = .ok (.iload_n 1, 1) := by decide +kernel
theorem dX4_field_26 : decode cX4_field 26 = .ok (.iaload, 1) := by decide +kernel
theorem dX4_field_27 : decode cX4_field 27 = .ok (.goto 4, 3) := by decide +kernel
theorem dX4_field_30 : decode cX4_field 30 = .ok (.iconst (-1), 1) := by decide +kernel
theorem dX4_field_31 : decode cX4_field 31 = .ok (.ireturn, 1) := by decide +kernel
set_option maxRecDepth 20000 in
theorem ggX4_find_X4_forget : GoodIn wsX4_find wsX4_forget := goodIn_r _ [7, 8, 36, 37, 38] (by decide +kernel) (by decide +kernel)
set_option maxRecDepth 20000 in
theorem gX4_find_X4_forget : GoodIn wsX4_find (wsV RX4 23 RX4 yX4_forget wsX4_forget) := goodIn_app (goodIn_of _ (by decide +kernel)) ggX4_find_X4_forget
set_option maxRecDepth 20000 in
theorem ggX4_find_X4_trace : GoodIn wsX4_find wsX4_trace := goodIn_r _ [12, 1, 8, 13, 14, 15, 16, 17, 18, 19, 20, 21, 22, 23, 24, 25, 26, 27, 28, 29, 30, 31, 32, 33, 34, 35, 36, 37, 38, 39, 40, 41, 42, 43, 44, 45] (by decide +kernel) (by decide +kernel)
set_option maxRecDepth 20000 in
theorem gX4_find_X4_trace : GoodIn wsX4_find (wsV RX4 26 RX4 yX4_trace wsX4_trace) := goodIn_app (goodIn_of _ (by decide +kernel)) ggX4_find_X4_trace
set_option maxRecDepth 20000 in
theorem ggX4_find_X2_beside : GoodIn wsX4_find wsX2_beside := goodIn_r _ [30, 31, 32, 33, 34, 35, 39, 40, 41, 42, 43, 44, 45] (by decide +kernel) (by decide +kernel)
set_option maxRecDepth 20000 in
theorem gX4_find_X2_beside : GoodIn wsX4_find (wsV RX4 30 RX2 yX2_beside wsX2_beside) := goodIn_app (goodIn_of _ (by decide +kernel)) ggX4_find_X2_beside
theorem dX4_find_0 : decode cX4_find 0 = .ok (.aload_n 0, 1) := by decide +kernel
theorem dX4_find_1 : decode cX4_find 1 = .ok (.invokevirtual 23, 3) := by decide +kernel
theorem dX4_find_4 : decode cX4_find 4 = .ok (.lload_n 2, 1) := by decide +kernel
theorem dX4_find_5 : decode cX4_find 5 = .ok (.lload 6, 2) := by decide +kernel
theorem dX4_find_7 : decode cX4_find 7 = .ok (.land, 1) := by decide +kernel
theorem dX4_find_8 : decode cX4_find 8 = .ok (.lstore 8, 2) := by decide +kernel
theorem dX4_find_10 : decode cX4_find 10 = .ok (.lload 8, 2) := by decide +kernel
theorem dX4_find_12 : decode cX4_find 12 = .ok (.lstore 10, 2) := by decide +kernel
theorem dX4_find_14 : decode cX4_find 14 = .ok (.iconst 0, 1) := by decide +kernel
theorem dX4_find_15 : decode cX4_find 15 = .ok (.istore 12, 2) := by decide +kernel
theorem dX4_find_17 : decode cX4_find 17 = .ok (.iload 12, 2) := by decide +kernel
theorem dX4_find_19 : decode cX4_find 19 = .ok (.aload_n 0, 1) := by decide +kernel
theorem dX4_find_20 : decode cX4_find 20 = .ok (.getfield 9, 3) := by decide +kernel
theorem dX4_find_23 : decode cX4_find 23 = .ok (.arraylength, 1) := by decide +kernel
theorem dX4_find_24 : decode cX4_find 24 = .ok (.if_icmp .ge 69, 3) := by decide +kernel
theorem dX4_find_27 : decode cX4_find 27 = .ok (.lload 8, 2) := by decide +kernel
theorem dX4_find_29 : decode cX4_find 29 = .ok (.lconst 0, 1) := by decide +kernel
theorem dX4_find_30 : decode cX4_find 30 = .ok (.lcmp, 1) := by decide +kernel
theorem dX4_find_31 : decode cX4_find 31 = .ok (.ifCond .eq 62, 3) := by decide +kernel
theorem dX4_find_34 : decode cX4_find 34 = .ok (.aload_n 0, 1) := by decide +kernel
theorem dX4_find_35 : decode cX4_find 35 = .ok (.getfield 9, 3) := by decide +kernel
theorem dX4_find_38 : decode cX4_find 38 = .ok (.iload 12, 2) := by decide +kernel
theorem dX4_find_40 : decode cX4_find 40 = .ok (.lload 8, 2) := by decide +kernel
theorem dX4_find_42 : decode cX4_find 42 = .ok (.lastore, 1) := by decide +kernel
theorem dX4_find_43 : decode cX4_find 43 = .ok (.lload 8, 2) := by decide +kernel
theorem dX4_find_45 : decode cX4_find 45 = .ok (.lload 4, 2) := by decide +kernel
theorem dX4_find_47 : decode cX4_find 47 = .ok (.land, 1) := by decide +kernel
theorem dX4_find_48 : decode cX4_find 48 = .ok (.lconst 0, 1) := by decide +kernel
theorem dX4_find_49 : decode cX4_find 49 = .ok (.lcmp, 1) := by decide +kernel
theorem dX4_find_50 : decode cX4_find 50 = .ok (.ifCond .eq 13, 3) := by decide +kernel
theorem dX4_find_53 : decode cX4_find 53 = .ok (.aload_n 0, 1) := by decide +kernel
theorem dX4_find_54 : decode cX4_find 54 = .ok (.aload_n 1, 1) := by decide +kernel
theorem dX4_find_55 : decode cX4_find 55 = .ok (.lload 4, 2) := by decide +kernel
theorem dX4_find_57 : decode cX4_find 57 = .ok (.iload 12, 2) := by decide +kernel
theorem dX4_find_59 : decode cX4_find 59 = .ok (.invokevirtual 26, 3) := by decide +kernel
theorem dX4_find_62 : decode cX4_find 62 = .ok (.return_, 1) := by decide +kernel
theorem dX4_find_63 : decode cX4_find 63 = .ok (.aload_n 1, 1) := by decide +kernel
theorem dX4_find_64 : decode cX4_find 64 = .ok (.lload 8, 2) := by decide +kernel
theorem dX4_find_66 : decode cX4_find 66 = .ok (.invokevirtual 30, 3) := by decide +kernel
theorem dX4_find_69 : decode cX4_find 69 = .ok (.lload_n 2, 1) := by decide +kernel
theorem dX4_find_70 : decode cX4_find 70 = .ok (.land, 1) := by decide +kernel
theorem dX4_find_71 : decode cX4_find 71 = .ok (.lload 10, 2) := by decide +kernel
theorem dX4_find_73 : decode cX4_find 73 = .ok (.ldc2_w 36, 3) := by decide +kernel
theorem dX4_find_76 : decode cX4_find 76 = .ok (.lxor, 1) := by decide +kernel
theorem dX4_find_77 : decode cX4_find 77 = .ok (.land, 1) := by decide +kernel
theorem dX4_find_78 : decode cX4_find 78 = .ok (.lstore 8, 2) := by decide +kernel
theorem dX4_find_80 : decode cX4_find 80 = .ok (.lload 10, 2) := by decide +kernel
theorem dX4_find_82 : decode cX4_find 82 = .ok (.lload 8, 2) := by decide +kernel
theorem dX4_find_84 : decode cX4_find 84 = .ok (.lor, 1) := by decide +kernel
theorem dX4_find_85 : decode cX4_find 85 = .ok (.lstore 10, 2) := by decide +kernel
theorem dX4_find_87 : decode cX4_find 87 = .ok (.iinc 12 1, 3) := by decide +kernel
theorem dX4_find_90 : decode cX4_find 90 = .ok (.goto (-73), 3) := by decide +kernel
theorem dX4_find_93 : decode cX4_find 93 = .ok (.return_, 1) := by decide +kernel
set_option maxRecDepth 20000 in
theorem ggX4_trace_X5_lowest : GoodIn wsX4_trace wsX5_lowest := goodIn_r _ [6, 7, 8, 9, 10, 11, 12, 13] (by decide +kernel) (by decide +kernel)
set_option maxRecDepth 20000 in
theorem gX4_trace_X5_lowest_n38 : GoodIn wsX4_trace (wsX5_lowest) := ggX4_trace_X5_lowest
set_option maxRecDepth 20000 in
theorem ggX4_trace_X5_bit : GoodIn wsX4_trace wsX5_bit := goodIn_r _ [15] (by decide +kernel) (by decide +kernel)
set_option maxRecDepth 20000 in
theorem gX4_trace_X5_bit_n42 : GoodIn wsX4_trace (wsX5_bit) := ggX4_trace_X5_bit
set_option maxRecDepth 20000 in
theorem ggX4_trace_X2_beside : GoodIn wsX4_trace wsX2_beside := goodIn_r _ [20, 21, 22, 23, 24, 25, 29, 30, 31, 32, 33, 34, 35] (by decide +kernel) (by decide +kernel)
set_option maxRecDepth 20000 in
theorem gX4_trace_X2_beside : GoodIn wsX4_trace (wsV RX4 30 RX2 yX2_beside wsX2_beside) := goodIn_app (goodIn_of _ (by decide +kernel)) ggX4_trace_X2_beside
theorem dX4_trace_0 : decode cX4_trace 0 = .ok (.lload_n 2, 1) := by decide +kernel
theorem dX4_trace_1 : decode cX4_trace 1 = .ok (.lstore 5, 2) := by decide +kernel
theorem dX4_trace_3 : decode cX4_trace 3 = .ok (.iload 4, 2) := by decide +kernel
theorem dX4_trace_5 : decode cX4_trace 5 = .ok (.istore 7, 2) := by decide +kernel
theorem dX4_trace_7 : decode cX4_trace 7 = .ok (.iload 7, 2) := by decide +kernel
theorem dX4_trace_9 : decode cX4_trace 9 = .ok (.ifCond .lt 85, 3) := by decide +kernel
theorem dX4_trace_12 : decode cX4_trace 12 = .ok (.iload 7, 2) := by decide +kernel
theorem dX4_trace_14 : decode cX4_trace 14 = .ok (.aload_n 0, 1) := by decide +kernel
theorem dX4_trace_15 : decode cX4_trace 15 = .ok (.getfield 9, 3) := by decide +kernel
theorem dX4_trace_18 : decode cX4_trace 18 = .ok (.arraylength, 1) := by decide +kernel
theorem dX4_trace_19 : decode cX4_trace 19 = .ok (.if_icmp .ge 75, 3) := by decide +kernel
theorem dX4_trace_22 : decode cX4_trace 22 = .ok (.aload_n 0, 1) := by decide +kernel
theorem dX4_trace_23 : decode cX4_trace 23 = .ok (.getfield 9, 3) := by decide +kernel
theorem dX4_trace_26 : decode cX4_trace 26 = .ok (.iload 7, 2) := by decide +kernel
theorem dX4_trace_28 : decode cX4_trace 28 = .ok (.laload, 1) := by decide +kernel
theorem dX4_trace_29 : decode cX4_trace 29 = .ok (.lload 5, 2) := by decide +kernel
theorem dX4_trace_31 : decode cX4_trace 31 = .ok (.land, 1) := by decide +kernel
theorem dX4_trace_32 : decode cX4_trace 32 = .ok (.invokestatic 38, 3) := by decide +kernel
theorem dX4_trace_35 : decode cX4_trace 35 = .ok (.istore 8, 2) := by decide +kernel
theorem dX4_trace_37 : decode cX4_trace 37 = .ok (.aload_n 0, 1) := by decide +kernel
theorem dX4_trace_38 : decode cX4_trace 38 = .ok (.getfield 19, 3) := by decide +kernel
theorem dX4_trace_41 : decode cX4_trace 41 = .ok (.ifCond .lt 36, 3) := by decide +kernel
theorem dX4_trace_44 : decode cX4_trace 44 = .ok (.aload_n 0, 1) := by decide +kernel
theorem dX4_trace_45 : decode cX4_trace 45 = .ok (.getfield 19, 3) := by decide +kernel
theorem dX4_trace_48 : decode cX4_trace 48 = .ok (.aload_n 0, 1) := by decide +kernel
theorem dX4_trace_49 : decode cX4_trace 49 = .ok (.getfield 15, 3) := by decide +kernel
theorem dX4_trace_52 : decode cX4_trace 52 = .ok (.arraylength, 1) := by decide +kernel
theorem dX4_trace_53 : decode cX4_trace 53 = .ok (.if_icmp .ge 24, 3) := by decide +kernel
theorem dX4_trace_56 : decode cX4_trace 56 = .ok (.aload_n 0, 1) := by decide +kernel
theorem dX4_trace_57 : decode cX4_trace 57 = .ok (.getfield 15, 3) := by decide +kernel
theorem dX4_trace_60 : decode cX4_trace 60 = .ok (.aload_n 0, 1) := by decide +kernel
theorem dX4_trace_61 : decode cX4_trace 61 = .ok (.getfield 19, 3) := by decide +kernel
theorem dX4_trace_64 : decode cX4_trace 64 = .ok (.iload 8, 2) := by decide +kernel
theorem dX4_trace_66 : decode cX4_trace 66 = .ok (.iastore, 1) := by decide +kernel
theorem dX4_trace_67 : decode cX4_trace 67 = .ok (.aload_n 0, 1) := by decide +kernel
theorem dX4_trace_68 : decode cX4_trace 68 = .ok (.dup, 1) := by decide +kernel
theorem dX4_trace_69 : decode cX4_trace 69 = .ok (.getfield 19, 3) := by decide +kernel
theorem dX4_trace_72 : decode cX4_trace 72 = .ok (.iconst 1, 1) := by decide +kernel
theorem dX4_trace_73 : decode cX4_trace 73 = .ok (.iadd, 1) := by decide +kernel
theorem dX4_trace_74 : decode cX4_trace 74 = .ok (.putfield 19, 3) := by decide +kernel
theorem dX4_trace_77 : decode cX4_trace 77 = .ok (.aload_n 1, 1) := by decide +kernel
theorem dX4_trace_78 : decode cX4_trace 78 = .ok (.iload 8, 2) := by decide +kernel
theorem dX4_trace_80 : decode cX4_trace 80 = .ok (.invokestatic 42, 3) := by decide +kernel
theorem dX4_trace_83 : decode cX4_trace 83 = .ok (.invokevirtual 30, 3) := by decide +kernel
theorem dX4_trace_86 : decode cX4_trace 86 = .ok (.lstore 5, 2) := by decide +kernel
theorem dX4_trace_88 : decode cX4_trace 88 = .ok (.iinc 7 (-1), 3) := by decide +kernel
theorem dX4_trace_91 : decode cX4_trace 91 = .ok (.goto (-84), 3) := by decide +kernel
theorem dX4_trace_94 : decode cX4_trace 94 = .ok (.return_, 1) := by decide +kernel
set_option maxRecDepth 20000 in
theorem ggX5_init_X2_init : GoodIn wsX5_init wsX2_init := goodIn_r _ [22, 23, 2, 3] (by decide +kernel) (by decide +kernel)
set_option maxRecDepth 20000 in
theorem gX5_init_X2_init_n11 : GoodIn wsX5_init (wsX2_init) := ggX5_init_X2_init
set_option maxRecDepth 20000 in
theorem ggX5_init_X0_init : GoodIn wsX5_init wsX0_init := goodIn_r _ [25, 26, 2, 3, 27, 28, 98, 99, 100] (by decide +kernel) (by decide +kernel)
set_option maxRecDepth 20000 in
theorem gX5_init_X0_init_n18 : GoodIn wsX5_init (wsX0_init) := ggX5_init_X0_init
set_option maxRecDepth 20000 in
theorem ggX5_init_X4_init : GoodIn wsX5_init wsX4_init := goodIn_r _ [30, 31, 2, 3, 32, 33, 27, 34, 101, 102, 103] (by decide +kernel) (by decide +kernel)
set_option maxRecDepth 20000 in
theorem gX5_init_X4_init_n25 : GoodIn wsX5_init (wsX4_init) := ggX5_init_X4_init
set_option maxRecDepth 20000 in
theorem ggX5_init_X1_init : GoodIn wsX5_init wsX1_init := goodIn_r _ [36, 37, 2, 3, 38, 39, 40, 41, 42, 43, 44, 45, 46, 47, 48, 49, 50, 51, 52, 32, 53, 119, 104, 105, 106, 107, 108, 109, 110, 111, 112, 113, 114, 115, 116, 117, 118] (by decide +kernel) (by decide +kernel)
set_option maxRecDepth 20000 in
theorem gX5_init_X1_init_n32 : GoodIn wsX5_init (wsX1_init) := ggX5_init_X1_init
set_option maxRecDepth 20000 in
theorem ggX5_init_X5_makeEmpty : GoodIn wsX5_init wsX5_makeEmpty := goodIn_r _ [58, 7, 59, 60, 61, 62, 11, 63, 64, 65, 6, 66, 67, 68, 69, 70, 71, 72, 73, 74, 57, 75, 76, 77, 78, 10, 79, 80, 81, 89, 90, 91, 92, 93, 94, 95, 96, 97, 82, 83, 84, 85, 86, 87, 88, 98, 99, 100] (by decide +kernel) (by decide +kernel)
set_option maxRecDepth 20000 in
theorem gX5_init_X5_makeEmpty : GoodIn wsX5_init (wsV RX5 40 RX5 yX5_makeEmpty wsX5_makeEmpty) := goodIn_app (goodIn_of _ (by decide +kernel)) ggX5_init_X5_makeEmpty
theorem dX5_init_0 : decode cX5_init 0 = .ok (.aload_n 0, 1) := by decide +kernel
theorem dX5_init_1 : decode cX5_init 1 = .ok (.invokespecial 3, 3) := by decide +kernel
theorem dX5_init_4 : decode cX5_init 4 = .ok (.aload_n 0, 1) := by decide +kernel
theorem dX5_init_5 : decode cX5_init 5 = .ok (.new 9, 3) := by decide +kernel
theorem dX5_init_8 : decode cX5_init 8 = .ok (.dup, 1) := by decide +kernel
theorem dX5_init_9 : decode cX5_init 9 = .ok (.invokespecial 11, 3) := by decide +kernel
theorem dX5_init_12 : decode cX5_init 12 = .ok (.putfield 12, 3) := by decide +kernel
theorem dX5_init_15 : decode cX5_init 15 = .ok (.aload_n 0, 1) := by decide +kernel
theorem dX5_init_16 : decode cX5_init 16 = .ok (.new 16, 3) := by decide +kernel
theorem dX5_init_19 : decode cX5_init 19 = .ok (.dup, 1) := by decide +kernel
theorem dX5_init_20 : decode cX5_init 20 = .ok (.invokespecial 18, 3) := by decide +kernel
theorem dX5_init_23 : decode cX5_init 23 = .ok (.putfield 19, 3) := by decide +kernel
theorem dX5_init_26 : decode cX5_init 26 = .ok (.aload_n 0, 1) := by decide +kernel
theorem dX5_init_27 : decode cX5_init 27 = .ok (.new 23, 3) := by decide +kernel
theorem dX5_init_30 : decode cX5_init 30 = .ok (.dup, 1) := by decide +kernel
theorem dX5_init_31 : decode cX5_init 31 = .ok (.invokespecial 25, 3) := by decide +kernel
theorem dX5_init_34 : decode cX5_init 34 = .ok (.putfield 26, 3) := by decide +kernel
theorem dX5_init_37 : decode cX5_init 37 = .ok (.aload_n 0, 1) := by decide +kernel
theorem dX5_init_38 : decode cX5_init 38 = .ok (.new 30, 3) := by decide +kernel
theorem dX5_init_41 : decode cX5_init 41 = .ok (.dup, 1) := by decide +kernel
theorem dX5_init_42 : decode cX5_init 42 = .ok (.invokespecial 32, 3) := by decide +kernel
theorem dX5_init_45 : decode cX5_init 45 = .ok (.putfield 33, 3) := by decide +kernel
theorem dX5_init_48 : decode cX5_init 48 = .ok (.aload_n 0, 1) := by decide +kernel
theorem dX5_init_49 : decode cX5_init 49 = .ok (.new 30, 3) := by decide +kernel
theorem dX5_init_52 : decode cX5_init 52 = .ok (.dup, 1) := by decide +kernel
theorem dX5_init_53 : decode cX5_init 53 = .ok (.invokespecial 32, 3) := by decide +kernel
theorem dX5_init_56 : decode cX5_init 56 = .ok (.putfield 37, 3) := by decide +kernel
theorem dX5_init_59 : decode cX5_init 59 = .ok (.aload_n 0, 1) := by decide +kernel
theorem dX5_init_60 : decode cX5_init 60 = .ok (.iconst 3, 1) := by decide +kernel
theorem dX5_init_61 : decode cX5_init 61 = .ok (.iconst 3, 1) := by decide +kernel
theorem dX5_init_62 : decode cX5_init 62 = .ok (.invokevirtual 40, 3) := by decide +kernel
theorem dX5_init_65 : decode cX5_init 65 = .ok (.return_, 1) := by decide +kernel
set_option maxRecDepth 20000 in
theorem ggX5_board_X5_isSide : GoodIn wsX5_board wsX5_isSide := goodIn_r _ [4] (by decide +kernel) (by decide +kernel)
set_option maxRecDepth 20000 in
theorem gX5_board_X5_isSide : GoodIn wsX5_board (va_wsS RX5 44 yX5_isSide wsX5_isSide) := goodIn_app (goodIn_of _ (by decide +kernel)) ggX5_board_X5_isSide
set_option maxRecDepth 20000 in
theorem ggX5_board_X5_makeEmpty : GoodIn wsX5_board wsX5_makeEmpty := goodIn_r _ [8, 9, 10, 11, 12, 13, 14, 15, 16, 17, 18, 19, 20, 21, 22, 23, 24, 25, 26, 27, 3, 28, 29, 30, 31, 32, 33, 34, 35, 36, 37, 38, 39, 40, 41, 42, 43, 44, 45, 46, 47, 48, 49, 50, 51, 52, 53, 54] (by decide +kernel) (by decide +kernel)
set_option maxRecDepth 20000 in
theorem gX5_board_X5_makeEmpty : GoodIn wsX5_board (wsV RX5 40 RX5 yX5_makeEmpty wsX5_makeEmpty) := goodIn_app (goodIn_of _ (by decide +kernel)) ggX5_board_X5_makeEmpty
theorem dX5_board_0 : decode cX5_board 0 = .ok (.iload_n 1, 1) := by decide +kernel
theorem dX5_board_1 : decode cX5_board 1 = .ok (.invokestatic 44, 3) := by decide +kernel
theorem dX5_board_4 : decode cX5_board 4 = .ok (.ifCond .eq 10, 3) := by decide +kernel
theorem dX5_board_7 : decode cX5_board 7 = .ok (.iload_n 2, 1) := by decide +kernel
theorem dX5_board_8 : decode cX5_board 8 = .ok (.invokestatic 44, 3) := by decide +kernel
theorem dX5_board_11 : decode cX5_board 11 = .ok (.ifCond .ne 5, 3) := by decide +kernel
theorem dX5_board_14 : decode cX5_board 14 = .ok (.iconst 0, 1) := by decide +kernel
theorem dX5_board_15 : decode cX5_board 15 = .ok (.ireturn, 1) := by decide +kernel
theorem dX5_board_16 : decode cX5_board 16 = .ok (.aload_n 0, 1) := by decide +kernel
theorem dX5_board_17 : decode cX5_board 17 = .ok (.iload_n 1, 1) := by decide +kernel
theorem dX5_board_18 : decode cX5_board 18 = .ok (.iload_n 2, 1) := by decide +kernel
theorem dX5_board_19 : decode cX5_board 19 = .ok (.invokevirtual 40, 3) := by decide +kernel
theorem dX5_board_22 : decode cX5_board 22 = .ok (.iconst 1, 1) := by decide +kernel
theorem dX5_board_23 : decode cX5_board 23 = .ok (.ireturn, 1) := by decide +kernel
set_option maxRecDepth 20000 in
theorem ggX5_set_X5_isColour : GoodIn wsX5_set wsX5_isColour := goodIn_r _ [8] (by decide +kernel) (by decide +kernel)
set_option maxRecDepth 20000 in
theorem gX5_set_X5_isColour : GoodIn wsX5_set (va_wsS RX5 48 yX5_isColour wsX5_isColour) := goodIn_app (goodIn_of _ (by decide +kernel)) ggX5_set_X5_isColour
set_option maxRecDepth 20000 in
theorem ggX5_set_X2_has : GoodIn wsX5_set wsX2_has := goodIn_r _ [13, 14, 15, 42, 43, 44, 45, 46, 47, 48] (by decide +kernel) (by decide +kernel)
set_option maxRecDepth 20000 in
theorem gX5_set_X2_has : GoodIn wsX5_set (wsV RX5 51 RX2 yX2_has wsX2_has) := goodIn_app (goodIn_of _ (by decide +kernel)) ggX5_set_X2_has
set_option maxRecDepth 20000 in
theorem ggX5_set_X5_put : GoodIn wsX5_set wsX5_put := goodIn_r _ [19, 20, 21, 22, 23, 24, 7, 25, 33, 34, 35, 36, 37, 38, 39, 40, 41] (by decide +kernel) (by decide +kernel)
set_option maxRecDepth 20000 in
theorem gX5_set_X5_put : GoodIn wsX5_set (wsV RX5 54 RX5 yX5_put wsX5_put) := goodIn_app (goodIn_of _ (by decide +kernel)) ggX5_set_X5_put
set_option maxRecDepth 20000 in
theorem ggX5_set_X0_forget : GoodIn wsX5_set wsX0_forget := goodIn_r _ [30, 31, 32, 49, 50, 51] (by decide +kernel) (by decide +kernel)
set_option maxRecDepth 20000 in
theorem gX5_set_X0_forget : GoodIn wsX5_set (wsV RX5 65 RX0 yX0_forget wsX0_forget) := goodIn_app (goodIn_of _ (by decide +kernel)) ggX5_set_X0_forget
theorem dX5_set_0 : decode cX5_set 0 = .ok (.iload_n 2, 1) := by decide +kernel
theorem dX5_set_1 : decode cX5_set 1 = .ok (.ifCond .eq 10, 3) := by decide +kernel
theorem dX5_set_4 : decode cX5_set 4 = .ok (.iload_n 2, 1) := by decide +kernel
theorem dX5_set_5 : decode cX5_set 5 = .ok (.invokestatic 48, 3) := by decide +kernel
theorem dX5_set_8 : decode cX5_set 8 = .ok (.ifCond .eq 7, 3) := by decide +kernel
theorem dX5_set_11 : decode cX5_set 11 = .ok (.iconst 1, 1) := by decide +kernel
theorem dX5_set_12 : decode cX5_set 12 = .ok (.goto 4, 3) := by decide +kernel
theorem dX5_set_15 : decode cX5_set 15 = .ok (.iconst 0, 1) := by decide +kernel
theorem dX5_set_16 : decode cX5_set 16 = .ok (.istore 4, 2) := by decide +kernel
theorem dX5_set_18 : decode cX5_set 18 = .ok (.aload_n 0, 1) := by decide +kernel
theorem dX5_set_19 : decode cX5_set 19 = .ok (.getfield 12, 3) := by decide +kernel
theorem dX5_set_22 : decode cX5_set 22 = .ok (.iload_n 1, 1) := by decide +kernel
theorem dX5_set_23 : decode cX5_set 23 = .ok (.invokevirtual 51, 3) := by decide +kernel
theorem dX5_set_26 : decode cX5_set 26 = .ok (.ifCond .eq 15, 3) := by decide +kernel
theorem dX5_set_29 : decode cX5_set 29 = .ok (.iload 4, 2) := by decide +kernel
theorem dX5_set_31 : decode cX5_set 31 = .ok (.ifCond .eq 10, 3) := by decide +kernel
theorem dX5_set_34 : decode cX5_set 34 = .ok (.iload_n 3, 1) := by decide +kernel
theorem dX5_set_35 : decode cX5_set 35 = .ok (.invokestatic 48, 3) := by decide +kernel
theorem dX5_set_38 : decode cX5_set 38 = .ok (.ifCond .ne 5, 3) := by decide +kernel
theorem dX5_set_41 : decode cX5_set 41 = .ok (.iconst 0, 1) := by decide +kernel
theorem dX5_set_42 : decode cX5_set 42 = .ok (.ireturn, 1) := by decide +kernel
theorem dX5_set_43 : decode cX5_set 43 = .ok (.aload_n 0, 1) := by decide +kernel
theorem dX5_set_44 : decode cX5_set 44 = .ok (.iload_n 1, 1) := by decide +kernel
theorem dX5_set_45 : decode cX5_set 45 = .ok (.iload_n 2, 1) := by decide +kernel
theorem dX5_set_46 : decode cX5_set 46 = .ok (.invokevirtual 54, 3) := by decide +kernel
theorem dX5_set_49 : decode cX5_set 49 = .ok (.aload_n 0, 1) := by decide +kernel
theorem dX5_set_50 : decode cX5_set 50 = .ok (.iload_n 3, 1) := by decide +kernel
theorem dX5_set_51 : decode cX5_set 51 = .ok (.putfield 57, 3) := by decide +kernel
theorem dX5_set_54 : decode cX5_set 54 = .ok (.aload_n 0, 1) := by decide +kernel
theorem dX5_set_55 : decode cX5_set 55 = .ok (.iconst 0, 1) := by decide +kernel
theorem dX5_set_56 : decode cX5_set 56 = .ok (.putfield 61, 3) := by decide +kernel
theorem dX5_set_59 : decode cX5_set 59 = .ok (.aload_n 0, 1) := by decide +kernel
theorem dX5_set_60 : decode cX5_set 60 = .ok (.getfield 19, 3) := by decide +kernel
theorem dX5_set_63 : decode cX5_set 63 = .ok (.invokevirtual 65, 3) := by decide +kernel
theorem dX5_set_66 : decode cX5_set 66 = .ok (.iconst 1, 1) := by decide +kernel
theorem dX5_set_67 : decode cX5_set 67 = .ok (.ireturn, 1) := by decide +kernel
set_option maxRecDepth 20000 in
theorem ggX5_lay_X2_has : GoodIn wsX5_lay wsX2_has := goodIn_r _ [7, 8, 9, 88, 89, 90, 91, 92, 93, 94] (by decide +kernel) (by decide +kernel)
set_option maxRecDepth 20000 in
theorem gX5_lay_X2_has : GoodIn wsX5_lay (wsV RX5 51 RX2 yX2_has wsX2_has) := goodIn_app (goodIn_of _ (by decide +kernel)) ggX5_lay_X2_has
set_option maxRecDepth 20000 in
theorem ggX5_lay_X5_stoneAt : GoodIn wsX5_lay wsX5_stoneAt := goodIn_r _ [14, 15, 16, 17, 18, 13, 19, 79, 80, 81, 82, 83, 84, 85, 86, 87] (by decide +kernel) (by decide +kernel)
set_option maxRecDepth 20000 in
theorem gX5_lay_X5_stoneAt : GoodIn wsX5_lay (wsV RX5 68 RX5 yX5_stoneAt wsX5_stoneAt) := goodIn_app (goodIn_of _ (by decide +kernel)) ggX5_lay_X5_stoneAt
set_option maxRecDepth 20000 in
theorem ggX5_lay_X5_whoJoined : GoodIn wsX5_lay wsX5_whoJoined := goodIn_r _ [23, 1, 15, 16, 24, 25, 26, 6, 27, 28, 29, 30, 31, 32, 33, 34, 35, 36, 37, 38, 39, 40, 41, 42, 43, 44, 45, 46, 47, 48, 9, 49, 50, 51, 52, 53, 54, 55, 56, 57, 79, 80, 81, 82, 83, 84, 85, 86, 87, 88, 89, 90, 91, 92, 93, 94] (by decide +kernel) (by decide +kernel)
set_option maxRecDepth 20000 in
theorem gX5_lay_X5_whoJoined : GoodIn wsX5_lay (wsV RX5 72 RX5 yX5_whoJoined wsX5_whoJoined) := goodIn_app (goodIn_of _ (by decide +kernel)) ggX5_lay_X5_whoJoined
set_option maxRecDepth 20000 in
theorem ggX5_lay_X0_add : GoodIn wsX5_lay wsX0_add := goodIn_r _ [62, 63, 64, 65, 95, 96, 97] (by decide +kernel) (by decide +kernel)
set_option maxRecDepth 20000 in
theorem gX5_lay_X0_add : GoodIn wsX5_lay (wsV RX5 76 RX0 yX0_add wsX0_add) := goodIn_app (goodIn_of _ (by decide +kernel)) ggX5_lay_X0_add
set_option maxRecDepth 20000 in
theorem ggX5_lay_X5_layStone : GoodIn wsX5_lay wsX5_layStone := goodIn_r _ [69, 70, 71, 72, 73, 13, 74, 15, 75, 16, 17, 18, 19, 76, 77, 78, 79, 80, 81, 82, 83, 84, 85, 86, 87] (by decide +kernel) (by decide +kernel)
set_option maxRecDepth 20000 in
theorem gX5_lay_X5_layStone : GoodIn wsX5_lay (wsV RX5 79 RX5 yX5_layStone wsX5_layStone) := goodIn_app (goodIn_of _ (by decide +kernel)) ggX5_lay_X5_layStone
theorem dX5_lay_0 : decode cX5_lay 0 = .ok (.aload_n 0, 1) := by decide +kernel
theorem dX5_lay_1 : decode cX5_lay 1 = .ok (.getfield 12, 3) := by decide +kernel
theorem dX5_lay_4 : decode cX5_lay 4 = .ok (.iload_n 1, 1) := by decide +kernel
theorem dX5_lay_5 : decode cX5_lay 5 = .ok (.invokevirtual 51, 3) := by decide +kernel
theorem dX5_lay_8 : decode cX5_lay 8 = .ok (.ifCond .eq 29, 3) := by decide +kernel
theorem dX5_lay_11 : decode cX5_lay 11 = .ok (.aload_n 0, 1) := by decide +kernel
theorem dX5_lay_12 : decode cX5_lay 12 = .ok (.iload_n 1, 1) := by decide +kernel
theorem dX5_lay_13 : decode cX5_lay 13 = .ok (.invokevirtual 68, 3) := by decide +kernel
theorem dX5_lay_16 : decode cX5_lay 16 = .ok (.ifCond .ne 21, 3) := by decide +kernel
theorem dX5_lay_19 : decode cX5_lay 19 = .ok (.aload_n 0, 1) := by decide +kernel
theorem dX5_lay_20 : decode cX5_lay 20 = .ok (.invokevirtual 72, 3) := by decide +kernel
theorem dX5_lay_23 : decode cX5_lay 23 = .ok (.ifCond .ne 14, 3) := by decide +kernel
theorem dX5_lay_26 : decode cX5_lay 26 = .ok (.aload_n 0, 1) := by decide +kernel
theorem dX5_lay_27 : decode cX5_lay 27 = .ok (.getfield 19, 3) := by decide +kernel
theorem dX5_lay_30 : decode cX5_lay 30 = .ok (.iload_n 1, 1) := by decide +kernel
theorem dX5_lay_31 : decode cX5_lay 31 = .ok (.invokevirtual 76, 3) := by decide +kernel
theorem dX5_lay_34 : decode cX5_lay 34 = .ok (.ifCond .ne 5, 3) := by decide +kernel
theorem dX5_lay_37 : decode cX5_lay 37 = .ok (.iconst (-1), 1) := by decide +kernel
theorem dX5_lay_38 : decode cX5_lay 38 = .ok (.ireturn, 1) := by decide +kernel
theorem dX5_lay_39 : decode cX5_lay 39 = .ok (.aload_n 0, 1) := by decide +kernel
theorem dX5_lay_40 : decode cX5_lay 40 = .ok (.iload_n 1, 1) := by decide +kernel
theorem dX5_lay_41 : decode cX5_lay 41 = .ok (.invokevirtual 79, 3) := by decide +kernel
theorem dX5_lay_44 : decode cX5_lay 44 = .ok (.aload_n 0, 1) := by decide +kernel
theorem dX5_lay_45 : decode cX5_lay 45 = .ok (.invokevirtual 72, 3) := by decide +kernel
theorem dX5_lay_48 : decode cX5_lay 48 = .ok (.ifCond .ne 7, 3) := by decide +kernel
theorem dX5_lay_51 : decode cX5_lay 51 = .ok (.iconst 1, 1) := by decide +kernel
theorem dX5_lay_52 : decode cX5_lay 52 = .ok (.goto 4, 3) := by decide +kernel
theorem dX5_lay_55 : decode cX5_lay 55 = .ok (.iconst 2, 1) := by decide +kernel
theorem dX5_lay_56 : decode cX5_lay 56 = .ok (.ireturn, 1) := by decide +kernel
set_option maxRecDepth 20000 in
theorem ggX5_swap_X2_rows : GoodIn wsX5_swap wsX2_rows := goodIn_r _ [8, 9, 88, 89, 90, 91, 92, 93, 94] (by decide +kernel) (by decide +kernel)
set_option maxRecDepth 20000 in
theorem gX5_swap_X2_rows : GoodIn wsX5_swap (wsV RX5 83 RX2 yX2_rows wsX2_rows) := goodIn_app (goodIn_of _ (by decide +kernel)) ggX5_swap_X2_rows
set_option maxRecDepth 20000 in
theorem ggX5_swap_X2_columns : GoodIn wsX5_swap wsX2_columns := goodIn_r _ [13, 14, 88, 89, 90, 91, 92, 93, 94] (by decide +kernel) (by decide +kernel)
set_option maxRecDepth 20000 in
theorem gX5_swap_X2_columns : GoodIn wsX5_swap (wsV RX5 86 RX2 yX2_columns wsX2_columns) := goodIn_app (goodIn_of _ (by decide +kernel)) ggX5_swap_X2_columns
set_option maxRecDepth 20000 in
theorem ggX5_swap_X0_done : GoodIn wsX5_swap wsX0_done := goodIn_r _ [19, 20, 95, 96, 97] (by decide +kernel) (by decide +kernel)
set_option maxRecDepth 20000 in
theorem gX5_swap_X0_done : GoodIn wsX5_swap (wsV RX5 89 RX0 yX0_done wsX0_done) := goodIn_app (goodIn_of _ (by decide +kernel)) ggX5_swap_X0_done
set_option maxRecDepth 20000 in
theorem ggX5_swap_X5_whoJoined : GoodIn wsX5_swap wsX5_whoJoined := goodIn_r _ [25, 2, 26, 27, 28, 29, 30, 7, 31, 32, 33, 34, 35, 36, 37, 38, 39, 40, 41, 42, 43, 44, 45, 46, 47, 48, 49, 50, 51, 52, 14, 53, 54, 55, 56, 57, 58, 59, 60, 61, 79, 80, 81, 82, 83, 84, 85, 86, 87, 88, 89, 90, 91, 92, 93, 94] (by decide +kernel) (by decide +kernel)
set_option maxRecDepth 20000 in
theorem gX5_swap_X5_whoJoined : GoodIn wsX5_swap (wsV RX5 72 RX5 yX5_whoJoined wsX5_whoJoined) := goodIn_app (goodIn_of _ (by decide +kernel)) ggX5_swap_X5_whoJoined
set_option maxRecDepth 20000 in
theorem ggX5_swap_X0_add : GoodIn wsX5_swap wsX0_add := goodIn_r _ [65, 20, 66, 67, 95, 96, 97] (by decide +kernel) (by decide +kernel)
set_option maxRecDepth 20000 in
theorem gX5_swap_X0_add : GoodIn wsX5_swap (wsV RX5 76 RX0 yX0_add wsX0_add) := goodIn_app (goodIn_of _ (by decide +kernel)) ggX5_swap_X0_add
set_option maxRecDepth 20000 in
theorem ggX5_swap_X5_takeOver : GoodIn wsX5_swap wsX5_takeOver := goodIn_r _ [71, 2, 26, 27, 72, 73, 74, 75, 7, 76, 9, 14, 77, 24, 78, 79, 80, 81, 82, 83, 84, 85, 86, 87, 88, 89, 90, 91, 92, 93, 94] (by decide +kernel) (by decide +kernel)
set_option maxRecDepth 20000 in
theorem gX5_swap_X5_takeOver : GoodIn wsX5_swap (wsV RX5 92 RX5 yX5_takeOver wsX5_takeOver) := goodIn_app (goodIn_of _ (by decide +kernel)) ggX5_swap_X5_takeOver
theorem dX5_swap_0 : decode cX5_swap 0 = .ok (.aload_n 0, 1) := by decide +kernel
theorem dX5_swap_1 : decode cX5_swap 1 = .ok (.getfield 61, 3) := by decide +kernel
theorem dX5_swap_4 : decode cX5_swap 4 = .ok (.ifCond .eq 24, 3) := by decide +kernel
theorem dX5_swap_7 : decode cX5_swap 7 = .ok (.aload_n 0, 1) := by decide +kernel
theorem dX5_swap_8 : decode cX5_swap 8 = .ok (.getfield 12, 3) := by decide +kernel
theorem dX5_swap_11 : decode cX5_swap 11 = .ok (.invokevirtual 83, 3) := by decide +kernel
theorem dX5_swap_14 : decode cX5_swap 14 = .ok (.aload_n 0, 1) := by decide +kernel
theorem dX5_swap_15 : decode cX5_swap 15 = .ok (.getfield 12, 3) := by decide +kernel
theorem dX5_swap_18 : decode cX5_swap 18 = .ok (.invokevirtual 86, 3) := by decide +kernel
theorem dX5_swap_21 : decode cX5_swap 21 = .ok (.if_icmp .ne 7, 3) := by decide +kernel
theorem dX5_swap_24 : decode cX5_swap 24 = .ok (.iconst 1, 1) := by decide +kernel
theorem dX5_swap_25 : decode cX5_swap 25 = .ok (.goto 4, 3) := by decide +kernel
theorem dX5_swap_28 : decode cX5_swap 28 = .ok (.iconst 0, 1) := by decide +kernel
theorem dX5_swap_29 : decode cX5_swap 29 = .ok (.istore_n 1, 1) := by decide +kernel
theorem dX5_swap_30 : decode cX5_swap 30 = .ok (.iload_n 1, 1) := by decide +kernel
theorem dX5_swap_31 : decode cX5_swap 31 = .ok (.ifCond .eq 33, 3) := by decide +kernel
theorem dX5_swap_34 : decode cX5_swap 34 = .ok (.aload_n 0, 1) := by decide +kernel
theorem dX5_swap_35 : decode cX5_swap 35 = .ok (.getfield 19, 3) := by decide +kernel
theorem dX5_swap_38 : decode cX5_swap 38 = .ok (.invokevirtual 89, 3) := by decide +kernel
theorem dX5_swap_41 : decode cX5_swap 41 = .ok (.iconst 1, 1) := by decide +kernel
theorem dX5_swap_42 : decode cX5_swap 42 = .ok (.if_icmp .ne 22, 3) := by decide +kernel
theorem dX5_swap_45 : decode cX5_swap 45 = .ok (.aload_n 0, 1) := by decide +kernel
theorem dX5_swap_46 : decode cX5_swap 46 = .ok (.invokevirtual 72, 3) := by decide +kernel
theorem dX5_swap_49 : decode cX5_swap 49 = .ok (.ifCond .ne 15, 3) := by decide +kernel
theorem dX5_swap_52 : decode cX5_swap 52 = .ok (.aload_n 0, 1) := by decide +kernel
theorem dX5_swap_53 : decode cX5_swap 53 = .ok (.getfield 19, 3) := by decide +kernel
theorem dX5_swap_56 : decode cX5_swap 56 = .ok (.bipush (-2), 2) := by decide +kernel
theorem dX5_swap_58 : decode cX5_swap 58 = .ok (.invokevirtual 76, 3) := by decide +kernel
theorem dX5_swap_61 : decode cX5_swap 61 = .ok (.ifCond .ne 5, 3) := by decide +kernel
theorem dX5_swap_64 : decode cX5_swap 64 = .ok (.iconst 0, 1) := by decide +kernel
theorem dX5_swap_65 : decode cX5_swap 65 = .ok (.ireturn, 1) := by decide +kernel
theorem dX5_swap_66 : decode cX5_swap 66 = .ok (.aload_n 0, 1) := by decide +kernel
theorem dX5_swap_67 : decode cX5_swap 67 = .ok (.invokevirtual 92, 3) := by decide +kernel
theorem dX5_swap_70 : decode cX5_swap 70 = .ok (.iconst 1, 1) := by decide +kernel
theorem dX5_swap_71 : decode cX5_swap 71 = .ok (.ireturn, 1) := by decide +kernel
set_option maxRecDepth 20000 in
theorem ggX5_undo_X0_back : GoodIn wsX5_undo wsX0_back := goodIn_r _ [7, 8, 9, 45, 46, 47] (by decide +kernel) (by decide +kernel)
set_option maxRecDepth 20000 in
theorem gX5_undo_X0_back : GoodIn wsX5_undo (wsV RX5 95 RX0 yX0_back wsX0_back) := goodIn_app (goodIn_of _ (by decide +kernel)) ggX5_undo_X0_back
set_option maxRecDepth 20000 in
theorem ggX5_undo_X5_giveBack : GoodIn wsX5_undo wsX5_giveBack := goodIn_r _ [14, 15, 16, 17, 2, 18, 19, 20, 21, 22, 23, 24, 25, 13, 26, 36, 37, 38, 39, 40, 41, 42, 43, 44, 48, 49, 50, 51, 52, 53, 54] (by decide +kernel) (by decide +kernel)
set_option maxRecDepth 20000 in
theorem gX5_undo_X5_giveBack : GoodIn wsX5_undo (wsV RX5 98 RX5 yX5_giveBack wsX5_giveBack) := goodIn_app (goodIn_of _ (by decide +kernel)) ggX5_undo_X5_giveBack
set_option maxRecDepth 20000 in
theorem ggX5_undo_X5_put : GoodIn wsX5_undo wsX5_put := goodIn_r _ [30, 17, 31, 16, 32, 25, 13, 26, 36, 37, 38, 39, 40, 41, 42, 43, 44] (by decide +kernel) (by decide +kernel)
set_option maxRecDepth 20000 in
theorem gX5_undo_X5_put : GoodIn wsX5_undo (wsV RX5 54 RX5 yX5_put wsX5_put) := goodIn_app (goodIn_of _ (by decide +kernel)) ggX5_undo_X5_put
set_option maxRecDepth 20000 in
theorem ggX5_undo_X5_other : GoodIn wsX5_undo wsX5_other := goodIn_r _ [35] (by decide +kernel) (by decide +kernel)
set_option maxRecDepth 20000 in
theorem gX5_undo_X5_other : GoodIn wsX5_undo (va_wsS RX5 101 yX5_other wsX5_other) := goodIn_app (goodIn_of _ (by decide +kernel)) ggX5_undo_X5_other
theorem dX5_undo_0 : decode cX5_undo 0 = .ok (.aload_n 0, 1) := by decide +kernel
theorem dX5_undo_1 : decode cX5_undo 1 = .ok (.getfield 19, 3) := by decide +kernel
theorem dX5_undo_4 : decode cX5_undo 4 = .ok (.invokevirtual 95, 3) := by decide +kernel
theorem dX5_undo_7 : decode cX5_undo 7 = .ok (.istore_n 1, 1) := by decide +kernel
