theorem dX5_takeOver_1 : decode cX5_takeOver 1 = .ok (.aload_n 0, 1) := by decide +kernel
theorem dX5_takeOver_2 : decode cX5_takeOver 2 = .ok (.getfield 12, 3) := by decide +kernel
theorem dX5_takeOver_5 : decode cX5_takeOver 5 = .ok (.aload_n 0, 1) := by decide +kernel
theorem dX5_takeOver_6 : decode cX5_takeOver 6 = .ok (.getfield 115, 3) := by decide +kernel
theorem dX5_takeOver_9 : decode cX5_takeOver 9 = .ok (.invokevirtual 111, 3) := by decide +kernel
theorem dX5_takeOver_12 : decode cX5_takeOver 12 = .ok (.putfield 107, 3) := by decide +kernel
theorem dX5_takeOver_15 : decode cX5_takeOver 15 = .ok (.aload_n 0, 1) := by decide +kernel
theorem dX5_takeOver_16 : decode cX5_takeOver 16 = .ok (.lconst 0, 1) := by decide +kernel
theorem dX5_takeOver_17 : decode cX5_takeOver 17 = .ok (.putfield 115, 3) := by decide +kernel
theorem dX5_takeOver_20 : decode cX5_takeOver 20 = .ok (.aload_n 0, 1) := by decide +kernel
theorem dX5_takeOver_21 : decode cX5_takeOver 21 = .ok (.iconst 1, 1) := by decide +kernel
theorem dX5_takeOver_22 : decode cX5_takeOver 22 = .ok (.putfield 57, 3) := by decide +kernel
theorem dX5_takeOver_25 : decode cX5_takeOver 25 = .ok (.return_, 1) := by decide +kernel
set_option maxRecDepth 20000 in
theorem ggX5_giveBack_X2_turned : GoodIn wsX5_giveBack wsX2_turned := goodIn_r _ [9, 10, 11, 12, 13, 14, 24, 25, 26, 27, 28, 29, 30] (by decide +kernel) (by decide +kernel)
set_option maxRecDepth 20000 in
theorem gX5_giveBack_X2_turned : GoodIn wsX5_giveBack (wsV RX5 111 RX2 yX2_turned wsX2_turned) := goodIn_app (goodIn_of _ (by decide +kernel)) ggX5_giveBack_X2_turned
theorem dX5_giveBack_0 : decode cX5_giveBack 0 = .ok (.aload_n 0, 1) := by decide +kernel
theorem dX5_giveBack_1 : decode cX5_giveBack 1 = .ok (.aload_n 0, 1) := by decide +kernel
theorem dX5_giveBack_2 : decode cX5_giveBack 2 = .ok (.getfield 12, 3) := by decide +kernel
theorem dX5_giveBack_5 : decode cX5_giveBack 5 = .ok (.aload_n 0, 1) := by decide +kernel
theorem dX5_giveBack_6 : decode cX5_giveBack 6 = .ok (.getfield 107, 3) := by decide +kernel
theorem dX5_giveBack_9 : decode cX5_giveBack 9 = .ok (.invokevirtual 111, 3) := by decide +kernel
theorem dX5_giveBack_12 : decode cX5_giveBack 12 = .ok (.putfield 115, 3) := by decide +kernel
theorem dX5_giveBack_15 : decode cX5_giveBack 15 = .ok (.aload_n 0, 1) := by decide +kernel
theorem dX5_giveBack_16 : decode cX5_giveBack 16 = .ok (.lconst 0, 1) := by decide +kernel
theorem dX5_giveBack_17 : decode cX5_giveBack 17 = .ok (.putfield 107, 3) := by decide +kernel
theorem dX5_giveBack_20 : decode cX5_giveBack 20 = .ok (.aload_n 0, 1) := by decide +kernel
theorem dX5_giveBack_21 : decode cX5_giveBack 21 = .ok (.iconst 2, 1) := by decide +kernel
theorem dX5_giveBack_22 : decode cX5_giveBack 22 = .ok (.putfield 57, 3) := by decide +kernel
theorem dX5_giveBack_25 : decode cX5_giveBack 25 = .ok (.return_, 1) := by decide +kernel
set_option maxRecDepth 20000 in
theorem ggX5_groupAt_X2_has : GoodIn wsX5_groupAt wsX2_has := goodIn_r _ [6, 7, 8, 44, 45, 46, 47, 48, 49, 50] (by decide +kernel) (by decide +kernel)
set_option maxRecDepth 20000 in
theorem gX5_groupAt_X2_has : GoodIn wsX5_groupAt (wsV RX5 51 RX2 yX2_has wsX2_has) := goodIn_app (goodIn_of _ (by decide +kernel)) ggX5_groupAt_X2_has
set_option maxRecDepth 20000 in
theorem ggX5_groupAt_X5_stoneAt : GoodIn wsX5_groupAt wsX5_stoneAt := goodIn_r _ [13, 14, 15, 16, 17, 12, 18, 35, 36, 37, 38, 39, 40, 41, 42, 43] (by decide +kernel) (by decide +kernel)
set_option maxRecDepth 20000 in
theorem gX5_groupAt_X5_stoneAt : GoodIn wsX5_groupAt (wsV RX5 68 RX5 yX5_stoneAt wsX5_stoneAt) := goodIn_app (goodIn_of _ (by decide +kernel)) ggX5_groupAt_X5_stoneAt
set_option maxRecDepth 20000 in
theorem ggX5_groupAt_X5_bit : GoodIn wsX5_groupAt wsX5_bit := goodIn_r _ [18] (by decide +kernel) (by decide +kernel)
set_option maxRecDepth 20000 in
theorem gX5_groupAt_X5_bit : GoodIn wsX5_groupAt (va_wsS RX5 171 yX5_bit wsX5_bit) := goodIn_app (goodIn_of _ (by decide +kernel)) ggX5_groupAt_X5_bit
set_option maxRecDepth 20000 in
theorem ggX5_groupAt_X5_stonesOf : GoodIn wsX5_groupAt wsX5_stonesOf := goodIn_r _ [22, 14, 15, 35, 36, 37, 38, 39, 40, 41, 42, 43] (by decide +kernel) (by decide +kernel)
set_option maxRecDepth 20000 in
theorem gX5_groupAt_X5_stonesOf : GoodIn wsX5_groupAt (wsV RX5 202 RX5 yX5_stonesOf wsX5_stonesOf) := goodIn_app (goodIn_of _ (by decide +kernel)) ggX5_groupAt_X5_stonesOf
set_option maxRecDepth 20000 in
theorem ggX5_groupAt_X2_spread : GoodIn wsX5_groupAt wsX2_spread := goodIn_r _ [26, 27, 28, 29, 5, 30, 31, 32, 33, 8, 34, 44, 45, 46, 47, 48, 49, 50] (by decide +kernel) (by decide +kernel)
set_option maxRecDepth 20000 in
theorem gX5_groupAt_X2_spread : GoodIn wsX5_groupAt (wsV RX5 205 RX2 yX2_spread wsX2_spread) := goodIn_app (goodIn_of _ (by decide +kernel)) ggX5_groupAt_X2_spread
theorem dX5_groupAt_0 : decode cX5_groupAt 0 = .ok (.aload_n 0, 1) := by decide +kernel
theorem dX5_groupAt_1 : decode cX5_groupAt 1 = .ok (.getfield 12, 3) := by decide +kernel
theorem dX5_groupAt_4 : decode cX5_groupAt 4 = .ok (.iload_n 1, 1) := by decide +kernel
theorem dX5_groupAt_5 : decode cX5_groupAt 5 = .ok (.invokevirtual 51, 3) := by decide +kernel
theorem dX5_groupAt_8 : decode cX5_groupAt 8 = .ok (.ifCond .ne 5, 3) := by decide +kernel
theorem dX5_groupAt_11 : decode cX5_groupAt 11 = .ok (.lconst 0, 1) := by decide +kernel
theorem dX5_groupAt_12 : decode cX5_groupAt 12 = .ok (.lreturn, 1) := by decide +kernel
theorem dX5_groupAt_13 : decode cX5_groupAt 13 = .ok (.aload_n 0, 1) := by decide +kernel
theorem dX5_groupAt_14 : decode cX5_groupAt 14 = .ok (.iload_n 1, 1) := by decide +kernel
theorem dX5_groupAt_15 : decode cX5_groupAt 15 = .ok (.invokevirtual 68, 3) := by decide +kernel
theorem dX5_groupAt_18 : decode cX5_groupAt 18 = .ok (.istore_n 2, 1) := by decide +kernel
theorem dX5_groupAt_19 : decode cX5_groupAt 19 = .ok (.iload_n 2, 1) := by decide +kernel
theorem dX5_groupAt_20 : decode cX5_groupAt 20 = .ok (.ifCond .ne 7, 3) := by decide +kernel
theorem dX5_groupAt_23 : decode cX5_groupAt 23 = .ok (.lconst 0, 1) := by decide +kernel
theorem dX5_groupAt_24 : decode cX5_groupAt 24 = .ok (.goto 19, 3) := by decide +kernel
theorem dX5_groupAt_27 : decode cX5_groupAt 27 = .ok (.aload_n 0, 1) := by decide +kernel
theorem dX5_groupAt_28 : decode cX5_groupAt 28 = .ok (.getfield 12, 3) := by decide +kernel
theorem dX5_groupAt_31 : decode cX5_groupAt 31 = .ok (.iload_n 1, 1) := by decide +kernel
theorem dX5_groupAt_32 : decode cX5_groupAt 32 = .ok (.invokestatic 171, 3) := by decide +kernel
theorem dX5_groupAt_35 : decode cX5_groupAt 35 = .ok (.aload_n 0, 1) := by decide +kernel
theorem dX5_groupAt_36 : decode cX5_groupAt 36 = .ok (.iload_n 2, 1) := by decide +kernel
theorem dX5_groupAt_37 : decode cX5_groupAt 37 = .ok (.invokevirtual 202, 3) := by decide +kernel
theorem dX5_groupAt_40 : decode cX5_groupAt 40 = .ok (.invokevirtual 205, 3) := by decide +kernel
theorem dX5_groupAt_43 : decode cX5_groupAt 43 = .ok (.lreturn, 1) := by decide +kernel
set_option maxRecDepth 20000 in
theorem ggX5_whoJoined_X2_northBank : GoodIn wsX5_whoJoined wsX2_northBank := goodIn_r _ [8, 9, 49, 50, 51, 52, 53, 54, 55] (by decide +kernel) (by decide +kernel)
set_option maxRecDepth 20000 in
theorem gX5_whoJoined_X2_northBank : GoodIn wsX5_whoJoined (wsV RX5 209 RX2 yX2_northBank wsX2_northBank) := goodIn_app (goodIn_of _ (by decide +kernel)) ggX5_whoJoined_X2_northBank
set_option maxRecDepth 20000 in
theorem ggX5_whoJoined_X2_southBank : GoodIn wsX5_whoJoined wsX2_southBank := goodIn_r _ [13, 14, 49, 50, 51, 52, 53, 54, 55] (by decide +kernel) (by decide +kernel)
set_option maxRecDepth 20000 in
theorem gX5_whoJoined_X2_southBank : GoodIn wsX5_whoJoined (wsV RX5 212 RX2 yX2_southBank wsX2_southBank) := goodIn_app (goodIn_of _ (by decide +kernel)) ggX5_whoJoined_X2_southBank
set_option maxRecDepth 20000 in
theorem ggX5_whoJoined_X2_joins : GoodIn wsX5_whoJoined wsX2_joins := goodIn_r _ [18, 19, 20, 21, 7, 22, 23, 24, 25, 26, 27, 28, 29, 30, 31, 49, 50, 51, 52, 53, 54, 55] (by decide +kernel) (by decide +kernel)
set_option maxRecDepth 20000 in
theorem gX5_whoJoined_X2_joins : GoodIn wsX5_whoJoined (wsV RX5 215 RX2 yX2_joins wsX2_joins) := goodIn_app (goodIn_of _ (by decide +kernel)) ggX5_whoJoined_X2_joins
set_option maxRecDepth 20000 in
theorem ggX5_whoJoined_X2_westBank : GoodIn wsX5_whoJoined wsX2_westBank := goodIn_r _ [35, 29, 49, 50, 51, 52, 53, 54, 55] (by decide +kernel) (by decide +kernel)
set_option maxRecDepth 20000 in
theorem gX5_whoJoined_X2_westBank : GoodIn wsX5_whoJoined (wsV RX5 219 RX2 yX2_westBank wsX2_westBank) := goodIn_app (goodIn_of _ (by decide +kernel)) ggX5_whoJoined_X2_westBank
set_option maxRecDepth 20000 in
theorem ggX5_whoJoined_X2_eastBank : GoodIn wsX5_whoJoined wsX2_eastBank := goodIn_r _ [39, 27, 49, 50, 51, 52, 53, 54, 55] (by decide +kernel) (by decide +kernel)
set_option maxRecDepth 20000 in
theorem gX5_whoJoined_X2_eastBank : GoodIn wsX5_whoJoined (wsV RX5 222 RX2 yX2_eastBank wsX2_eastBank) := goodIn_app (goodIn_of _ (by decide +kernel)) ggX5_whoJoined_X2_eastBank
theorem dX5_whoJoined_0 : decode cX5_whoJoined 0 = .ok (.aload_n 0, 1) := by decide +kernel
theorem dX5_whoJoined_1 : decode cX5_whoJoined 1 = .ok (.getfield 12, 3) := by decide +kernel
theorem dX5_whoJoined_4 : decode cX5_whoJoined 4 = .ok (.aload_n 0, 1) := by decide +kernel
theorem dX5_whoJoined_5 : decode cX5_whoJoined 5 = .ok (.getfield 115, 3) := by decide +kernel
theorem dX5_whoJoined_8 : decode cX5_whoJoined 8 = .ok (.aload_n 0, 1) := by decide +kernel
theorem dX5_whoJoined_9 : decode cX5_whoJoined 9 = .ok (.getfield 12, 3) := by decide +kernel
theorem dX5_whoJoined_12 : decode cX5_whoJoined 12 = .ok (.invokevirtual 209, 3) := by decide +kernel
theorem dX5_whoJoined_15 : decode cX5_whoJoined 15 = .ok (.aload_n 0, 1) := by decide +kernel
theorem dX5_whoJoined_16 : decode cX5_whoJoined 16 = .ok (.getfield 12, 3) := by decide +kernel
theorem dX5_whoJoined_19 : decode cX5_whoJoined 19 = .ok (.invokevirtual 212, 3) := by decide +kernel
theorem dX5_whoJoined_22 : decode cX5_whoJoined 22 = .ok (.invokevirtual 215, 3) := by decide +kernel
theorem dX5_whoJoined_25 : decode cX5_whoJoined 25 = .ok (.ifCond .eq 5, 3) := by decide +kernel
theorem dX5_whoJoined_28 : decode cX5_whoJoined 28 = .ok (.iconst 1, 1) := by decide +kernel
theorem dX5_whoJoined_29 : decode cX5_whoJoined 29 = .ok (.ireturn, 1) := by decide +kernel
theorem dX5_whoJoined_30 : decode cX5_whoJoined 30 = .ok (.aload_n 0, 1) := by decide +kernel
theorem dX5_whoJoined_31 : decode cX5_whoJoined 31 = .ok (.getfield 12, 3) := by decide +kernel
theorem dX5_whoJoined_34 : decode cX5_whoJoined 34 = .ok (.aload_n 0, 1) := by decide +kernel
theorem dX5_whoJoined_35 : decode cX5_whoJoined 35 = .ok (.getfield 107, 3) := by decide +kernel
theorem dX5_whoJoined_38 : decode cX5_whoJoined 38 = .ok (.aload_n 0, 1) := by decide +kernel
theorem dX5_whoJoined_39 : decode cX5_whoJoined 39 = .ok (.getfield 12, 3) := by decide +kernel
theorem dX5_whoJoined_42 : decode cX5_whoJoined 42 = .ok (.invokevirtual 219, 3) := by decide +kernel
theorem dX5_whoJoined_45 : decode cX5_whoJoined 45 = .ok (.aload_n 0, 1) := by decide +kernel
theorem dX5_whoJoined_46 : decode cX5_whoJoined 46 = .ok (.getfield 12, 3) := by decide +kernel
theorem dX5_whoJoined_49 : decode cX5_whoJoined 49 = .ok (.invokevirtual 222, 3) := by decide +kernel
theorem dX5_whoJoined_52 : decode cX5_whoJoined 52 = .ok (.invokevirtual 215, 3) := by decide +kernel
theorem dX5_whoJoined_55 : decode cX5_whoJoined 55 = .ok (.ifCond .eq 7, 3) := by decide +kernel
theorem dX5_whoJoined_58 : decode cX5_whoJoined 58 = .ok (.iconst 2, 1) := by decide +kernel
theorem dX5_whoJoined_59 : decode cX5_whoJoined 59 = .ok (.goto 4, 3) := by decide +kernel
theorem dX5_whoJoined_62 : decode cX5_whoJoined 62 = .ok (.iconst 0, 1) := by decide +kernel
theorem dX5_whoJoined_63 : decode cX5_whoJoined 63 = .ok (.ireturn, 1) := by decide +kernel
set_option maxRecDepth 20000 in
theorem ggX5_findPath_X5_whoJoined : GoodIn wsX5_findPath wsX5_whoJoined := goodIn_r _ [9, 2, 3, 4, 10, 11, 12, 13, 14, 15, 16, 17, 18, 19, 20, 21, 22, 23, 24, 25, 26, 27, 28, 29, 30, 31, 32, 33, 34, 35, 36, 37, 38, 39, 40, 41, 42, 43, 44, 45, 76, 77, 78, 79, 80, 81, 82, 83, 84, 85, 86, 87, 88, 89, 90, 91] (by decide +kernel) (by decide +kernel)
set_option maxRecDepth 20000 in
theorem gX5_findPath_X5_whoJoined : GoodIn wsX5_findPath (wsV RX5 72 RX5 yX5_whoJoined wsX5_whoJoined) := goodIn_app (goodIn_of _ (by decide +kernel)) ggX5_findPath_X5_whoJoined
set_option maxRecDepth 20000 in
theorem ggX5_findPath_X2_northBank : GoodIn wsX5_findPath wsX2_northBank := goodIn_r _ [14, 15, 85, 86, 87, 88, 89, 90, 91] (by decide +kernel) (by decide +kernel)
set_option maxRecDepth 20000 in
theorem gX5_findPath_X2_northBank : GoodIn wsX5_findPath (wsV RX5 209 RX2 yX2_northBank wsX2_northBank) := goodIn_app (goodIn_of _ (by decide +kernel)) ggX5_findPath_X2_northBank
set_option maxRecDepth 20000 in
theorem ggX5_findPath_X2_southBank : GoodIn wsX5_findPath wsX2_southBank := goodIn_r _ [19, 20, 85, 86, 87, 88, 89, 90, 91] (by decide +kernel) (by decide +kernel)
set_option maxRecDepth 20000 in
theorem gX5_findPath_X2_southBank : GoodIn wsX5_findPath (wsV RX5 212 RX2 yX2_southBank wsX2_southBank) := goodIn_app (goodIn_of _ (by decide +kernel)) ggX5_findPath_X2_southBank
set_option maxRecDepth 20000 in
theorem ggX5_findPath_X4_find : GoodIn wsX5_findPath wsX4_find := goodIn_r _ [50, 51, 52, 53, 54, 55, 49, 56, 57, 58, 59, 60, 61, 62, 63, 8, 64, 65, 66, 67, 68, 69, 70, 71, 72, 73, 74, 30, 31, 13, 32, 33, 34, 35, 36, 37, 92, 93, 94, 85, 86, 87, 88, 89, 90, 91] (by decide +kernel) (by decide +kernel)
set_option maxRecDepth 20000 in
theorem gX5_findPath_X4_find : GoodIn wsX5_findPath (wsV RX5 225 RX4 yX4_find wsX4_find) := goodIn_app (goodIn_of _ (by decide +kernel)) ggX5_findPath_X4_find
set_option maxRecDepth 20000 in
theorem ggX5_findPath_X2_westBank : GoodIn wsX5_findPath wsX2_westBank := goodIn_r _ [41, 35, 85, 86, 87, 88, 89, 90, 91] (by decide +kernel) (by decide +kernel)
set_option maxRecDepth 20000 in
theorem gX5_findPath_X2_westBank : GoodIn wsX5_findPath (wsV RX5 219 RX2 yX2_westBank wsX2_westBank) := goodIn_app (goodIn_of _ (by decide +kernel)) ggX5_findPath_X2_westBank
set_option maxRecDepth 20000 in
theorem ggX5_findPath_X2_eastBank : GoodIn wsX5_findPath wsX2_eastBank := goodIn_r _ [45, 33, 85, 86, 87, 88, 89, 90, 91] (by decide +kernel) (by decide +kernel)
set_option maxRecDepth 20000 in
theorem gX5_findPath_X2_eastBank : GoodIn wsX5_findPath (wsV RX5 222 RX2 yX2_eastBank wsX2_eastBank) := goodIn_app (goodIn_of _ (by decide +kernel)) ggX5_findPath_X2_eastBank
set_option maxRecDepth 20000 in
theorem ggX5_findPath_X4_forget : GoodIn wsX5_findPath wsX4_forget := goodIn_r _ [56, 57, 92, 93, 94] (by decide +kernel) (by decide +kernel)
set_option maxRecDepth 20000 in
theorem gX5_findPath_X4_forget : GoodIn wsX5_findPath (wsV RX5 229 RX4 yX4_forget wsX4_forget) := goodIn_app (goodIn_of _ (by decide +kernel)) ggX5_findPath_X4_forget
theorem dX5_findPath_0 : decode cX5_findPath 0 = .ok (.aload_n 0, 1) := by decide +kernel
theorem dX5_findPath_1 : decode cX5_findPath 1 = .ok (.invokevirtual 72, 3) := by decide +kernel
theorem dX5_findPath_4 : decode cX5_findPath 4 = .ok (.istore_n 1, 1) := by decide +kernel
theorem dX5_findPath_5 : decode cX5_findPath 5 = .ok (.iload_n 1, 1) := by decide +kernel
theorem dX5_findPath_6 : decode cX5_findPath 6 = .ok (.iconst 1, 1) := by decide +kernel
theorem dX5_findPath_7 : decode cX5_findPath 7 = .ok (.if_icmp .ne 35, 3) := by decide +kernel
theorem dX5_findPath_10 : decode cX5_findPath 10 = .ok (.aload_n 0, 1) := by decide +kernel
theorem dX5_findPath_11 : decode cX5_findPath 11 = .ok (.getfield 26, 3) := by decide +kernel
theorem dX5_findPath_14 : decode cX5_findPath 14 = .ok (.aload_n 0, 1) := by decide +kernel
theorem dX5_findPath_15 : decode cX5_findPath 15 = .ok (.getfield 12, 3) := by decide +kernel
theorem dX5_findPath_18 : decode cX5_findPath 18 = .ok (.aload_n 0, 1) := by decide +kernel
theorem dX5_findPath_19 : decode cX5_findPath 19 = .ok (.getfield 115, 3) := by decide +kernel
theorem dX5_findPath_22 : decode cX5_findPath 22 = .ok (.aload_n 0, 1) := by decide +kernel
theorem dX5_findPath_23 : decode cX5_findPath 23 = .ok (.getfield 12, 3) := by decide +kernel
theorem dX5_findPath_26 : decode cX5_findPath 26 = .ok (.invokevirtual 209, 3) := by decide +kernel
theorem dX5_findPath_29 : decode cX5_findPath 29 = .ok (.aload_n 0, 1) := by decide +kernel
theorem dX5_findPath_30 : decode cX5_findPath 30 = .ok (.getfield 12, 3) := by decide +kernel
theorem dX5_findPath_33 : decode cX5_findPath 33 = .ok (.invokevirtual 212, 3) := by decide +kernel
theorem dX5_findPath_36 : decode cX5_findPath 36 = .ok (.invokevirtual 225, 3) := by decide +kernel
theorem dX5_findPath_39 : decode cX5_findPath 39 = .ok (.goto 47, 3) := by decide +kernel
theorem dX5_findPath_42 : decode cX5_findPath 42 = .ok (.iload_n 1, 1) := by decide +kernel
theorem dX5_findPath_43 : decode cX5_findPath 43 = .ok (.iconst 2, 1) := by decide +kernel
theorem dX5_findPath_44 : decode cX5_findPath 44 = .ok (.if_icmp .ne 35, 3) := by decide +kernel
theorem dX5_findPath_47 : decode cX5_findPath 47 = .ok (.aload_n 0, 1) := by decide +kernel
theorem dX5_findPath_48 : decode cX5_findPath 48 = .ok (.getfield 26, 3) := by decide +kernel
theorem dX5_findPath_51 : decode cX5_findPath 51 = .ok (.aload_n 0, 1) := by decide +kernel
theorem dX5_findPath_52 : decode cX5_findPath 52 = .ok (.getfield 12, 3) := by decide +kernel
theorem dX5_findPath_55 : decode cX5_findPath 55 = .ok (.aload_n 0, 1) := by decide +kernel
theorem dX5_findPath_56 : decode cX5_findPath 56 = .ok (.getfield 107, 3) := by decide +kernel
theorem dX5_findPath_59 : decode cX5_findPath 59 = .ok (.aload_n 0, 1) := by decide +kernel
theorem dX5_findPath_60 : decode cX5_findPath 60 = .ok (.getfield 12, 3) := by decide +kernel
theorem dX5_findPath_63 : decode cX5_findPath 63 = .ok (.invokevirtual 219, 3) := by decide +kernel
theorem dX5_findPath_66 : decode cX5_findPath 66 = .ok (.aload_n 0, 1) := by decide +kernel
theorem dX5_findPath_67 : decode cX5_findPath 67 = .ok (.getfield 12, 3) := by decide +kernel
theorem dX5_findPath_70 : decode cX5_findPath 70 = .ok (.invokevirtual 222, 3) := by decide +kernel
theorem dX5_findPath_73 : decode cX5_findPath 73 = .ok (.invokevirtual 225, 3) := by decide +kernel
theorem dX5_findPath_76 : decode cX5_findPath 76 = .ok (.goto 10, 3) := by decide +kernel
theorem dX5_findPath_79 : decode cX5_findPath 79 = .ok (.aload_n 0, 1) := by decide +kernel
theorem dX5_findPath_80 : decode cX5_findPath 80 = .ok (.getfield 26, 3) := by decide +kernel
theorem dX5_findPath_83 : decode cX5_findPath 83 = .ok (.invokevirtual 229, 3) := by decide +kernel
theorem dX5_findPath_86 : decode cX5_findPath 86 = .ok (.return_, 1) := by decide +kernel
set_option maxRecDepth 20000 in
theorem ggX5_askBanks_X2_northBank : GoodIn wsX5_askBanks wsX2_northBank := goodIn_r _ [9, 10, 103, 104, 105, 106, 107, 108, 109] (by decide +kernel) (by decide +kernel)
set_option maxRecDepth 20000 in
theorem gX5_askBanks_X2_northBank : GoodIn wsX5_askBanks (wsV RX5 209 RX2 yX2_northBank wsX2_northBank) := goodIn_app (goodIn_of _ (by decide +kernel)) ggX5_askBanks_X2_northBank
set_option maxRecDepth 20000 in
theorem ggX5_askBanks_X2_southBank : GoodIn wsX5_askBanks wsX2_southBank := goodIn_r _ [14, 15, 103, 104, 105, 106, 107, 108, 109] (by decide +kernel) (by decide +kernel)
set_option maxRecDepth 20000 in
theorem gX5_askBanks_X2_southBank : GoodIn wsX5_askBanks (wsV RX5 212 RX2 yX2_southBank wsX2_southBank) := goodIn_app (goodIn_of _ (by decide +kernel)) ggX5_askBanks_X2_southBank
set_option maxRecDepth 20000 in
theorem ggX5_askBanks_X1_ask : GoodIn wsX5_askBanks wsX1_ask := goodIn_r _ [20, 21, 22, 23, 24, 25, 26, 27, 28, 29, 8, 30, 31, 32, 33, 34, 35, 36, 37, 38, 39, 19, 40, 41, 42, 43, 44, 45, 46, 47, 48, 49, 50, 51, 52, 53, 54, 55, 56, 57, 58, 59, 60, 61, 62, 63, 64, 65, 66, 67, 68, 69, 70, 71, 72, 73, 74, 75, 76, 77, 78, 79, 80, 81, 82, 83, 84, 85, 86, 87, 88, 89, 90, 91, 92, 93, 110, 111, 112, 113, 114, 115, 116, 117, 118, 119, 120, 121, 122, 123, 124, 103, 104, 105, 106, 107, 108, 109, 125] (by decide +kernel) (by decide +kernel)
set_option maxRecDepth 20000 in
theorem gX5_askBanks_X1_ask : GoodIn wsX5_askBanks (wsV RX5 230 RX1 yX1_ask wsX1_ask) := goodIn_app (goodIn_of _ (by decide +kernel)) ggX5_askBanks_X1_ask
theorem dX5_askBanks_0 : decode cX5_askBanks 0 = .ok (.aload_n 0, 1) := by decide +kernel
theorem dX5_askBanks_1 : decode cX5_askBanks 1 = .ok (.getfield 33, 3) := by decide +kernel
theorem dX5_askBanks_4 : decode cX5_askBanks 4 = .ok (.aload_n 0, 1) := by decide +kernel
theorem dX5_askBanks_5 : decode cX5_askBanks 5 = .ok (.getfield 12, 3) := by decide +kernel
theorem dX5_askBanks_8 : decode cX5_askBanks 8 = .ok (.aload_n 0, 1) := by decide +kernel
theorem dX5_askBanks_9 : decode cX5_askBanks 9 = .ok (.getfield 115, 3) := by decide +kernel
theorem dX5_askBanks_12 : decode cX5_askBanks 12 = .ok (.aload_n 0, 1) := by decide +kernel
theorem dX5_askBanks_13 : decode cX5_askBanks 13 = .ok (.getfield 107, 3) := by decide +kernel
theorem dX5_askBanks_16 : decode cX5_askBanks 16 = .ok (.aload_n 0, 1) := by decide +kernel
theorem dX5_askBanks_17 : decode cX5_askBanks 17 = .ok (.getfield 12, 3) := by decide +kernel
theorem dX5_askBanks_20 : decode cX5_askBanks 20 = .ok (.invokevirtual 209, 3) := by decide +kernel
theorem dX5_askBanks_23 : decode cX5_askBanks 23 = .ok (.aload_n 0, 1) := by decide +kernel
theorem dX5_askBanks_24 : decode cX5_askBanks 24 = .ok (.getfield 12, 3) := by decide +kernel
theorem dX5_askBanks_27 : decode cX5_askBanks 27 = .ok (.invokevirtual 212, 3) := by decide +kernel
theorem dX5_askBanks_30 : decode cX5_askBanks 30 = .ok (.invokevirtual 230, 3) := by decide +kernel
theorem dX5_askBanks_33 : decode cX5_askBanks 33 = .ok (.return_, 1) := by decide +kernel
set_option maxRecDepth 20000 in
theorem ggX5_canLink_X5_isColour : GoodIn wsX5_canLink wsX5_isColour := goodIn_r _ [5] (by decide +kernel) (by decide +kernel)
set_option maxRecDepth 20000 in
theorem gX5_canLink_X5_isColour : GoodIn wsX5_canLink (va_wsS RX5 48 yX5_isColour wsX5_isColour) := goodIn_app (goodIn_of _ (by decide +kernel)) ggX5_canLink_X5_isColour
set_option maxRecDepth 20000 in
theorem ggX5_canLink_X2_has : GoodIn wsX5_canLink wsX2_has := goodIn_r _ [10, 11, 12, 55, 56, 57, 58, 59, 60, 61] (by decide +kernel) (by decide +kernel)
set_option maxRecDepth 20000 in
theorem gX5_canLink_X2_has : GoodIn wsX5_canLink (wsV RX5 51 RX2 yX2_has wsX2_has) := goodIn_app (goodIn_of _ (by decide +kernel)) ggX5_canLink_X2_has
set_option maxRecDepth 20000 in
theorem ggX5_canLink_X5_other : GoodIn wsX5_canLink wsX5_other := goodIn_r _ [15] (by decide +kernel) (by decide +kernel)
set_option maxRecDepth 20000 in
theorem gX5_canLink_X5_other : GoodIn wsX5_canLink (va_wsS RX5 101 yX5_other wsX5_other) := goodIn_app (goodIn_of _ (by decide +kernel)) ggX5_canLink_X5_other
set_option maxRecDepth 20000 in
theorem ggX5_canLink_X5_stonesOf : GoodIn wsX5_canLink wsX5_stonesOf := goodIn_r _ [19, 20, 21, 46, 47, 48, 49, 50, 51, 52, 53, 54] (by decide +kernel) (by decide +kernel)
set_option maxRecDepth 20000 in
theorem gX5_canLink_X5_stonesOf : GoodIn wsX5_canLink (wsV RX5 202 RX5 yX5_stonesOf wsX5_stonesOf) := goodIn_app (goodIn_of _ (by decide +kernel)) ggX5_canLink_X5_stonesOf
set_option maxRecDepth 20000 in
theorem ggX5_canLink_X5_bit : GoodIn wsX5_canLink wsX5_bit := goodIn_r _ [24] (by decide +kernel) (by decide +kernel)
set_option maxRecDepth 20000 in
theorem gX5_canLink_X5_bit : GoodIn wsX5_canLink (va_wsS RX5 171 yX5_bit wsX5_bit) := goodIn_app (goodIn_of _ (by decide +kernel)) ggX5_canLink_X5_bit
set_option maxRecDepth 20000 in
theorem ggX5_canLink_X5_tooManyEmpty : GoodIn wsX5_canLink wsX5_tooManyEmpty := goodIn_r _ [28, 29, 30, 31, 4, 32, 1, 20, 21, 33, 34, 35, 36, 9, 37, 38, 39, 40, 41, 42, 43, 44, 45, 46, 47, 48, 49, 50, 51, 52, 53, 54, 55, 56, 57, 58, 59, 60, 61] (by decide +kernel) (by decide +kernel)
set_option maxRecDepth 20000 in
theorem gX5_canLink_X5_tooManyEmpty : GoodIn wsX5_canLink (wsV RX5 150 RX5 yX5_tooManyEmpty wsX5_tooManyEmpty) := goodIn_app (goodIn_of _ (by decide +kernel)) ggX5_canLink_X5_tooManyEmpty
theorem dX5_canLink_0 : decode cX5_canLink 0 = .ok (.iload_n 1, 1) := by decide +kernel
theorem dX5_canLink_1 : decode cX5_canLink 1 = .ok (.invokestatic 48, 3) := by decide +kernel
theorem dX5_canLink_4 : decode cX5_canLink 4 = .ok (.ifCond .eq 30, 3) := by decide +kernel
theorem dX5_canLink_7 : decode cX5_canLink 7 = .ok (.aload_n 0, 1) := by decide +kernel
theorem dX5_canLink_8 : decode cX5_canLink 8 = .ok (.getfield 12, 3) := by decide +kernel
theorem dX5_canLink_11 : decode cX5_canLink 11 = .ok (.iload_n 2, 1) := by decide +kernel
theorem dX5_canLink_12 : decode cX5_canLink 12 = .ok (.invokevirtual 51, 3) := by decide +kernel
theorem dX5_canLink_15 : decode cX5_canLink 15 = .ok (.ifCond .eq 19, 3) := by decide +kernel
theorem dX5_canLink_18 : decode cX5_canLink 18 = .ok (.aload_n 0, 1) := by decide +kernel
theorem dX5_canLink_19 : decode cX5_canLink 19 = .ok (.getfield 12, 3) := by decide +kernel
theorem dX5_canLink_22 : decode cX5_canLink 22 = .ok (.iload_n 3, 1) := by decide +kernel
theorem dX5_canLink_23 : decode cX5_canLink 23 = .ok (.invokevirtual 51, 3) := by decide +kernel
theorem dX5_canLink_26 : decode cX5_canLink 26 = .ok (.ifCond .eq 8, 3) := by decide +kernel
theorem dX5_canLink_29 : decode cX5_canLink 29 = .ok (.iload_n 2, 1) := by decide +kernel
theorem dX5_canLink_30 : decode cX5_canLink 30 = .ok (.iload_n 3, 1) := by decide +kernel
theorem dX5_canLink_31 : decode cX5_canLink 31 = .ok (.if_icmp .ne 5, 3) := by decide +kernel
theorem dX5_canLink_34 : decode cX5_canLink 34 = .ok (.iconst 0, 1) := by decide +kernel
theorem dX5_canLink_35 : decode cX5_canLink 35 = .ok (.ireturn, 1) := by decide +kernel
theorem dX5_canLink_36 : decode cX5_canLink 36 = .ok (.aload_n 0, 1) := by decide +kernel
theorem dX5_canLink_37 : decode cX5_canLink 37 = .ok (.iload_n 1, 1) := by decide +kernel
theorem dX5_canLink_38 : decode cX5_canLink 38 = .ok (.invokestatic 101, 3) := by decide +kernel
theorem dX5_canLink_41 : decode cX5_canLink 41 = .ok (.invokevirtual 202, 3) := by decide +kernel
theorem dX5_canLink_44 : decode cX5_canLink 44 = .ok (.lstore 4, 2) := by decide +kernel
theorem dX5_canLink_46 : decode cX5_canLink 46 = .ok (.lload 4, 2) := by decide +kernel
theorem dX5_canLink_48 : decode cX5_canLink 48 = .ok (.iload_n 2, 1) := by decide +kernel
theorem dX5_canLink_49 : decode cX5_canLink 49 = .ok (.invokestatic 171, 3) := by decide +kernel
theorem dX5_canLink_52 : decode cX5_canLink 52 = .ok (.iload_n 3, 1) := by decide +kernel
theorem dX5_canLink_53 : decode cX5_canLink 53 = .ok (.invokestatic 171, 3) := by decide +kernel
theorem dX5_canLink_56 : decode cX5_canLink 56 = .ok (.lor, 1) := by decide +kernel
theorem dX5_canLink_57 : decode cX5_canLink 57 = .ok (.land, 1) := by decide +kernel
theorem dX5_canLink_58 : decode cX5_canLink 58 = .ok (.lconst 0, 1) := by decide +kernel
theorem dX5_canLink_59 : decode cX5_canLink 59 = .ok (.lcmp, 1) := by decide +kernel
theorem dX5_canLink_60 : decode cX5_canLink 60 = .ok (.ifCond .ne 14, 3) := by decide +kernel
theorem dX5_canLink_63 : decode cX5_canLink 63 = .ok (.aload_n 0, 1) := by decide +kernel
theorem dX5_canLink_64 : decode cX5_canLink 64 = .ok (.invokevirtual 150, 3) := by decide +kernel
theorem dX5_canLink_67 : decode cX5_canLink 67 = .ok (.ifCond .ne 7, 3) := by decide +kernel
theorem dX5_canLink_70 : decode cX5_canLink 70 = .ok (.iconst 1, 1) := by decide +kernel
theorem dX5_canLink_71 : decode cX5_canLink 71 = .ok (.goto 4, 3) := by decide +kernel
theorem dX5_canLink_74 : decode cX5_canLink 74 = .ok (.iconst 0, 1) := by decide +kernel
theorem dX5_canLink_75 : decode cX5_canLink 75 = .ok (.ireturn, 1) := by decide +kernel
set_option maxRecDepth 20000 in
theorem ggX5_askLink_X5_stonesOf : GoodIn wsX5_askLink wsX5_stonesOf := goodIn_r _ [7, 8, 9, 92, 93, 94, 95, 96, 97, 98, 99, 100] (by decide +kernel) (by decide +kernel)
set_option maxRecDepth 20000 in
theorem gX5_askLink_X5_stonesOf : GoodIn wsX5_askLink (wsV RX5 202 RX5 yX5_stonesOf wsX5_stonesOf) := goodIn_app (goodIn_of _ (by decide +kernel)) ggX5_askLink_X5_stonesOf
set_option maxRecDepth 20000 in
theorem ggX5_askLink_X5_other : GoodIn wsX5_askLink wsX5_other := goodIn_r _ [12] (by decide +kernel) (by decide +kernel)
set_option maxRecDepth 20000 in
theorem gX5_askLink_X5_other : GoodIn wsX5_askLink (va_wsS RX5 101 yX5_other wsX5_other) := goodIn_app (goodIn_of _ (by decide +kernel)) ggX5_askLink_X5_other
set_option maxRecDepth 20000 in
theorem ggX5_askLink_X5_bit : GoodIn wsX5_askLink wsX5_bit := goodIn_r _ [15] (by decide +kernel) (by decide +kernel)
set_option maxRecDepth 20000 in
theorem gX5_askLink_X5_bit : GoodIn wsX5_askLink (va_wsS RX5 171 yX5_bit wsX5_bit) := goodIn_app (goodIn_of _ (by decide +kernel)) ggX5_askLink_X5_bit
set_option maxRecDepth 20000 in
theorem ggX5_askLink_X1_ask : GoodIn wsX5_askLink wsX1_ask := goodIn_r _ [20, 21, 22, 23, 24, 25, 26, 27, 28, 29, 30, 31, 32, 33, 34, 35, 36, 37, 38, 39, 40, 19, 41, 42, 43, 44, 45, 46, 47, 48, 49, 50, 51, 52, 53, 54, 55, 56, 57, 58, 59, 60, 61, 62, 63, 64, 65, 66, 67, 68, 69, 70, 71, 72, 73, 74, 75, 76, 77, 78, 79, 80, 81, 82, 83, 84, 85, 86, 87, 88, 89, 90, 91, 14, 6, 15, 101, 102, 103, 104, 105, 106, 107, 108, 109, 110, 111, 112, 113, 114, 115, 116, 117, 118, 119, 120, 121, 122, 123] (by decide +kernel) (by decide +kernel)
set_option maxRecDepth 20000 in
theorem gX5_askLink_X1_ask : GoodIn wsX5_askLink (wsV RX5 230 RX1 yX1_ask wsX1_ask) := goodIn_app (goodIn_of _ (by decide +kernel)) ggX5_askLink_X1_ask
theorem dX5_askLink_0 : decode cX5_askLink 0 = .ok (.aload_n 0, 1) := by decide +kernel
theorem dX5_askLink_1 : decode cX5_askLink 1 = .ok (.getfield 37, 3) := by decide +kernel
theorem dX5_askLink_4 : decode cX5_askLink 4 = .ok (.aload_n 0, 1) := by decide +kernel
theorem dX5_askLink_5 : decode cX5_askLink 5 = .ok (.getfield 12, 3) := by decide +kernel
theorem dX5_askLink_8 : decode cX5_askLink 8 = .ok (.aload_n 0, 1) := by decide +kernel
theorem dX5_askLink_9 : decode cX5_askLink 9 = .ok (.iload_n 1, 1) := by decide +kernel
theorem dX5_askLink_10 : decode cX5_askLink 10 = .ok (.invokevirtual 202, 3) := by decide +kernel
theorem dX5_askLink_13 : decode cX5_askLink 13 = .ok (.aload_n 0, 1) := by decide +kernel
theorem dX5_askLink_14 : decode cX5_askLink 14 = .ok (.iload_n 1, 1) := by decide +kernel
theorem dX5_askLink_15 : decode cX5_askLink 15 = .ok (.invokestatic 101, 3) := by decide +kernel
theorem dX5_askLink_18 : decode cX5_askLink 18 = .ok (.invokevirtual 202, 3) := by decide +kernel
theorem dX5_askLink_21 : decode cX5_askLink 21 = .ok (.iload_n 2, 1) := by decide +kernel
theorem dX5_askLink_22 : decode cX5_askLink 22 = .ok (.invokestatic 171, 3) := by decide +kernel
theorem dX5_askLink_25 : decode cX5_askLink 25 = .ok (.iload_n 3, 1) := by decide +kernel
theorem dX5_askLink_26 : decode cX5_askLink 26 = .ok (.invokestatic 171, 3) := by decide +kernel
theorem dX5_askLink_29 : decode cX5_askLink 29 = .ok (.invokevirtual 230, 3) := by decide +kernel
theorem dX5_askLink_32 : decode cX5_askLink 32 = .ok (.return_, 1) := by decide +kernel
set_option maxRecDepth 20000 in
theorem ggX5_howManyDead_X5_tooManyEmpty : GoodIn wsX5_howManyDead wsX5_tooManyEmpty := goodIn_r _ [6, 7, 8, 9, 5, 10, 11, 12, 13, 14, 15, 16, 17, 18, 19, 20, 21, 22, 23, 24, 25, 26, 27, 126, 127, 128, 129, 130, 131, 132, 133, 134, 135, 136, 137, 138, 139, 140, 141] (by decide +kernel) (by decide +kernel)
set_option maxRecDepth 20000 in
theorem gX5_howManyDead_X5_tooManyEmpty : GoodIn wsX5_howManyDead (wsV RX5 150 RX5 yX5_tooManyEmpty wsX5_tooManyEmpty) := goodIn_app (goodIn_of _ (by decide +kernel)) ggX5_howManyDead_X5_tooManyEmpty
set_option maxRecDepth 20000 in
theorem ggX5_howManyDead_X5_askBanks : GoodIn wsX5_howManyDead wsX5_askBanks := goodIn_r _ [31, 1, 11, 12, 13, 32, 33, 34, 18, 35, 36, 37, 38, 39, 40, 41, 42, 43, 44, 45, 46, 47, 48, 49, 50, 51, 52, 53, 54, 55, 56, 57, 58, 59, 60, 61, 62, 63, 64, 65, 66, 67, 68, 69, 70, 71, 72, 73, 74, 75, 76, 77, 78, 79, 80, 16, 17, 19, 20, 81, 22, 23, 24, 25, 26, 27, 82, 83, 84, 85, 86, 87, 88, 89, 90, 91, 92, 93, 94, 95, 96, 97, 98, 99, 100, 101, 102, 103, 104, 105, 106, 107, 5, 108, 126, 127, 128, 129, 130, 131, 132, 133, 134, 135, 136, 137, 138, 139, 140, 141, 142, 143, 144, 145, 146, 147, 148, 149, 150, 151, 152, 153, 154, 155, 156, 157] (by decide +kernel) (by decide +kernel)
set_option maxRecDepth 20000 in
theorem gX5_howManyDead_X5_askBanks : GoodIn wsX5_howManyDead (wsV RX5 154 RX5 yX5_askBanks wsX5_askBanks) := goodIn_app (goodIn_of _ (by decide +kernel)) ggX5_howManyDead_X5_askBanks
set_option maxRecDepth 20000 in
theorem ggX5_howManyDead_X1_deadFields : GoodIn wsX5_howManyDead wsX1_deadFields := goodIn_r _ [112, 76, 113, 114, 115, 116, 45, 117, 73, 68, 107, 5, 108, 118, 119, 120, 121, 74, 77, 122, 123, 124, 85, 125, 87, 142, 143, 144, 145, 146, 147, 148, 149, 150, 151, 152, 153, 154, 155, 156, 157] (by decide +kernel) (by decide +kernel)
set_option maxRecDepth 20000 in
theorem gX5_howManyDead_X1_deadFields : GoodIn wsX5_howManyDead (wsV RX5 168 RX1 yX1_deadFields wsX1_deadFields) := goodIn_app (goodIn_of _ (by decide +kernel)) ggX5_howManyDead_X1_deadFields
set_option maxRecDepth 20000 in
theorem ggX5_howManyDead_J13_bitCount_95d88 : GoodIn wsX5_howManyDead wsJ13_bitCount_95d88 := goodIn_r _ [24, 25, 26, 27] (by decide +kernel) (by decide +kernel)
set_option maxRecDepth 20000 in
theorem gX5_howManyDead_J13_bitCount_95d88 : GoodIn wsX5_howManyDead (va_wsS RX5 129 yJ13_bitCount_95d88 wsJ13_bitCount_95d88) := goodIn_app (goodIn_of _ (by decide +kernel)) ggX5_howManyDead_J13_bitCount_95d88
theorem dX5_howManyDead_0 : decode cX5_howManyDead 0 = .ok (.aload_n 0, 1) := by decide +kernel
theorem dX5_howManyDead_1 : decode cX5_howManyDead 1 = .ok (.invokevirtual 150, 3) := by decide +kernel
theorem dX5_howManyDead_4 : decode cX5_howManyDead 4 = .ok (.ifCond .eq 5, 3) := by decide +kernel
theorem dX5_howManyDead_7 : decode cX5_howManyDead 7 = .ok (.iconst (-1), 1) := by decide +kernel
theorem dX5_howManyDead_8 : decode cX5_howManyDead 8 = .ok (.ireturn, 1) := by decide +kernel
theorem dX5_howManyDead_9 : decode cX5_howManyDead 9 = .ok (.aload_n 0, 1) := by decide +kernel
theorem dX5_howManyDead_10 : decode cX5_howManyDead 10 = .ok (.invokevirtual 154, 3) := by decide +kernel
theorem dX5_howManyDead_13 : decode cX5_howManyDead 13 = .ok (.aload_n 0, 1) := by decide +kernel
theorem dX5_howManyDead_14 : decode cX5_howManyDead 14 = .ok (.getfield 33, 3) := by decide +kernel
theorem dX5_howManyDead_17 : decode cX5_howManyDead 17 = .ok (.invokevirtual 168, 3) := by decide +kernel
theorem dX5_howManyDead_20 : decode cX5_howManyDead 20 = .ok (.invokestatic 129, 3) := by decide +kernel
theorem dX5_howManyDead_23 : decode cX5_howManyDead 23 = .ok (.ireturn, 1) := by decide +kernel
theorem dX6_init_0 : decode cX6_init 0 = .ok (.aload_n 0, 1) := by decide +kernel
theorem dX6_init_1 : decode cX6_init 1 = .ok (.invokespecial 1, 3) := by decide +kernel
theorem dX6_init_4 : decode cX6_init 4 = .ok (.aload_n 0, 1) := by decide +kernel
theorem dX6_init_5 : decode cX6_init 5 = .ok (.iconst 3, 1) := by decide +kernel
theorem dX6_init_6 : decode cX6_init 6 = .ok (.putfield 7, 3) := by decide +kernel
theorem dX6_init_9 : decode cX6_init 9 = .ok (.aload_n 0, 1) := by decide +kernel
theorem dX6_init_10 : decode cX6_init 10 = .ok (.iconst 3, 1) := by decide +kernel
theorem dX6_init_11 : decode cX6_init 11 = .ok (.putfield 13, 3) := by decide +kernel
theorem dX6_init_14 : decode cX6_init 14 = .ok (.aload_n 0, 1) := by decide +kernel
theorem dX6_init_15 : decode cX6_init 15 = .ok (.iconst 1, 1) := by decide +kernel
theorem dX6_init_16 : decode cX6_init 16 = .ok (.putfield 16, 3) := by decide +kernel
theorem dX6_init_19 : decode cX6_init 19 = .ok (.aload_n 0, 1) := by decide +kernel
theorem dX6_init_20 : decode cX6_init 20 = .ok (.bipush 36, 2) := by decide +kernel
theorem dX6_init_22 : decode cX6_init 22 = .ok (.newarray .int, 2) := by decide +kernel
theorem dX6_init_24 : decode cX6_init 24 = .ok (.putfield 19, 3) := by decide +kernel
theorem dX6_init_27 : decode cX6_init 27 = .ok (.aload_n 0, 1) := by decide +kernel
theorem dX6_init_28 : decode cX6_init 28 = .ok (.bipush 80, 2) := by decide +kernel
theorem dX6_init_30 : decode cX6_init 30 = .ok (.newarray .int, 2) := by decide +kernel
theorem dX6_init_32 : decode cX6_init 32 = .ok (.putfield 23, 3) := by decide +kernel
theorem dX6_init_35 : decode cX6_init 35 = .ok (.aload_n 0, 1) := by decide +kernel
theorem dX6_init_36 : decode cX6_init 36 = .ok (.iconst 1, 1) := by decide +kernel
theorem dX6_init_37 : decode cX6_init 37 = .ok (.putfield 26, 3) := by decide +kernel
theorem dX6_init_40 : decode cX6_init 40 = .ok (.aload_n 0, 1) := by decide +kernel
theorem dX6_init_41 : decode cX6_init 41 = .ok (.bipush 36, 2) := by decide +kernel
theorem dX6_init_43 : decode cX6_init 43 = .ok (.newarray .boolean, 2) := by decide +kernel
theorem dX6_init_45 : decode cX6_init 45 = .ok (.putfield 30, 3) := by decide +kernel
theorem dX6_init_48 : decode cX6_init 48 = .ok (.aload_n 0, 1) := by decide +kernel
theorem dX6_init_49 : decode cX6_init 49 = .ok (.bipush 36, 2) := by decide +kernel
theorem dX6_init_51 : decode cX6_init 51 = .ok (.newarray .int, 2) := by decide +kernel
theorem dX6_init_53 : decode cX6_init 53 = .ok (.putfield 34, 3) := by decide +kernel
theorem dX6_init_56 : decode cX6_init 56 = .ok (.aload_n 0, 1) := by decide +kernel
theorem dX6_init_57 : decode cX6_init 57 = .ok (.bipush 36, 2) := by decide +kernel
theorem dX6_init_59 : decode cX6_init 59 = .ok (.newarray .int, 2) := by decide +kernel
theorem dX6_init_61 : decode cX6_init 61 = .ok (.putfield 37, 3) := by decide +kernel
theorem dX6_init_64 : decode cX6_init 64 = .ok (.aload_n 0, 1) := by decide +kernel
theorem dX6_init_65 : decode cX6_init 65 = .ok (.bipush 10, 2) := by decide +kernel
theorem dX6_init_67 : decode cX6_init 67 = .ok (.newarray .int, 2) := by decide +kernel
theorem dX6_init_69 : decode cX6_init 69 = .ok (.putfield 40, 3) := by decide +kernel
theorem dX6_init_72 : decode cX6_init 72 = .ok (.aload_n 0, 1) := by decide +kernel
theorem dX6_init_73 : decode cX6_init 73 = .ok (.bipush 11, 2) := by decide +kernel
theorem dX6_init_75 : decode cX6_init 75 = .ok (.newarray .int, 2) := by decide +kernel
theorem dX6_init_77 : decode cX6_init 77 = .ok (.putfield 43, 3) := by decide +kernel
theorem dX6_init_80 : decode cX6_init 80 = .ok (.aload_n 0, 1) := by decide +kernel
theorem dX6_init_81 : decode cX6_init 81 = .ok (.ldc 46, 2) := by decide +kernel
theorem dX6_init_83 : decode cX6_init 83 = .ok (.newarray .boolean, 2) := by decide +kernel
theorem dX6_init_85 : decode cX6_init 85 = .ok (.putfield 47, 3) := by decide +kernel
theorem dX6_init_88 : decode cX6_init 88 = .ok (.aload_n 0, 1) := by decide +kernel
theorem dX6_init_89 : decode cX6_init 89 = .ok (.ldc 46, 2) := by decide +kernel
theorem dX6_init_91 : decode cX6_init 91 = .ok (.newarray .boolean, 2) := by decide +kernel
theorem dX6_init_93 : decode cX6_init 93 = .ok (.putfield 50, 3) := by decide +kernel
theorem dX6_init_96 : decode cX6_init 96 = .ok (.aload_n 0, 1) := by decide +kernel
theorem dX6_init_97 : decode cX6_init 97 = .ok (.sipush 1024, 3) := by decide +kernel
theorem dX6_init_100 : decode cX6_init 100 = .ok (.newarray .boolean, 2) := by decide +kernel
theorem dX6_init_102 : decode cX6_init 102 = .ok (.putfield 53, 3) := by decide +kernel
theorem dX6_init_105 : decode cX6_init 105 = .ok (.return_, 1) := by decide +kernel
theorem dX6_lies_0 : decode cX6_lies 0 = .ok (.iload_n 0, 1) := by decide +kernel
theorem dX6_lies_1 : decode cX6_lies 1 = .ok (.iload_n 1, 1) := by decide +kernel
theorem dX6_lies_2 : decode cX6_lies 2 = .ok (.if_icmp .lt 12, 3) := by decide +kernel
theorem dX6_lies_5 : decode cX6_lies 5 = .ok (.iload_n 0, 1) := by decide +kernel
theorem dX6_lies_6 : decode cX6_lies 6 = .ok (.iload_n 2, 1) := by decide +kernel
theorem dX6_lies_7 : decode cX6_lies 7 = .ok (.if_icmp .gt 7, 3) := by decide +kernel
theorem dX6_lies_10 : decode cX6_lies 10 = .ok (.iconst 1, 1) := by decide +kernel
theorem dX6_lies_11 : decode cX6_lies 11 = .ok (.goto 4, 3) := by decide +kernel
theorem dX6_lies_14 : decode cX6_lies 14 = .ok (.iconst 0, 1) := by decide +kernel
theorem dX6_lies_15 : decode cX6_lies 15 = .ok (.ireturn, 1) := by decide +kernel
theorem dX6_fields_0 : decode cX6_fields 0 = .ok (.aload_n 0, 1) := by decide +kernel
theorem dX6_fields_1 : decode cX6_fields 1 = .ok (.getfield 7, 3) := by decide +kernel
theorem dX6_fields_4 : decode cX6_fields 4 = .ok (.aload_n 0, 1) := by decide +kernel
theorem dX6_fields_5 : decode cX6_fields 5 = .ok (.getfield 13, 3) := by decide +kernel
theorem dX6_fields_8 : decode cX6_fields 8 = .ok (.imul, 1) := by decide +kernel
theorem dX6_fields_9 : decode cX6_fields 9 = .ok (.ireturn, 1) := by decide +kernel
set_option maxRecDepth 20000 in
theorem ggX6_isField_X6_fields : GoodIn wsX6_isField wsX6_fields := goodIn_r _ [5, 6, 7, 11, 12, 13, 14, 15, 16, 17, 18, 19, 20, 21, 22, 23, 24, 25, 26, 27] (by decide +kernel) (by decide +kernel)
set_option maxRecDepth 20000 in
theorem gX6_isField_X6_fields : GoodIn wsX6_isField (wsV RX6 56 RX6 yX6_fields wsX6_fields) := goodIn_app (goodIn_of _ (by decide +kernel)) ggX6_isField_X6_fields
set_option maxRecDepth 20000 in
theorem ggX6_isField_X6_lies : GoodIn wsX6_isField wsX6_lies := goodIn_r _ [10] (by decide +kernel) (by decide +kernel)
set_option maxRecDepth 20000 in
theorem gX6_isField_X6_lies : GoodIn wsX6_isField (va_wsS RX6 60 yX6_lies wsX6_lies) := goodIn_app (goodIn_of _ (by decide +kernel)) ggX6_isField_X6_lies
theorem dX6_isField_0 : decode cX6_isField 0 = .ok (.iload_n 1, 1) := by decide +kernel
theorem dX6_isField_1 : decode cX6_isField 1 = .ok (.iconst 0, 1) := by decide +kernel
theorem dX6_isField_2 : decode cX6_isField 2 = .ok (.aload_n 0, 1) := by decide +kernel
theorem dX6_isField_3 : decode cX6_isField 3 = .ok (.invokevirtual 56, 3) := by decide +kernel
theorem dX6_isField_6 : decode cX6_isField 6 = .ok (.iconst 1, 1) := by decide +kernel
theorem dX6_isField_7 : decode cX6_isField 7 = .ok (.isub, 1) := by decide +kernel
theorem dX6_isField_8 : decode cX6_isField 8 = .ok (.invokestatic 60, 3) := by decide +kernel
theorem dX6_isField_11 : decode cX6_isField 11 = .ok (.ireturn, 1) := by decide +kernel
theorem dX6_forgets_0 : decode cX6_forgets 0 = .ok (.aload_n 0, 1) := by decide +kernel
theorem dX6_forgets_1 : decode cX6_forgets 1 = .ok (.iconst 0, 1) := by decide +kernel
theorem dX6_forgets_2 : decode cX6_forgets 2 = .ok (.putfield 64, 3) := by decide +kernel
theorem dX6_forgets_5 : decode cX6_forgets 5 = .ok (.aload_n 0, 1) := by decide +kernel
theorem dX6_forgets_6 : decode cX6_forgets 6 = .ok (.iconst 0, 1) := by decide +kernel
theorem dX6_forgets_7 : decode cX6_forgets 7 = .ok (.putfield 67, 3) := by decide +kernel
theorem dX6_forgets_10 : decode cX6_forgets 10 = .ok (.return_, 1) := by decide +kernel
set_option maxRecDepth 20000 in
theorem ggX6_board_X6_lies : GoodIn wsX6_board wsX6_lies := goodIn_r _ [9] (by decide +kernel) (by decide +kernel)
set_option maxRecDepth 20000 in
theorem gX6_board_X6_lies : GoodIn wsX6_board (va_wsS RX6 60 yX6_lies wsX6_lies) := goodIn_app (goodIn_of _ (by decide +kernel)) ggX6_board_X6_lies
set_option maxRecDepth 20000 in
theorem ggX6_board_X6_forgets : GoodIn wsX6_board wsX6_forgets := goodIn_r _ [13, 14, 15, 16, 17, 18, 19, 20, 21, 22, 23, 24, 25, 26, 27, 28, 29, 30, 31, 32] (by decide +kernel) (by decide +kernel)
set_option maxRecDepth 20000 in
theorem gX6_board_X6_forgets : GoodIn wsX6_board (wsV RX6 70 RX6 yX6_forgets wsX6_forgets) := goodIn_app (goodIn_of _ (by decide +kernel)) ggX6_board_X6_forgets
theorem dX6_board_0 : decode cX6_board 0 = .ok (.iload_n 1, 1) := by decide +kernel
theorem dX6_board_1 : decode cX6_board 1 = .ok (.iconst 1, 1) := by decide +kernel
theorem dX6_board_2 : decode cX6_board 2 = .ok (.bipush 6, 2) := by decide +kernel
theorem dX6_board_4 : decode cX6_board 4 = .ok (.invokestatic 60, 3) := by decide +kernel
theorem dX6_board_7 : decode cX6_board 7 = .ok (.ifCond .eq 13, 3) := by decide +kernel
theorem dX6_board_10 : decode cX6_board 10 = .ok (.iload_n 2, 1) := by decide +kernel
theorem dX6_board_11 : decode cX6_board 11 = .ok (.iconst 1, 1) := by decide +kernel
theorem dX6_board_12 : decode cX6_board 12 = .ok (.bipush 6, 2) := by decide +kernel
theorem dX6_board_14 : decode cX6_board 14 = .ok (.invokestatic 60, 3) := by decide +kernel
theorem dX6_board_17 : decode cX6_board 17 = .ok (.ifCond .ne 5, 3) := by decide +kernel
theorem dX6_board_20 : decode cX6_board 20 = .ok (.iconst 0, 1) := by decide +kernel
theorem dX6_board_21 : decode cX6_board 21 = .ok (.ireturn, 1) := by decide +kernel
theorem dX6_board_22 : decode cX6_board 22 = .ok (.aload_n 0, 1) := by decide +kernel
theorem dX6_board_23 : decode cX6_board 23 = .ok (.iload_n 1, 1) := by decide +kernel
theorem dX6_board_24 : decode cX6_board 24 = .ok (.putfield 7, 3) := by decide +kernel
theorem dX6_board_27 : decode cX6_board 27 = .ok (.aload_n 0, 1) := by decide +kernel
theorem dX6_board_28 : decode cX6_board 28 = .ok (.iload_n 2, 1) := by decide +kernel
theorem dX6_board_29 : decode cX6_board 29 = .ok (.putfield 13, 3) := by decide +kernel
theorem dX6_board_32 : decode cX6_board 32 = .ok (.iconst 0, 1) := by decide +kernel
theorem dX6_board_33 : decode cX6_board 33 = .ok (.istore_n 3, 1) := by decide +kernel
theorem dX6_board_34 : decode cX6_board 34 = .ok (.iload_n 3, 1) := by decide +kernel
theorem dX6_board_35 : decode cX6_board 35 = .ok (.bipush 36, 2) := by decide +kernel
theorem dX6_board_37 : decode cX6_board 37 = .ok (.if_icmp .ge 16, 3) := by decide +kernel
theorem dX6_board_40 : decode cX6_board 40 = .ok (.aload_n 0, 1) := by decide +kernel
theorem dX6_board_41 : decode cX6_board 41 = .ok (.getfield 19, 3) := by decide +kernel
theorem dX6_board_44 : decode cX6_board 44 = .ok (.iload_n 3, 1) := by decide +kernel
theorem dX6_board_45 : decode cX6_board 45 = .ok (.iconst 0, 1) := by decide +kernel
theorem dX6_board_46 : decode cX6_board 46 = .ok (.iastore, 1) := by decide +kernel
theorem dX6_board_47 : decode cX6_board 47 = .ok (.iinc 3 1, 3) := by decide +kernel
theorem dX6_board_50 : decode cX6_board 50 = .ok (.goto (-16), 3) := by decide +kernel
theorem dX6_board_53 : decode cX6_board 53 = .ok (.aload_n 0, 1) := by decide +kernel
theorem dX6_board_54 : decode cX6_board 54 = .ok (.iconst 1, 1) := by decide +kernel
theorem dX6_board_55 : decode cX6_board 55 = .ok (.putfield 16, 3) := by decide +kernel
theorem dX6_board_58 : decode cX6_board 58 = .ok (.aload_n 0, 1) := by decide +kernel
theorem dX6_board_59 : decode cX6_board 59 = .ok (.iconst 1, 1) := by decide +kernel
theorem dX6_board_60 : decode cX6_board 60 = .ok (.putfield 26, 3) := by decide +kernel
theorem dX6_board_63 : decode cX6_board 63 = .ok (.aload_n 0, 1) := by decide +kernel
theorem dX6_board_64 : decode cX6_board 64 = .ok (.invokevirtual 70, 3) := by decide +kernel
theorem dX6_board_67 : decode cX6_board 67 = .ok (.iconst 1, 1) := by decide +kernel
theorem dX6_board_68 : decode cX6_board 68 = .ok (.ireturn, 1) := by decide +kernel
set_option maxRecDepth 20000 in
theorem ggX6_set_X6_isField : GoodIn wsX6_set wsX6_isField := goodIn_r _ [8, 9, 10, 11, 7, 12, 13, 14, 15, 16, 17, 24, 25, 26, 27, 28, 29, 30, 31, 32, 33, 34, 35, 36, 37, 38, 39, 40] (by decide +kernel) (by decide +kernel)
set_option maxRecDepth 20000 in
theorem gX6_set_X6_isField : GoodIn wsX6_set (wsV RX6 73 RX6 yX6_isField wsX6_isField) := goodIn_app (goodIn_of _ (by decide +kernel)) ggX6_set_X6_isField
set_option maxRecDepth 20000 in
theorem ggX6_set_X6_lies : GoodIn wsX6_set wsX6_lies := goodIn_r _ [17] (by decide +kernel) (by decide +kernel)
set_option maxRecDepth 20000 in
theorem gX6_set_X6_lies : GoodIn wsX6_set (va_wsS RX6 60 yX6_lies wsX6_lies) := goodIn_app (goodIn_of _ (by decide +kernel)) ggX6_set_X6_lies
set_option maxRecDepth 20000 in
theorem ggX6_set_X6_forgets : GoodIn wsX6_set wsX6_forgets := goodIn_r _ [21, 22, 23, 24, 25, 26, 27, 28, 29, 30, 31, 32, 33, 34, 35, 36, 37, 38, 39, 40] (by decide +kernel) (by decide +kernel)
set_option maxRecDepth 20000 in
theorem gX6_set_X6_forgets : GoodIn wsX6_set (wsV RX6 70 RX6 yX6_forgets wsX6_forgets) := goodIn_app (goodIn_of _ (by decide +kernel)) ggX6_set_X6_forgets
theorem dX6_set_0 : decode cX6_set 0 = .ok (.aload_n 0, 1) := by decide +kernel
theorem dX6_set_1 : decode cX6_set 1 = .ok (.iload_n 1, 1) := by decide +kernel
theorem dX6_set_2 : decode cX6_set 2 = .ok (.invokevirtual 73, 3) := by decide +kernel
theorem dX6_set_5 : decode cX6_set 5 = .ok (.ifCond .eq 21, 3) := by decide +kernel
theorem dX6_set_8 : decode cX6_set 8 = .ok (.iload_n 2, 1) := by decide +kernel
theorem dX6_set_9 : decode cX6_set 9 = .ok (.iconst 0, 1) := by decide +kernel
theorem dX6_set_10 : decode cX6_set 10 = .ok (.iconst 2, 1) := by decide +kernel
theorem dX6_set_11 : decode cX6_set 11 = .ok (.invokestatic 60, 3) := by decide +kernel
theorem dX6_set_14 : decode cX6_set 14 = .ok (.ifCond .eq 12, 3) := by decide +kernel
theorem dX6_set_17 : decode cX6_set 17 = .ok (.iload_n 3, 1) := by decide +kernel
theorem dX6_set_18 : decode cX6_set 18 = .ok (.iconst 1, 1) := by decide +kernel
theorem dX6_set_19 : decode cX6_set 19 = .ok (.iconst 2, 1) := by decide +kernel
theorem dX6_set_20 : decode cX6_set 20 = .ok (.invokestatic 60, 3) := by decide +kernel
theorem dX6_set_23 : decode cX6_set 23 = .ok (.ifCond .ne 5, 3) := by decide +kernel
theorem dX6_set_26 : decode cX6_set 26 = .ok (.iconst 0, 1) := by decide +kernel
theorem dX6_set_27 : decode cX6_set 27 = .ok (.ireturn, 1) := by decide +kernel
theorem dX6_set_28 : decode cX6_set 28 = .ok (.aload_n 0, 1) := by decide +kernel
theorem dX6_set_29 : decode cX6_set 29 = .ok (.getfield 19, 3) := by decide +kernel
theorem dX6_set_32 : decode cX6_set 32 = .ok (.iload_n 1, 1) := by decide +kernel
theorem dX6_set_33 : decode cX6_set 33 = .ok (.iload_n 2, 1) := by decide +kernel
theorem dX6_set_34 : decode cX6_set 34 = .ok (.iastore, 1) := by decide +kernel
theorem dX6_set_35 : decode cX6_set 35 = .ok (.aload_n 0, 1) := by decide +kernel
theorem dX6_set_36 : decode cX6_set 36 = .ok (.iload_n 3, 1) := by decide +kernel
theorem dX6_set_37 : decode cX6_set 37 = .ok (.putfield 16, 3) := by decide +kernel
theorem dX6_set_40 : decode cX6_set 40 = .ok (.aload_n 0, 1) := by decide +kernel
theorem dX6_set_41 : decode cX6_set 41 = .ok (.iconst 0, 1) := by decide +kernel
theorem dX6_set_42 : decode cX6_set 42 = .ok (.putfield 26, 3) := by decide +kernel
theorem dX6_set_45 : decode cX6_set 45 = .ok (.aload_n 0, 1) := by decide +kernel
theorem dX6_set_46 : decode cX6_set 46 = .ok (.invokevirtual 70, 3) := by decide +kernel
theorem dX6_set_49 : decode cX6_set 49 = .ok (.iconst 1, 1) := by decide +kernel
theorem dX6_set_50 : decode cX6_set 50 = .ok (.ireturn, 1) := by decide +kernel
set_option maxRecDepth 20000 in
theorem ggX6_beside_X6_lies : GoodIn wsX6_beside wsX6_lies := goodIn_r _ [6] (by decide +kernel) (by decide +kernel)
set_option maxRecDepth 20000 in
theorem gX6_beside_X6_lies : GoodIn wsX6_beside (va_wsS RX6 60 yX6_lies wsX6_lies) := goodIn_app (goodIn_of _ (by decide +kernel)) ggX6_beside_X6_lies
theorem dX6_beside_0 : decode cX6_beside 0 = .ok (.iload_n 1, 1) := by decide +kernel
theorem dX6_beside_1 : decode cX6_beside 1 = .ok (.aload_n 0, 1) := by decide +kernel
theorem dX6_beside_2 : decode cX6_beside 2 = .ok (.getfield 13, 3) := by decide +kernel
theorem dX6_beside_5 : decode cX6_beside 5 = .ok (.idiv, 1) := by decide +kernel
theorem dX6_beside_6 : decode cX6_beside 6 = .ok (.istore_n 3, 1) := by decide +kernel
theorem dX6_beside_7 : decode cX6_beside 7 = .ok (.iload_n 1, 1) := by decide +kernel
theorem dX6_beside_8 : decode cX6_beside 8 = .ok (.aload_n 0, 1) := by decide +kernel
theorem dX6_beside_9 : decode cX6_beside 9 = .ok (.getfield 13, 3) := by decide +kernel
theorem dX6_beside_12 : decode cX6_beside 12 = .ok (.irem, 1) := by decide +kernel
theorem dX6_beside_13 : decode cX6_beside 13 = .ok (.istore 4, 2) := by decide +kernel
theorem dX6_beside_15 : decode cX6_beside 15 = .ok (.iload_n 2, 1) := by decide +kernel
theorem dX6_beside_16 : decode cX6_beside 16 = .ok (.tableswitch 69 0 4 #[36, 42, 48, 54, 60], 36) := by decide +kernel
theorem dX6_beside_52 : decode cX6_beside 52 = .ok (.iinc 4 (-1), 3) := by decide +kernel
theorem dX6_beside_55 : decode cX6_beside 55 = .ok (.goto 36, 3) := by decide +kernel
theorem dX6_beside_58 : decode cX6_beside 58 = .ok (.iinc 4 1, 3) := by decide +kernel
theorem dX6_beside_61 : decode cX6_beside 61 = .ok (.goto 30, 3) := by decide +kernel
theorem dX6_beside_64 : decode cX6_beside 64 = .ok (.iinc 3 (-1), 3) := by decide +kernel
theorem dX6_beside_67 : decode cX6_beside 67 = .ok (.goto 24, 3) := by decide +kernel
theorem dX6_beside_70 : decode cX6_beside 70 = .ok (.iinc 3 1, 3) := by decide +kernel
theorem dX6_beside_73 : decode cX6_beside 73 = .ok (.goto 18, 3) := by decide +kernel
theorem dX6_beside_76 : decode cX6_beside 76 = .ok (.iinc 3 (-1), 3) := by decide +kernel
theorem dX6_beside_79 : decode cX6_beside 79 = .ok (.iinc 4 1, 3) := by decide +kernel
theorem dX6_beside_82 : decode cX6_beside 82 = .ok (.goto 9, 3) := by decide +kernel
theorem dX6_beside_85 : decode cX6_beside 85 = .ok (.iinc 3 1, 3) := by decide +kernel
theorem dX6_beside_88 : decode cX6_beside 88 = .ok (.iinc 4 (-1), 3) := by decide +kernel
theorem dX6_beside_91 : decode cX6_beside 91 = .ok (.iload_n 3, 1) := by decide +kernel
theorem dX6_beside_92 : decode cX6_beside 92 = .ok (.iconst 0, 1) := by decide +kernel
theorem dX6_beside_93 : decode cX6_beside 93 = .ok (.aload_n 0, 1) := by decide +kernel
theorem dX6_beside_94 : decode cX6_beside 94 = .ok (.getfield 7, 3) := by decide +kernel
theorem dX6_beside_97 : decode cX6_beside 97 = .ok (.iconst 1, 1) := by decide +kernel
theorem dX6_beside_98 : decode cX6_beside 98 = .ok (.isub, 1) := by decide +kernel
theorem dX6_beside_99 : decode cX6_beside 99 = .ok (.invokestatic 60, 3) := by decide +kernel
theorem dX6_beside_102 : decode cX6_beside 102 = .ok (.ifCond .eq 30, 3) := by decide +kernel
theorem dX6_beside_105 : decode cX6_beside 105 = .ok (.iload 4, 2) := by decide +kernel
theorem dX6_beside_107 : decode cX6_beside 107 = .ok (.iconst 0, 1) := by decide +kernel
theorem dX6_beside_108 : decode cX6_beside 108 = .ok (.aload_n 0, 1) := by decide +kernel
theorem dX6_beside_109 : decode cX6_beside 109 = .ok (.getfield 13, 3) := by decide +kernel
theorem dX6_beside_112 : decode cX6_beside 112 = .ok (.iconst 1, 1) := by decide +kernel
theorem dX6_beside_113 : decode cX6_beside 113 = .ok (.isub, 1) := by decide +kernel
theorem dX6_beside_114 : decode cX6_beside 114 = .ok (.invokestatic 60, 3) := by decide +kernel
theorem dX6_beside_117 : decode cX6_beside 117 = .ok (.ifCond .eq 15, 3) := by decide +kernel
theorem dX6_beside_120 : decode cX6_beside 120 = .ok (.aload_n 0, 1) := by decide +kernel
theorem dX6_beside_121 : decode cX6_beside 121 = .ok (.getfield 13, 3) := by decide +kernel
theorem dX6_beside_124 : decode cX6_beside 124 = .ok (.iload_n 3, 1) := by decide +kernel
theorem dX6_beside_125 : decode cX6_beside 125 = .ok (.imul, 1) := by decide +kernel
theorem dX6_beside_126 : decode cX6_beside 126 = .ok (.iload 4, 2) := by decide +kernel
theorem dX6_beside_128 : decode cX6_beside 128 = .ok (.iadd, 1) := by decide +kernel
theorem dX6_beside_129 : decode cX6_beside 129 = .ok (.goto 4, 3) := by decide +kernel
theorem dX6_beside_132 : decode cX6_beside 132 = .ok (.iconst (-1), 1) := by decide +kernel
theorem dX6_beside_133 : decode cX6_beside 133 = .ok (.ireturn, 1) := by decide +kernel
theorem dX6_banks_0 : decode cX6_banks 0 = .ok (.iload_n 1, 1) := by decide +kernel
theorem dX6_banks_1 : decode cX6_banks 1 = .ok (.aload_n 0, 1) := by decide +kernel
theorem dX6_banks_2 : decode cX6_banks 2 = .ok (.getfield 13, 3) := by decide +kernel
theorem dX6_banks_5 : decode cX6_banks 5 = .ok (.idiv, 1) := by decide +kernel
theorem dX6_banks_6 : decode cX6_banks 6 = .ok (.ifCond .ne 7, 3) := by decide +kernel
theorem dX6_banks_9 : decode cX6_banks 9 = .ok (.iconst 1, 1) := by decide +kernel
theorem dX6_banks_10 : decode cX6_banks 10 = .ok (.goto 4, 3) := by decide +kernel
theorem dX6_banks_13 : decode cX6_banks 13 = .ok (.iconst 0, 1) := by decide +kernel
theorem dX6_banks_14 : decode cX6_banks 14 = .ok (.istore_n 2, 1) := by decide +kernel
theorem dX6_banks_15 : decode cX6_banks 15 = .ok (.iload_n 2, 1) := by decide +kernel
theorem dX6_banks_16 : decode cX6_banks 16 = .ok (.iload_n 1, 1) := by decide +kernel
theorem dX6_banks_17 : decode cX6_banks 17 = .ok (.aload_n 0, 1) := by decide +kernel
theorem dX6_banks_18 : decode cX6_banks 18 = .ok (.getfield 13, 3) := by decide +kernel
theorem dX6_banks_21 : decode cX6_banks 21 = .ok (.idiv, 1) := by decide +kernel
theorem dX6_banks_22 : decode cX6_banks 22 = .ok (.aload_n 0, 1) := by decide +kernel
theorem dX6_banks_23 : decode cX6_banks 23 = .ok (.getfield 7, 3) := by decide +kernel
theorem dX6_banks_26 : decode cX6_banks 26 = .ok (.iconst 1, 1) := by decide +kernel
theorem dX6_banks_27 : decode cX6_banks 27 = .ok (.isub, 1) := by decide +kernel
theorem dX6_banks_28 : decode cX6_banks 28 = .ok (.if_icmp .ne 7, 3) := by decide +kernel
theorem dX6_banks_31 : decode cX6_banks 31 = .ok (.iconst 2, 1) := by decide +kernel
theorem dX6_banks_32 : decode cX6_banks 32 = .ok (.goto 4, 3) := by decide +kernel
theorem dX6_banks_35 : decode cX6_banks 35 = .ok (.iconst 0, 1) := by decide +kernel
theorem dX6_banks_36 : decode cX6_banks 36 = .ok (.ior, 1) := by decide +kernel
theorem dX6_banks_37 : decode cX6_banks 37 = .ok (.istore_n 2, 1) := by decide +kernel
theorem dX6_banks_38 : decode cX6_banks 38 = .ok (.iload_n 2, 1) := by decide +kernel
theorem dX6_banks_39 : decode cX6_banks 39 = .ok (.iload_n 1, 1) := by decide +kernel
theorem dX6_banks_40 : decode cX6_banks 40 = .ok (.aload_n 0, 1) := by decide +kernel
theorem dX6_banks_41 : decode cX6_banks 41 = .ok (.getfield 13, 3) := by decide +kernel
theorem dX6_banks_44 : decode cX6_banks 44 = .ok (.irem, 1) := by decide +kernel
theorem dX6_banks_45 : decode cX6_banks 45 = .ok (.ifCond .ne 7, 3) := by decide +kernel
theorem dX6_banks_48 : decode cX6_banks 48 = .ok (.iconst 4, 1) := by decide +kernel
theorem dX6_banks_49 : decode cX6_banks 49 = .ok (.goto 4, 3) := by decide +kernel
theorem dX6_banks_52 : decode cX6_banks 52 = .ok (.iconst 0, 1) := by decide +kernel
theorem dX6_banks_53 : decode cX6_banks 53 = .ok (.ior, 1) := by decide +kernel
theorem dX6_banks_54 : decode cX6_banks 54 = .ok (.istore_n 2, 1) := by decide +kernel
theorem dX6_banks_55 : decode cX6_banks 55 = .ok (.iload_n 2, 1) := by decide +kernel
theorem dX6_banks_56 : decode cX6_banks 56 = .ok (.iload_n 1, 1) := by decide +kernel
theorem dX6_banks_57 : decode cX6_banks 57 = .ok (.aload_n 0, 1) := by decide +kernel
theorem dX6_banks_58 : decode cX6_banks 58 = .ok (.getfield 13, 3) := by decide +kernel
theorem dX6_banks_61 : decode cX6_banks 61 = .ok (.irem, 1) := by decide +kernel
theorem dX6_banks_62 : decode cX6_banks 62 = .ok (.aload_n 0, 1) := by decide +kernel
theorem dX6_banks_63 : decode cX6_banks 63 = .ok (.getfield 13, 3) := by decide +kernel
theorem dX6_banks_66 : decode cX6_banks 66 = .ok (.iconst 1, 1) := by decide +kernel
theorem dX6_banks_67 : decode cX6_banks 67 = .ok (.isub, 1) := by decide +kernel
theorem dX6_banks_68 : decode cX6_banks 68 = .ok (.if_icmp .ne 8, 3) := by decide +kernel
theorem dX6_banks_71 : decode cX6_banks 71 = .ok (.bipush 8, 2) := by decide +kernel
theorem dX6_banks_73 : decode cX6_banks 73 = .ok (.goto 4, 3) := by decide +kernel
theorem dX6_banks_76 : decode cX6_banks 76 = .ok (.iconst 0, 1) := by decide +kernel
theorem dX6_banks_77 : decode cX6_banks 77 = .ok (.ior, 1) := by decide +kernel
theorem dX6_banks_78 : decode cX6_banks 78 = .ok (.ireturn, 1) := by decide +kernel
set_option maxRecDepth 20000 in
theorem ggX6_reaches_X6_fields : GoodIn wsX6_reaches wsX6_fields := goodIn_r _ [7, 8, 9, 17, 18, 19, 20, 21, 22, 23, 24, 25, 26, 27, 28, 29, 30, 31, 32, 33] (by decide +kernel) (by decide +kernel)
set_option maxRecDepth 20000 in
theorem gX6_reaches_X6_fields : GoodIn wsX6_reaches (wsV RX6 56 RX6 yX6_fields wsX6_fields) := goodIn_app (goodIn_of _ (by decide +kernel)) ggX6_reaches_X6_fields
set_option maxRecDepth 20000 in
theorem ggX6_reaches_X6_beside : GoodIn wsX6_reaches wsX6_beside := goodIn_r _ [13, 9, 8, 14, 15, 6, 16, 17, 18, 19, 20, 21, 22, 23, 24, 25, 26, 27, 28, 29, 30, 31, 32, 33] (by decide +kernel) (by decide +kernel)
set_option maxRecDepth 20000 in
theorem gX6_reaches_X6_beside : GoodIn wsX6_reaches (wsV RX6 77 RX6 yX6_beside wsX6_beside) := goodIn_app (goodIn_of _ (by decide +kernel)) ggX6_reaches_X6_beside
theorem dX6_reaches_0 : decode cX6_reaches 0 = .ok (.iconst 1, 1) := by decide +kernel
theorem dX6_reaches_1 : decode cX6_reaches 1 = .ok (.istore_n 2, 1) := by decide +kernel
theorem dX6_reaches_2 : decode cX6_reaches 2 = .ok (.iload_n 2, 1) := by decide +kernel
theorem dX6_reaches_3 : decode cX6_reaches 3 = .ok (.ifCond .eq 99, 3) := by decide +kernel
theorem dX6_reaches_6 : decode cX6_reaches 6 = .ok (.iconst 0, 1) := by decide +kernel
theorem dX6_reaches_7 : decode cX6_reaches 7 = .ok (.istore_n 2, 1) := by decide +kernel
theorem dX6_reaches_8 : decode cX6_reaches 8 = .ok (.iconst 0, 1) := by decide +kernel
theorem dX6_reaches_9 : decode cX6_reaches 9 = .ok (.istore_n 3, 1) := by decide +kernel
theorem dX6_reaches_10 : decode cX6_reaches 10 = .ok (.iload_n 3, 1) := by decide +kernel
theorem dX6_reaches_11 : decode cX6_reaches 11 = .ok (.aload_n 0, 1) := by decide +kernel
theorem dX6_reaches_12 : decode cX6_reaches 12 = .ok (.invokevirtual 56, 3) := by decide +kernel
theorem dX6_reaches_15 : decode cX6_reaches 15 = .ok (.if_icmp .ge 84, 3) := by decide +kernel
theorem dX6_reaches_18 : decode cX6_reaches 18 = .ok (.aload_n 0, 1) := by decide +kernel
theorem dX6_reaches_19 : decode cX6_reaches 19 = .ok (.getfield 30, 3) := by decide +kernel
theorem dX6_reaches_22 : decode cX6_reaches 22 = .ok (.iload_n 3, 1) := by decide +kernel
theorem dX6_reaches_23 : decode cX6_reaches 23 = .ok (.baload, 1) := by decide +kernel
theorem dX6_reaches_24 : decode cX6_reaches 24 = .ok (.ifCond .ne 69, 3) := by decide +kernel
theorem dX6_reaches_27 : decode cX6_reaches 27 = .ok (.aload_n 0, 1) := by decide +kernel
theorem dX6_reaches_28 : decode cX6_reaches 28 = .ok (.getfield 19, 3) := by decide +kernel
theorem dX6_reaches_31 : decode cX6_reaches 31 = .ok (.iload_n 3, 1) := by decide +kernel
theorem dX6_reaches_32 : decode cX6_reaches 32 = .ok (.iaload, 1) := by decide +kernel
theorem dX6_reaches_33 : decode cX6_reaches 33 = .ok (.iload_n 1, 1) := by decide +kernel
theorem dX6_reaches_34 : decode cX6_reaches 34 = .ok (.if_icmp .eq 6, 3) := by decide +kernel
theorem dX6_reaches_37 : decode cX6_reaches 37 = .ok (.goto 56, 3) := by decide +kernel
theorem dX6_reaches_40 : decode cX6_reaches 40 = .ok (.iconst 0, 1) := by decide +kernel
theorem dX6_reaches_41 : decode cX6_reaches 41 = .ok (.istore 4, 2) := by decide +kernel
theorem dX6_reaches_43 : decode cX6_reaches 43 = .ok (.iload 4, 2) := by decide +kernel
theorem dX6_reaches_45 : decode cX6_reaches 45 = .ok (.bipush 6, 2) := by decide +kernel
theorem dX6_reaches_47 : decode cX6_reaches 47 = .ok (.if_icmp .ge 46, 3) := by decide +kernel
theorem dX6_reaches_50 : decode cX6_reaches 50 = .ok (.aload_n 0, 1) := by decide +kernel
theorem dX6_reaches_51 : decode cX6_reaches 51 = .ok (.iload_n 3, 1) := by decide +kernel
theorem dX6_reaches_52 : decode cX6_reaches 52 = .ok (.iload 4, 2) := by decide +kernel
theorem dX6_reaches_54 : decode cX6_reaches 54 = .ok (.invokevirtual 77, 3) := by decide +kernel
theorem dX6_reaches_57 : decode cX6_reaches 57 = .ok (.istore 5, 2) := by decide +kernel
theorem dX6_reaches_59 : decode cX6_reaches 59 = .ok (.iload 5, 2) := by decide +kernel
theorem dX6_reaches_61 : decode cX6_reaches 61 = .ok (.iconst (-1), 1) := by decide +kernel
theorem dX6_reaches_62 : decode cX6_reaches 62 = .ok (.if_icmp .eq 25, 3) := by decide +kernel
theorem dX6_reaches_65 : decode cX6_reaches 65 = .ok (.aload_n 0, 1) := by decide +kernel
theorem dX6_reaches_66 : decode cX6_reaches 66 = .ok (.getfield 30, 3) := by decide +kernel
theorem dX6_reaches_69 : decode cX6_reaches 69 = .ok (.iload 5, 2) := by decide +kernel
theorem dX6_reaches_71 : decode cX6_reaches 71 = .ok (.baload, 1) := by decide +kernel
theorem dX6_reaches_72 : decode cX6_reaches 72 = .ok (.ifCond .ne 6, 3) := by decide +kernel
theorem dX6_reaches_75 : decode cX6_reaches 75 = .ok (.goto 12, 3) := by decide +kernel
theorem dX6_reaches_78 : decode cX6_reaches 78 = .ok (.aload_n 0, 1) := by decide +kernel
theorem dX6_reaches_79 : decode cX6_reaches 79 = .ok (.getfield 30, 3) := by decide +kernel
theorem dX6_reaches_82 : decode cX6_reaches 82 = .ok (.iload_n 3, 1) := by decide +kernel
theorem dX6_reaches_83 : decode cX6_reaches 83 = .ok (.iconst 1, 1) := by decide +kernel
theorem dX6_reaches_84 : decode cX6_reaches 84 = .ok (.bastore, 1) := by decide +kernel
theorem dX6_reaches_85 : decode cX6_reaches 85 = .ok (.iconst 1, 1) := by decide +kernel
theorem dX6_reaches_86 : decode cX6_reaches 86 = .ok (.istore_n 2, 1) := by decide +kernel
theorem dX6_reaches_87 : decode cX6_reaches 87 = .ok (.iinc 4 1, 3) := by decide +kernel
theorem dX6_reaches_90 : decode cX6_reaches 90 = .ok (.goto (-47), 3) := by decide +kernel
theorem dX6_reaches_93 : decode cX6_reaches 93 = .ok (.iinc 3 1, 3) := by decide +kernel
theorem dX6_reaches_96 : decode cX6_reaches 96 = .ok (.goto (-86), 3) := by decide +kernel
theorem dX6_reaches_99 : decode cX6_reaches 99 = .ok (.goto (-97), 3) := by decide +kernel
theorem dX6_reaches_102 : decode cX6_reaches 102 = .ok (.return_, 1) := by decide +kernel
theorem dX6_reachesNone_0 : decode cX6_reachesNone 0 = .ok (.iconst 0, 1) := by decide +kernel
theorem dX6_reachesNone_1 : decode cX6_reachesNone 1 = .ok (.istore_n 1, 1) := by decide +kernel
theorem dX6_reachesNone_2 : decode cX6_reachesNone 2 = .ok (.iload_n 1, 1) := by decide +kernel
theorem dX6_reachesNone_3 : decode cX6_reachesNone 3 = .ok (.bipush 36, 2) := by decide +kernel
theorem dX6_reachesNone_5 : decode cX6_reachesNone 5 = .ok (.if_icmp .ge 16, 3) := by decide +kernel
theorem dX6_reachesNone_8 : decode cX6_reachesNone 8 = .ok (.aload_n 0, 1) := by decide +kernel
theorem dX6_reachesNone_9 : decode cX6_reachesNone 9 = .ok (.getfield 30, 3) := by decide +kernel
theorem dX6_reachesNone_12 : decode cX6_reachesNone 12 = .ok (.iload_n 1, 1) := by decide +kernel
theorem dX6_reachesNone_13 : decode cX6_reachesNone 13 = .ok (.iconst 0, 1) := by decide +kernel
theorem dX6_reachesNone_14 : decode cX6_reachesNone 14 = .ok (.bastore, 1) := by decide +kernel
theorem dX6_reachesNone_15 : decode cX6_reachesNone 15 = .ok (.iinc 1 1, 3) := by decide +kernel
theorem dX6_reachesNone_18 : decode cX6_reachesNone 18 = .ok (.goto (-16), 3) := by decide +kernel
theorem dX6_reachesNone_21 : decode cX6_reachesNone 21 = .ok (.return_, 1) := by decide +kernel
theorem dX6_first_0 : decode cX6_first 0 = .ok (.iload_n 0, 1) := by decide +kernel
theorem dX6_first_1 : decode cX6_first 1 = .ok (.iconst 1, 1) := by decide +kernel
theorem dX6_first_2 : decode cX6_first 2 = .ok (.if_icmp .ne 7, 3) := by decide +kernel
theorem dX6_first_5 : decode cX6_first 5 = .ok (.iconst 1, 1) := by decide +kernel
theorem dX6_first_6 : decode cX6_first 6 = .ok (.goto 4, 3) := by decide +kernel
theorem dX6_first_9 : decode cX6_first 9 = .ok (.iconst 4, 1) := by decide +kernel
theorem dX6_first_10 : decode cX6_first 10 = .ok (.ireturn, 1) := by decide +kernel
theorem dX6_last_0 : decode cX6_last 0 = .ok (.iload_n 0, 1) := by decide +kernel
theorem dX6_last_1 : decode cX6_last 1 = .ok (.iconst 1, 1) := by decide +kernel
theorem dX6_last_2 : decode cX6_last 2 = .ok (.if_icmp .ne 7, 3) := by decide +kernel
theorem dX6_last_5 : decode cX6_last 5 = .ok (.iconst 2, 1) := by decide +kernel
theorem dX6_last_6 : decode cX6_last 6 = .ok (.goto 5, 3) := by decide +kernel
theorem dX6_last_9 : decode cX6_last 9 = .ok (.bipush 8, 2) := by decide +kernel
theorem dX6_last_11 : decode cX6_last 11 = .ok (.ireturn, 1) := by decide +kernel
set_option maxRecDepth 20000 in
theorem ggX6_joins_X6_fields : GoodIn wsX6_joins wsX6_fields := goodIn_r _ [7, 8, 9, 31, 32, 33, 34, 35, 36, 37, 38, 39, 40, 41, 42, 43, 44, 45, 46, 47] (by decide +kernel) (by decide +kernel)
set_option maxRecDepth 20000 in
theorem gX6_joins_X6_fields : GoodIn wsX6_joins (wsV RX6 56 RX6 yX6_fields wsX6_fields) := goodIn_app (goodIn_of _ (by decide +kernel)) ggX6_joins_X6_fields
set_option maxRecDepth 20000 in
theorem ggX6_joins_X6_banks : GoodIn wsX6_joins wsX6_banks := goodIn_r _ [13, 9, 8, 31, 32, 33, 34, 35, 36, 37, 38, 39, 40, 41, 42, 43, 44, 45, 46, 47] (by decide +kernel) (by decide +kernel)
set_option maxRecDepth 20000 in
theorem gX6_joins_X6_banks : GoodIn wsX6_joins (wsV RX6 81 RX6 yX6_banks wsX6_banks) := goodIn_app (goodIn_of _ (by decide +kernel)) ggX6_joins_X6_banks
set_option maxRecDepth 20000 in
theorem ggX6_joins_X6_first : GoodIn wsX6_joins wsX6_first := goodIn_r _ [16] (by decide +kernel) (by decide +kernel)
set_option maxRecDepth 20000 in
theorem gX6_joins_X6_first : GoodIn wsX6_joins (va_wsS RX6 85 yX6_first wsX6_first) := goodIn_app (goodIn_of _ (by decide +kernel)) ggX6_joins_X6_first
set_option maxRecDepth 20000 in
theorem ggX6_joins_X6_reaches : GoodIn wsX6_joins wsX6_reaches := goodIn_r _ [20, 1, 2, 3, 4, 5, 6, 7, 8, 9, 21, 22, 23, 24, 25, 26, 27, 31, 32, 33, 34, 35, 36, 37, 38, 39, 40, 41, 42, 43, 44, 45, 46, 47] (by decide +kernel) (by decide +kernel)
set_option maxRecDepth 20000 in
theorem gX6_joins_X6_reaches : GoodIn wsX6_joins (wsV RX6 88 RX6 yX6_reaches wsX6_reaches) := goodIn_app (goodIn_of _ (by decide +kernel)) ggX6_joins_X6_reaches
set_option maxRecDepth 20000 in
theorem ggX6_joins_X6_last : GoodIn wsX6_joins wsX6_last := goodIn_r _ [30] (by decide +kernel) (by decide +kernel)
set_option maxRecDepth 20000 in
theorem gX6_joins_X6_last : GoodIn wsX6_joins (va_wsS RX6 92 yX6_last wsX6_last) := goodIn_app (goodIn_of _ (by decide +kernel)) ggX6_joins_X6_last
theorem dX6_joins_0 : decode cX6_joins 0 = .ok (.iconst 0, 1) := by decide +kernel
theorem dX6_joins_1 : decode cX6_joins 1 = .ok (.istore_n 2, 1) := by decide +kernel
theorem dX6_joins_2 : decode cX6_joins 2 = .ok (.iload_n 2, 1) := by decide +kernel
