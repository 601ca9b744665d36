theorem dX5_undo_8 : decode cX5_undo 8 = .ok (.iload_n 1, 1) := by decide +kernel
theorem dX5_undo_9 : decode cX5_undo 9 = .ok (.iconst (-1), 1) := by decide +kernel
theorem dX5_undo_10 : decode cX5_undo 10 = .ok (.if_icmp .ne 5, 3) := by decide +kernel
theorem dX5_undo_13 : decode cX5_undo 13 = .ok (.iconst 0, 1) := by decide +kernel
theorem dX5_undo_14 : decode cX5_undo 14 = .ok (.ireturn, 1) := by decide +kernel
theorem dX5_undo_15 : decode cX5_undo 15 = .ok (.iload_n 1, 1) := by decide +kernel
theorem dX5_undo_16 : decode cX5_undo 16 = .ok (.bipush (-2), 2) := by decide +kernel
theorem dX5_undo_18 : decode cX5_undo 18 = .ok (.if_icmp .ne 10, 3) := by decide +kernel
theorem dX5_undo_21 : decode cX5_undo 21 = .ok (.aload_n 0, 1) := by decide +kernel
theorem dX5_undo_22 : decode cX5_undo 22 = .ok (.invokevirtual 98, 3) := by decide +kernel
theorem dX5_undo_25 : decode cX5_undo 25 = .ok (.goto 20, 3) := by decide +kernel
theorem dX5_undo_28 : decode cX5_undo 28 = .ok (.aload_n 0, 1) := by decide +kernel
theorem dX5_undo_29 : decode cX5_undo 29 = .ok (.iload_n 1, 1) := by decide +kernel
theorem dX5_undo_30 : decode cX5_undo 30 = .ok (.iconst 0, 1) := by decide +kernel
theorem dX5_undo_31 : decode cX5_undo 31 = .ok (.invokevirtual 54, 3) := by decide +kernel
theorem dX5_undo_34 : decode cX5_undo 34 = .ok (.aload_n 0, 1) := by decide +kernel
theorem dX5_undo_35 : decode cX5_undo 35 = .ok (.aload_n 0, 1) := by decide +kernel
theorem dX5_undo_36 : decode cX5_undo 36 = .ok (.getfield 57, 3) := by decide +kernel
theorem dX5_undo_39 : decode cX5_undo 39 = .ok (.invokestatic 101, 3) := by decide +kernel
theorem dX5_undo_42 : decode cX5_undo 42 = .ok (.putfield 57, 3) := by decide +kernel
theorem dX5_undo_45 : decode cX5_undo 45 = .ok (.iconst 1, 1) := by decide +kernel
theorem dX5_undo_46 : decode cX5_undo 46 = .ok (.ireturn, 1) := by decide +kernel
set_option maxRecDepth 20000 in
theorem ggX5_redo_X0_forth : GoodIn wsX5_redo wsX0_forth := goodIn_r _ [6, 7, 8, 9, 50, 51, 52] (by decide +kernel) (by decide +kernel)
set_option maxRecDepth 20000 in
theorem gX5_redo_X0_forth : GoodIn wsX5_redo (wsV RX5 104 RX0 yX0_forth wsX0_forth) := goodIn_app (goodIn_of _ (by decide +kernel)) ggX5_redo_X0_forth
set_option maxRecDepth 20000 in
theorem ggX5_redo_X5_takeOver : GoodIn wsX5_redo wsX5_takeOver := goodIn_r _ [14, 15, 16, 17, 18, 19, 20, 21, 22, 23, 24, 25, 26, 13, 27, 41, 42, 43, 44, 45, 46, 47, 48, 49, 53, 54, 55, 56, 57, 58, 59] (by decide +kernel) (by decide +kernel)
set_option maxRecDepth 20000 in
theorem gX5_redo_X5_takeOver : GoodIn wsX5_redo (wsV RX5 92 RX5 yX5_takeOver wsX5_takeOver) := goodIn_app (goodIn_of _ (by decide +kernel)) ggX5_redo_X5_takeOver
set_option maxRecDepth 20000 in
theorem ggX5_redo_X5_layStone : GoodIn wsX5_redo wsX5_layStone := goodIn_r _ [31, 18, 32, 33, 34, 13, 35, 16, 36, 17, 37, 26, 27, 38, 39, 40, 41, 42, 43, 44, 45, 46, 47, 48, 49] (by decide +kernel) (by decide +kernel)
set_option maxRecDepth 20000 in
theorem gX5_redo_X5_layStone : GoodIn wsX5_redo (wsV RX5 79 RX5 yX5_layStone wsX5_layStone) := goodIn_app (goodIn_of _ (by decide +kernel)) ggX5_redo_X5_layStone
theorem dX5_redo_0 : decode cX5_redo 0 = .ok (.aload_n 0, 1) := by decide +kernel
theorem dX5_redo_1 : decode cX5_redo 1 = .ok (.getfield 19, 3) := by decide +kernel
theorem dX5_redo_4 : decode cX5_redo 4 = .ok (.invokevirtual 104, 3) := by decide +kernel
theorem dX5_redo_7 : decode cX5_redo 7 = .ok (.istore_n 1, 1) := by decide +kernel
theorem dX5_redo_8 : decode cX5_redo 8 = .ok (.iload_n 1, 1) := by decide +kernel
theorem dX5_redo_9 : decode cX5_redo 9 = .ok (.iconst (-1), 1) := by decide +kernel
theorem dX5_redo_10 : decode cX5_redo 10 = .ok (.if_icmp .ne 5, 3) := by decide +kernel
theorem dX5_redo_13 : decode cX5_redo 13 = .ok (.iconst 0, 1) := by decide +kernel
theorem dX5_redo_14 : decode cX5_redo 14 = .ok (.ireturn, 1) := by decide +kernel
theorem dX5_redo_15 : decode cX5_redo 15 = .ok (.iload_n 1, 1) := by decide +kernel
theorem dX5_redo_16 : decode cX5_redo 16 = .ok (.bipush (-2), 2) := by decide +kernel
theorem dX5_redo_18 : decode cX5_redo 18 = .ok (.if_icmp .ne 10, 3) := by decide +kernel
theorem dX5_redo_21 : decode cX5_redo 21 = .ok (.aload_n 0, 1) := by decide +kernel
theorem dX5_redo_22 : decode cX5_redo 22 = .ok (.invokevirtual 92, 3) := by decide +kernel
theorem dX5_redo_25 : decode cX5_redo 25 = .ok (.goto 8, 3) := by decide +kernel
theorem dX5_redo_28 : decode cX5_redo 28 = .ok (.aload_n 0, 1) := by decide +kernel
theorem dX5_redo_29 : decode cX5_redo 29 = .ok (.iload_n 1, 1) := by decide +kernel
theorem dX5_redo_30 : decode cX5_redo 30 = .ok (.invokevirtual 79, 3) := by decide +kernel
theorem dX5_redo_33 : decode cX5_redo 33 = .ok (.iconst 1, 1) := by decide +kernel
theorem dX5_redo_34 : decode cX5_redo 34 = .ok (.ireturn, 1) := by decide +kernel
set_option maxRecDepth 20000 in
theorem ggX5_change_X2_turned : GoodIn wsX5_change wsX2_turned := goodIn_r _ [11, 12, 13, 14, 15, 16, 53, 54, 55, 56, 57, 58, 59] (by decide +kernel) (by decide +kernel)
set_option maxRecDepth 20000 in
theorem gX5_change_X2_turned : GoodIn wsX5_change (wsV RX5 111 RX2 yX2_turned wsX2_turned) := goodIn_app (goodIn_of _ (by decide +kernel)) ggX5_change_X2_turned
set_option maxRecDepth 20000 in
theorem ggX5_change_X2_columns : GoodIn wsX5_change wsX2_columns := goodIn_r _ [20, 13, 53, 54, 55, 56, 57, 58, 59] (by decide +kernel) (by decide +kernel)
set_option maxRecDepth 20000 in
theorem gX5_change_X2_columns : GoodIn wsX5_change (wsV RX5 86 RX2 yX2_columns wsX2_columns) := goodIn_app (goodIn_of _ (by decide +kernel)) ggX5_change_X2_columns
set_option maxRecDepth 20000 in
theorem ggX5_change_X2_rows : GoodIn wsX5_change wsX2_rows := goodIn_r _ [24, 12, 53, 54, 55, 56, 57, 58, 59] (by decide +kernel) (by decide +kernel)
set_option maxRecDepth 20000 in
theorem gX5_change_X2_rows : GoodIn wsX5_change (wsV RX5 83 RX2 yX2_rows wsX2_rows) := goodIn_app (goodIn_of _ (by decide +kernel)) ggX5_change_X2_rows
set_option maxRecDepth 20000 in
theorem ggX5_change_X2_shape : GoodIn wsX5_change wsX2_shape := goodIn_r _ [28, 12, 13, 29, 30, 31, 32, 33, 14, 15, 16, 53, 54, 55, 56, 57, 58, 59] (by decide +kernel) (by decide +kernel)
set_option maxRecDepth 20000 in
theorem gX5_change_X2_shape : GoodIn wsX5_change (wsV RX5 118 RX2 yX2_shape wsX2_shape) := goodIn_app (goodIn_of _ (by decide +kernel)) ggX5_change_X2_shape
set_option maxRecDepth 20000 in
theorem ggX5_change_X5_other : GoodIn wsX5_change wsX5_other := goodIn_r _ [36] (by decide +kernel) (by decide +kernel)
set_option maxRecDepth 20000 in
theorem gX5_change_X5_other : GoodIn wsX5_change (va_wsS RX5 101 yX5_other wsX5_other) := goodIn_app (goodIn_of _ (by decide +kernel)) ggX5_change_X5_other
set_option maxRecDepth 20000 in
theorem ggX5_change_X0_forget : GoodIn wsX5_change wsX0_forget := goodIn_r _ [41, 42, 43, 60, 61, 62] (by decide +kernel) (by decide +kernel)
set_option maxRecDepth 20000 in
theorem gX5_change_X0_forget : GoodIn wsX5_change (wsV RX5 65 RX0 yX0_forget wsX0_forget) := goodIn_app (goodIn_of _ (by decide +kernel)) ggX5_change_X0_forget
theorem dX5_change_0 : decode cX5_change 0 = .ok (.aload_n 0, 1) := by decide +kernel
theorem dX5_change_1 : decode cX5_change 1 = .ok (.getfield 12, 3) := by decide +kernel
theorem dX5_change_4 : decode cX5_change 4 = .ok (.aload_n 0, 1) := by decide +kernel
theorem dX5_change_5 : decode cX5_change 5 = .ok (.getfield 107, 3) := by decide +kernel
theorem dX5_change_8 : decode cX5_change 8 = .ok (.invokevirtual 111, 3) := by decide +kernel
theorem dX5_change_11 : decode cX5_change 11 = .ok (.lstore_n 1, 1) := by decide +kernel
theorem dX5_change_12 : decode cX5_change 12 = .ok (.aload_n 0, 1) := by decide +kernel
theorem dX5_change_13 : decode cX5_change 13 = .ok (.getfield 12, 3) := by decide +kernel
theorem dX5_change_16 : decode cX5_change 16 = .ok (.aload_n 0, 1) := by decide +kernel
theorem dX5_change_17 : decode cX5_change 17 = .ok (.getfield 115, 3) := by decide +kernel
theorem dX5_change_20 : decode cX5_change 20 = .ok (.invokevirtual 111, 3) := by decide +kernel
theorem dX5_change_23 : decode cX5_change 23 = .ok (.lstore_n 3, 1) := by decide +kernel
theorem dX5_change_24 : decode cX5_change 24 = .ok (.aload_n 0, 1) := by decide +kernel
theorem dX5_change_25 : decode cX5_change 25 = .ok (.getfield 12, 3) := by decide +kernel
theorem dX5_change_28 : decode cX5_change 28 = .ok (.aload_n 0, 1) := by decide +kernel
theorem dX5_change_29 : decode cX5_change 29 = .ok (.getfield 12, 3) := by decide +kernel
theorem dX5_change_32 : decode cX5_change 32 = .ok (.invokevirtual 86, 3) := by decide +kernel
theorem dX5_change_35 : decode cX5_change 35 = .ok (.aload_n 0, 1) := by decide +kernel
theorem dX5_change_36 : decode cX5_change 36 = .ok (.getfield 12, 3) := by decide +kernel
theorem dX5_change_39 : decode cX5_change 39 = .ok (.invokevirtual 83, 3) := by decide +kernel
theorem dX5_change_42 : decode cX5_change 42 = .ok (.invokevirtual 118, 3) := by decide +kernel
theorem dX5_change_45 : decode cX5_change 45 = .ok (.aload_n 0, 1) := by decide +kernel
theorem dX5_change_46 : decode cX5_change 46 = .ok (.lload_n 1, 1) := by decide +kernel
theorem dX5_change_47 : decode cX5_change 47 = .ok (.putfield 115, 3) := by decide +kernel
theorem dX5_change_50 : decode cX5_change 50 = .ok (.aload_n 0, 1) := by decide +kernel
theorem dX5_change_51 : decode cX5_change 51 = .ok (.lload_n 3, 1) := by decide +kernel
theorem dX5_change_52 : decode cX5_change 52 = .ok (.putfield 107, 3) := by decide +kernel
theorem dX5_change_55 : decode cX5_change 55 = .ok (.aload_n 0, 1) := by decide +kernel
theorem dX5_change_56 : decode cX5_change 56 = .ok (.aload_n 0, 1) := by decide +kernel
theorem dX5_change_57 : decode cX5_change 57 = .ok (.getfield 57, 3) := by decide +kernel
theorem dX5_change_60 : decode cX5_change 60 = .ok (.invokestatic 101, 3) := by decide +kernel
theorem dX5_change_63 : decode cX5_change 63 = .ok (.putfield 57, 3) := by decide +kernel
theorem dX5_change_66 : decode cX5_change 66 = .ok (.aload_n 0, 1) := by decide +kernel
theorem dX5_change_67 : decode cX5_change 67 = .ok (.iconst 0, 1) := by decide +kernel
theorem dX5_change_68 : decode cX5_change 68 = .ok (.putfield 61, 3) := by decide +kernel
theorem dX5_change_71 : decode cX5_change 71 = .ok (.aload_n 0, 1) := by decide +kernel
theorem dX5_change_72 : decode cX5_change 72 = .ok (.getfield 19, 3) := by decide +kernel
theorem dX5_change_75 : decode cX5_change 75 = .ok (.invokevirtual 65, 3) := by decide +kernel
theorem dX5_change_78 : decode cX5_change 78 = .ok (.return_, 1) := by decide +kernel
set_option maxRecDepth 20000 in
theorem ggX5_at_X2_has : GoodIn wsX5_at wsX2_has := goodIn_r _ [6, 7, 8, 28, 29, 30, 31, 32, 33, 34] (by decide +kernel) (by decide +kernel)
set_option maxRecDepth 20000 in
theorem gX5_at_X2_has : GoodIn wsX5_at (wsV RX5 51 RX2 yX2_has wsX2_has) := goodIn_app (goodIn_of _ (by decide +kernel)) ggX5_at_X2_has
set_option maxRecDepth 20000 in
theorem ggX5_at_X5_stoneAt : GoodIn wsX5_at wsX5_stoneAt := goodIn_r _ [13, 14, 15, 16, 17, 12, 18, 19, 20, 21, 22, 23, 24, 25, 26, 27] (by decide +kernel) (by decide +kernel)
set_option maxRecDepth 20000 in
theorem gX5_at_X5_stoneAt : GoodIn wsX5_at (wsV RX5 68 RX5 yX5_stoneAt wsX5_stoneAt) := goodIn_app (goodIn_of _ (by decide +kernel)) ggX5_at_X5_stoneAt
theorem dX5_at_0 : decode cX5_at 0 = .ok (.aload_n 0, 1) := by decide +kernel
theorem dX5_at_1 : decode cX5_at 1 = .ok (.getfield 12, 3) := by decide +kernel
theorem dX5_at_4 : decode cX5_at 4 = .ok (.iload_n 1, 1) := by decide +kernel
theorem dX5_at_5 : decode cX5_at 5 = .ok (.invokevirtual 51, 3) := by decide +kernel
theorem dX5_at_8 : decode cX5_at 8 = .ok (.ifCond .eq 11, 3) := by decide +kernel
theorem dX5_at_11 : decode cX5_at 11 = .ok (.aload_n 0, 1) := by decide +kernel
theorem dX5_at_12 : decode cX5_at 12 = .ok (.iload_n 1, 1) := by decide +kernel
theorem dX5_at_13 : decode cX5_at 13 = .ok (.invokevirtual 68, 3) := by decide +kernel
theorem dX5_at_16 : decode cX5_at 16 = .ok (.goto 4, 3) := by decide +kernel
theorem dX5_at_19 : decode cX5_at 19 = .ok (.iconst (-1), 1) := by decide +kernel
theorem dX5_at_20 : decode cX5_at 20 = .ok (.ireturn, 1) := by decide +kernel
set_option maxRecDepth 20000 in
theorem ggX5_group_X5_groupAt : GoodIn wsX5_group wsX5_groupAt := goodIn_r _ [5, 6, 7, 8, 9, 10, 11, 12, 13, 14, 15, 16, 4, 17, 18, 19, 20, 21, 22, 23, 24, 25, 26, 27, 28, 29, 30, 31, 32, 33, 34, 35, 36, 37, 38, 49, 50, 51, 52, 53, 54, 55, 56, 57, 58, 59, 60, 61, 62, 63, 64] (by decide +kernel) (by decide +kernel)
set_option maxRecDepth 20000 in
theorem gX5_group_X5_groupAt : GoodIn wsX5_group (wsV RX5 121 RX5 yX5_groupAt wsX5_groupAt) := goodIn_app (goodIn_of _ (by decide +kernel)) ggX5_group_X5_groupAt
set_option maxRecDepth 20000 in
theorem ggX5_group_X5_lowest : GoodIn wsX5_group wsX5_lowest := goodIn_r _ [41, 42, 43, 44, 45, 46, 47, 48] (by decide +kernel) (by decide +kernel)
set_option maxRecDepth 20000 in
theorem gX5_group_X5_lowest : GoodIn wsX5_group (va_wsS RX5 125 yX5_lowest wsX5_lowest) := goodIn_app (goodIn_of _ (by decide +kernel)) ggX5_group_X5_lowest
theorem dX5_group_0 : decode cX5_group 0 = .ok (.aload_n 0, 1) := by decide +kernel
theorem dX5_group_1 : decode cX5_group 1 = .ok (.iload_n 1, 1) := by decide +kernel
theorem dX5_group_2 : decode cX5_group 2 = .ok (.invokevirtual 121, 3) := by decide +kernel
theorem dX5_group_5 : decode cX5_group 5 = .ok (.lstore_n 2, 1) := by decide +kernel
theorem dX5_group_6 : decode cX5_group 6 = .ok (.lload_n 2, 1) := by decide +kernel
theorem dX5_group_7 : decode cX5_group 7 = .ok (.lconst 0, 1) := by decide +kernel
theorem dX5_group_8 : decode cX5_group 8 = .ok (.lcmp, 1) := by decide +kernel
theorem dX5_group_9 : decode cX5_group 9 = .ok (.ifCond .ne 7, 3) := by decide +kernel
theorem dX5_group_12 : decode cX5_group 12 = .ok (.iconst (-1), 1) := by decide +kernel
theorem dX5_group_13 : decode cX5_group 13 = .ok (.goto 7, 3) := by decide +kernel
theorem dX5_group_16 : decode cX5_group 16 = .ok (.lload_n 2, 1) := by decide +kernel
theorem dX5_group_17 : decode cX5_group 17 = .ok (.invokestatic 125, 3) := by decide +kernel
theorem dX5_group_20 : decode cX5_group 20 = .ok (.ireturn, 1) := by decide +kernel
set_option maxRecDepth 20000 in
theorem ggX5_look_X5_groupAt : GoodIn wsX5_look wsX5_groupAt := goodIn_r _ [6, 1, 7, 8, 9, 10, 11, 12, 13, 14, 15, 16, 5, 17, 18, 19, 20, 21, 22, 23, 24, 25, 26, 27, 28, 29, 30, 31, 32, 33, 34, 35, 36, 37, 38, 62, 63, 64, 65, 66, 67, 68, 69, 70, 71, 72, 73, 74, 75, 76, 77] (by decide +kernel) (by decide +kernel)
set_option maxRecDepth 20000 in
theorem gX5_look_X5_groupAt : GoodIn wsX5_look (wsV RX5 121 RX5 yX5_groupAt wsX5_groupAt) := goodIn_app (goodIn_of _ (by decide +kernel)) ggX5_look_X5_groupAt
set_option maxRecDepth 20000 in
theorem ggX5_look_J13_bitCount_95d88 : GoodIn wsX5_look wsJ13_bitCount_95d88 := goodIn_r _ [42, 43, 44, 45] (by decide +kernel) (by decide +kernel)
set_option maxRecDepth 20000 in
theorem gX5_look_J13_bitCount_95d88 : GoodIn wsX5_look (va_wsS RX5 129 yJ13_bitCount_95d88 wsJ13_bitCount_95d88) := goodIn_app (goodIn_of _ (by decide +kernel)) ggX5_look_J13_bitCount_95d88
set_option maxRecDepth 20000 in
theorem ggX5_look_X2_banksOf : GoodIn wsX5_look wsX2_banksOf := goodIn_r _ [49, 50, 51, 37, 35, 71, 72, 73, 74, 75, 76, 77] (by decide +kernel) (by decide +kernel)
set_option maxRecDepth 20000 in
theorem gX5_look_X2_banksOf : GoodIn wsX5_look (wsV RX5 134 RX2 yX2_banksOf wsX2_banksOf) := goodIn_app (goodIn_of _ (by decide +kernel)) ggX5_look_X2_banksOf
set_option maxRecDepth 20000 in
theorem ggX5_look_X2_beside : GoodIn wsX5_look wsX2_beside := goodIn_r _ [34, 35, 36, 37, 13, 38, 71, 72, 73, 74, 75, 76, 77] (by decide +kernel) (by decide +kernel)
set_option maxRecDepth 20000 in
theorem gX5_look_X2_beside : GoodIn wsX5_look (wsV RX5 137 RX2 yX2_beside wsX2_beside) := goodIn_app (goodIn_of _ (by decide +kernel)) ggX5_look_X2_beside
set_option maxRecDepth 20000 in
theorem ggX5_look_X5_empties : GoodIn wsX5_look wsX5_empties := goodIn_r _ [56, 1, 18, 19, 57, 58, 59, 60, 10, 61, 38, 62, 63, 64, 65, 66, 67, 68, 69, 70, 71, 72, 73, 74, 75, 76, 77] (by decide +kernel) (by decide +kernel)
set_option maxRecDepth 20000 in
theorem gX5_look_X5_empties : GoodIn wsX5_look (wsV RX5 140 RX5 yX5_empties wsX5_empties) := goodIn_app (goodIn_of _ (by decide +kernel)) ggX5_look_X5_empties
theorem dX5_look_0 : decode cX5_look 0 = .ok (.aload_n 0, 1) := by decide +kernel
theorem dX5_look_1 : decode cX5_look 1 = .ok (.iload_n 1, 1) := by decide +kernel
theorem dX5_look_2 : decode cX5_look 2 = .ok (.invokevirtual 121, 3) := by decide +kernel
theorem dX5_look_5 : decode cX5_look 5 = .ok (.lstore_n 3, 1) := by decide +kernel
theorem dX5_look_6 : decode cX5_look 6 = .ok (.lload_n 3, 1) := by decide +kernel
theorem dX5_look_7 : decode cX5_look 7 = .ok (.lconst 0, 1) := by decide +kernel
theorem dX5_look_8 : decode cX5_look 8 = .ok (.lcmp, 1) := by decide +kernel
theorem dX5_look_9 : decode cX5_look 9 = .ok (.ifCond .ne 5, 3) := by decide +kernel
theorem dX5_look_12 : decode cX5_look 12 = .ok (.iconst (-1), 1) := by decide +kernel
theorem dX5_look_13 : decode cX5_look 13 = .ok (.ireturn, 1) := by decide +kernel
theorem dX5_look_14 : decode cX5_look 14 = .ok (.iload_n 2, 1) := by decide +kernel
theorem dX5_look_15 : decode cX5_look 15 = .ok (.tableswitch 56 0 2 #[25, 30, 39], 25) := by decide +kernel
theorem dX5_look_40 : decode cX5_look 40 = .ok (.lload_n 3, 1) := by decide +kernel
theorem dX5_look_41 : decode cX5_look 41 = .ok (.invokestatic 129, 3) := by decide +kernel
theorem dX5_look_44 : decode cX5_look 44 = .ok (.ireturn, 1) := by decide +kernel
theorem dX5_look_45 : decode cX5_look 45 = .ok (.aload_n 0, 1) := by decide +kernel
theorem dX5_look_46 : decode cX5_look 46 = .ok (.getfield 12, 3) := by decide +kernel
theorem dX5_look_49 : decode cX5_look 49 = .ok (.lload_n 3, 1) := by decide +kernel
theorem dX5_look_50 : decode cX5_look 50 = .ok (.invokevirtual 134, 3) := by decide +kernel
theorem dX5_look_53 : decode cX5_look 53 = .ok (.ireturn, 1) := by decide +kernel
theorem dX5_look_54 : decode cX5_look 54 = .ok (.aload_n 0, 1) := by decide +kernel
theorem dX5_look_55 : decode cX5_look 55 = .ok (.getfield 12, 3) := by decide +kernel
theorem dX5_look_58 : decode cX5_look 58 = .ok (.lload_n 3, 1) := by decide +kernel
theorem dX5_look_59 : decode cX5_look 59 = .ok (.invokevirtual 137, 3) := by decide +kernel
theorem dX5_look_62 : decode cX5_look 62 = .ok (.aload_n 0, 1) := by decide +kernel
theorem dX5_look_63 : decode cX5_look 63 = .ok (.invokevirtual 140, 3) := by decide +kernel
theorem dX5_look_66 : decode cX5_look 66 = .ok (.land, 1) := by decide +kernel
theorem dX5_look_67 : decode cX5_look 67 = .ok (.invokestatic 129, 3) := by decide +kernel
theorem dX5_look_70 : decode cX5_look 70 = .ok (.ireturn, 1) := by decide +kernel
theorem dX5_look_71 : decode cX5_look 71 = .ok (.iconst (-1), 1) := by decide +kernel
theorem dX5_look_72 : decode cX5_look 72 = .ok (.ireturn, 1) := by decide +kernel
set_option maxRecDepth 20000 in
theorem ggX5_joined_X5_whoJoined : GoodIn wsX5_joined wsX5_whoJoined := goodIn_r _ [5, 6, 7, 8, 9, 10, 11, 12, 13, 14, 15, 16, 17, 18, 19, 20, 21, 22, 23, 24, 25, 26, 27, 28, 29, 30, 31, 32, 33, 34, 35, 36, 37, 38, 39, 40, 41, 42, 43, 44, 45, 46, 47, 48, 49, 50, 51, 52, 53, 54, 55, 56, 57, 58, 59, 60] (by decide +kernel) (by decide +kernel)
set_option maxRecDepth 20000 in
theorem gX5_joined_X5_whoJoined : GoodIn wsX5_joined (wsV RX5 72 RX5 yX5_whoJoined wsX5_whoJoined) := goodIn_app (goodIn_of _ (by decide +kernel)) ggX5_joined_X5_whoJoined
theorem dX5_joined_0 : decode cX5_joined 0 = .ok (.aload_n 0, 1) := by decide +kernel
theorem dX5_joined_1 : decode cX5_joined 1 = .ok (.invokevirtual 72, 3) := by decide +kernel
theorem dX5_joined_4 : decode cX5_joined 4 = .ok (.ireturn, 1) := by decide +kernel
set_option maxRecDepth 20000 in
theorem ggX5_way_X5_findPath : GoodIn wsX5_way wsX5_findPath := goodIn_r _ [6, 1, 7, 8, 9, 10, 11, 12, 5, 13, 14, 15, 16, 17, 18, 19, 20, 21, 22, 23, 24, 25, 26, 27, 28, 29, 30, 31, 32, 33, 34, 35, 36, 37, 38, 39, 40, 41, 42, 43, 44, 45, 46, 47, 48, 49, 50, 51, 52, 53, 54, 55, 56, 57, 58, 59, 60, 61, 62, 63, 64, 65, 66, 67, 68, 69, 70, 71, 72, 73, 74, 75, 76, 77, 78, 79, 84, 85, 86, 87, 88, 89, 90, 91, 92, 93, 94, 95, 96, 97, 98, 99, 100, 101, 102] (by decide +kernel) (by decide +kernel)
set_option maxRecDepth 20000 in
theorem gX5_way_X5_findPath : GoodIn wsX5_way (wsV RX5 144 RX5 yX5_findPath wsX5_findPath) := goodIn_app (goodIn_of _ (by decide +kernel)) ggX5_way_X5_findPath
set_option maxRecDepth 20000 in
theorem ggX5_way_X4_field : GoodIn wsX5_way wsX4_field := goodIn_r _ [83, 61, 66, 100, 101, 102] (by decide +kernel) (by decide +kernel)
set_option maxRecDepth 20000 in
theorem gX5_way_X4_field : GoodIn wsX5_way (wsV RX5 147 RX4 yX4_field wsX4_field) := goodIn_app (goodIn_of _ (by decide +kernel)) ggX5_way_X4_field
theorem dX5_way_0 : decode cX5_way 0 = .ok (.aload_n 0, 1) := by decide +kernel
theorem dX5_way_1 : decode cX5_way 1 = .ok (.invokevirtual 144, 3) := by decide +kernel
theorem dX5_way_4 : decode cX5_way 4 = .ok (.aload_n 0, 1) := by decide +kernel
theorem dX5_way_5 : decode cX5_way 5 = .ok (.getfield 26, 3) := by decide +kernel
theorem dX5_way_8 : decode cX5_way 8 = .ok (.iload_n 1, 1) := by decide +kernel
theorem dX5_way_9 : decode cX5_way 9 = .ok (.invokevirtual 147, 3) := by decide +kernel
theorem dX5_way_12 : decode cX5_way 12 = .ok (.ireturn, 1) := by decide +kernel
set_option maxRecDepth 20000 in
theorem ggX5_winner_X5_isColour : GoodIn wsX5_winner wsX5_isColour := goodIn_r _ [5] (by decide +kernel) (by decide +kernel)
set_option maxRecDepth 20000 in
theorem gX5_winner_X5_isColour : GoodIn wsX5_winner (va_wsS RX5 48 yX5_isColour wsX5_isColour) := goodIn_app (goodIn_of _ (by decide +kernel)) ggX5_winner_X5_isColour
set_option maxRecDepth 20000 in
theorem ggX5_winner_X5_tooManyEmpty : GoodIn wsX5_winner wsX5_tooManyEmpty := goodIn_r _ [9, 10, 11, 12, 4, 13, 14, 15, 16, 17, 18, 19, 20, 21, 22, 23, 24, 25, 26, 27, 28, 29, 30, 123, 124, 125, 126, 127, 128, 129, 130, 131, 132, 133, 134, 135, 136, 137, 138] (by decide +kernel) (by decide +kernel)
set_option maxRecDepth 20000 in
theorem gX5_winner_X5_tooManyEmpty : GoodIn wsX5_winner (wsV RX5 150 RX5 yX5_tooManyEmpty wsX5_tooManyEmpty) := goodIn_app (goodIn_of _ (by decide +kernel)) ggX5_winner_X5_tooManyEmpty
set_option maxRecDepth 20000 in
theorem ggX5_winner_X5_askBanks : GoodIn wsX5_winner wsX5_askBanks := goodIn_r _ [34, 1, 14, 15, 16, 35, 36, 37, 21, 38, 39, 40, 41, 42, 43, 44, 45, 46, 47, 48, 49, 50, 51, 52, 53, 54, 55, 56, 57, 58, 59, 60, 61, 62, 63, 64, 65, 66, 67, 68, 69, 70, 71, 72, 73, 74, 75, 76, 77, 78, 79, 80, 81, 82, 83, 19, 20, 22, 23, 84, 25, 26, 27, 28, 29, 30, 85, 86, 87, 88, 89, 90, 91, 92, 93, 94, 95, 96, 97, 98, 99, 100, 101, 102, 103, 104, 105, 106, 107, 108, 109, 110, 4, 111, 123, 124, 125, 126, 127, 128, 129, 130, 131, 132, 133, 134, 135, 136, 137, 138, 139, 140, 141, 142, 143, 144, 145, 146, 147, 148, 149, 150, 151, 152, 153, 154] (by decide +kernel) (by decide +kernel)
set_option maxRecDepth 20000 in
theorem gX5_winner_X5_askBanks : GoodIn wsX5_winner (wsV RX5 154 RX5 yX5_askBanks wsX5_askBanks) := goodIn_app (goodIn_of _ (by decide +kernel)) ggX5_winner_X5_askBanks
set_option maxRecDepth 20000 in
theorem ggX5_winner_X1_makerWins : GoodIn wsX5_winner wsX1_makerWins := goodIn_r _ [115, 76, 116, 117, 48, 118, 80, 77, 81, 82, 119, 120, 121, 88, 122, 90, 110, 4, 111, 106, 107, 108, 109, 139, 140, 141, 142, 143, 144, 145, 146, 147, 148, 149, 150, 151, 152, 153, 154] (by decide +kernel) (by decide +kernel)
set_option maxRecDepth 20000 in
theorem gX5_winner_X1_makerWins : GoodIn wsX5_winner (wsV RX5 157 RX1 yX1_makerWins wsX1_makerWins) := goodIn_app (goodIn_of _ (by decide +kernel)) ggX5_winner_X1_makerWins
theorem dX5_winner_0 : decode cX5_winner 0 = .ok (.iload_n 1, 1) := by decide +kernel
theorem dX5_winner_1 : decode cX5_winner 1 = .ok (.invokestatic 48, 3) := by decide +kernel
theorem dX5_winner_4 : decode cX5_winner 4 = .ok (.ifCond .eq 10, 3) := by decide +kernel
theorem dX5_winner_7 : decode cX5_winner 7 = .ok (.aload_n 0, 1) := by decide +kernel
theorem dX5_winner_8 : decode cX5_winner 8 = .ok (.invokevirtual 150, 3) := by decide +kernel
theorem dX5_winner_11 : decode cX5_winner 11 = .ok (.ifCond .eq 5, 3) := by decide +kernel
theorem dX5_winner_14 : decode cX5_winner 14 = .ok (.iconst (-1), 1) := by decide +kernel
theorem dX5_winner_15 : decode cX5_winner 15 = .ok (.ireturn, 1) := by decide +kernel
theorem dX5_winner_16 : decode cX5_winner 16 = .ok (.aload_n 0, 1) := by decide +kernel
theorem dX5_winner_17 : decode cX5_winner 17 = .ok (.invokevirtual 154, 3) := by decide +kernel
theorem dX5_winner_20 : decode cX5_winner 20 = .ok (.aload_n 0, 1) := by decide +kernel
theorem dX5_winner_21 : decode cX5_winner 21 = .ok (.getfield 33, 3) := by decide +kernel
theorem dX5_winner_24 : decode cX5_winner 24 = .ok (.iload_n 1, 1) := by decide +kernel
theorem dX5_winner_25 : decode cX5_winner 25 = .ok (.iconst 1, 1) := by decide +kernel
theorem dX5_winner_26 : decode cX5_winner 26 = .ok (.if_icmp .ne 7, 3) := by decide +kernel
theorem dX5_winner_29 : decode cX5_winner 29 = .ok (.iconst 1, 1) := by decide +kernel
theorem dX5_winner_30 : decode cX5_winner 30 = .ok (.goto 4, 3) := by decide +kernel
theorem dX5_winner_33 : decode cX5_winner 33 = .ok (.iconst 0, 1) := by decide +kernel
theorem dX5_winner_34 : decode cX5_winner 34 = .ok (.invokevirtual 157, 3) := by decide +kernel
theorem dX5_winner_37 : decode cX5_winner 37 = .ok (.ifCond .eq 7, 3) := by decide +kernel
theorem dX5_winner_40 : decode cX5_winner 40 = .ok (.iconst 1, 1) := by decide +kernel
theorem dX5_winner_41 : decode cX5_winner 41 = .ok (.goto 4, 3) := by decide +kernel
theorem dX5_winner_44 : decode cX5_winner 44 = .ok (.iconst 2, 1) := by decide +kernel
theorem dX5_winner_45 : decode cX5_winner 45 = .ok (.ireturn, 1) := by decide +kernel
set_option maxRecDepth 20000 in
theorem ggX5_first_X5_isColour : GoodIn wsX5_first wsX5_isColour := goodIn_r _ [5] (by decide +kernel) (by decide +kernel)
set_option maxRecDepth 20000 in
theorem gX5_first_X5_isColour : GoodIn wsX5_first (va_wsS RX5 48 yX5_isColour wsX5_isColour) := goodIn_app (goodIn_of _ (by decide +kernel)) ggX5_first_X5_isColour
set_option maxRecDepth 20000 in
theorem ggX5_first_X5_tooManyEmpty : GoodIn wsX5_first wsX5_tooManyEmpty := goodIn_r _ [9, 10, 11, 12, 4, 13, 14, 15, 16, 17, 18, 19, 20, 21, 22, 23, 24, 25, 26, 27, 28, 29, 30, 127, 128, 129, 130, 131, 132, 133, 134, 135, 136, 137, 138, 139, 140, 141, 142] (by decide +kernel) (by decide +kernel)
set_option maxRecDepth 20000 in
theorem gX5_first_X5_tooManyEmpty : GoodIn wsX5_first (wsV RX5 150 RX5 yX5_tooManyEmpty wsX5_tooManyEmpty) := goodIn_app (goodIn_of _ (by decide +kernel)) ggX5_first_X5_tooManyEmpty
set_option maxRecDepth 20000 in
theorem ggX5_first_X5_askBanks : GoodIn wsX5_first wsX5_askBanks := goodIn_r _ [34, 1, 14, 15, 16, 35, 36, 37, 21, 38, 39, 40, 41, 42, 43, 44, 45, 46, 47, 48, 49, 50, 51, 52, 53, 54, 55, 56, 57, 58, 59, 60, 61, 62, 63, 64, 65, 66, 67, 68, 69, 70, 71, 72, 73, 74, 75, 76, 77, 78, 79, 80, 81, 82, 83, 19, 20, 22, 23, 84, 25, 26, 27, 28, 29, 30, 85, 86, 87, 88, 89, 90, 91, 92, 93, 94, 95, 96, 97, 98, 99, 100, 101, 102, 103, 104, 105, 106, 107, 108, 109, 110, 4, 111, 127, 128, 129, 130, 131, 132, 133, 134, 135, 136, 137, 138, 139, 140, 141, 142, 143, 144, 145, 146, 147, 148, 149, 150, 151, 152, 153, 154, 155, 156, 157, 158] (by decide +kernel) (by decide +kernel)
set_option maxRecDepth 20000 in
theorem gX5_first_X5_askBanks : GoodIn wsX5_first (wsV RX5 154 RX5 yX5_askBanks wsX5_askBanks) := goodIn_app (goodIn_of _ (by decide +kernel)) ggX5_first_X5_askBanks
set_option maxRecDepth 20000 in
theorem ggX5_first_X1_winningField : GoodIn wsX5_first wsX1_winningField := goodIn_r _ [115, 76, 71, 110, 4, 111, 116, 117, 118, 48, 119, 120, 121, 122, 80, 77, 81, 82, 123, 124, 125, 88, 126, 90, 106, 107, 108, 109, 143, 144, 145, 146, 147, 148, 149, 150, 151, 152, 153, 154, 155, 156, 157, 158] (by decide +kernel) (by decide +kernel)
set_option maxRecDepth 20000 in
theorem gX5_first_X1_winningField : GoodIn wsX5_first (wsV RX5 161 RX1 yX1_winningField wsX1_winningField) := goodIn_app (goodIn_of _ (by decide +kernel)) ggX5_first_X1_winningField
theorem dX5_first_0 : decode cX5_first 0 = .ok (.iload_n 1, 1) := by decide +kernel
theorem dX5_first_1 : decode cX5_first 1 = .ok (.invokestatic 48, 3) := by decide +kernel
theorem dX5_first_4 : decode cX5_first 4 = .ok (.ifCond .eq 10, 3) := by decide +kernel
theorem dX5_first_7 : decode cX5_first 7 = .ok (.aload_n 0, 1) := by decide +kernel
theorem dX5_first_8 : decode cX5_first 8 = .ok (.invokevirtual 150, 3) := by decide +kernel
theorem dX5_first_11 : decode cX5_first 11 = .ok (.ifCond .eq 5, 3) := by decide +kernel
theorem dX5_first_14 : decode cX5_first 14 = .ok (.iconst (-1), 1) := by decide +kernel
theorem dX5_first_15 : decode cX5_first 15 = .ok (.ireturn, 1) := by decide +kernel
theorem dX5_first_16 : decode cX5_first 16 = .ok (.aload_n 0, 1) := by decide +kernel
theorem dX5_first_17 : decode cX5_first 17 = .ok (.invokevirtual 154, 3) := by decide +kernel
theorem dX5_first_20 : decode cX5_first 20 = .ok (.aload_n 0, 1) := by decide +kernel
theorem dX5_first_21 : decode cX5_first 21 = .ok (.getfield 33, 3) := by decide +kernel
theorem dX5_first_24 : decode cX5_first 24 = .ok (.iload_n 1, 1) := by decide +kernel
theorem dX5_first_25 : decode cX5_first 25 = .ok (.iconst 1, 1) := by decide +kernel
theorem dX5_first_26 : decode cX5_first 26 = .ok (.if_icmp .ne 7, 3) := by decide +kernel
theorem dX5_first_29 : decode cX5_first 29 = .ok (.iconst 1, 1) := by decide +kernel
theorem dX5_first_30 : decode cX5_first 30 = .ok (.goto 4, 3) := by decide +kernel
theorem dX5_first_33 : decode cX5_first 33 = .ok (.iconst 0, 1) := by decide +kernel
theorem dX5_first_34 : decode cX5_first 34 = .ok (.iload_n 2, 1) := by decide +kernel
theorem dX5_first_35 : decode cX5_first 35 = .ok (.invokevirtual 161, 3) := by decide +kernel
theorem dX5_first_38 : decode cX5_first 38 = .ok (.ireturn, 1) := by decide +kernel
set_option maxRecDepth 20000 in
theorem ggX5_fillings_X5_tooManyEmpty : GoodIn wsX5_fillings wsX5_tooManyEmpty := goodIn_r _ [6, 7, 8, 9, 5, 10, 11, 12, 13, 14, 15, 16, 17, 18, 19, 20, 21, 22, 23, 24, 25, 26, 27, 113, 114, 115, 116, 117, 118, 119, 120, 121, 122, 123, 124, 125, 126, 127, 128] (by decide +kernel) (by decide +kernel)
set_option maxRecDepth 20000 in
theorem gX5_fillings_X5_tooManyEmpty : GoodIn wsX5_fillings (wsV RX5 150 RX5 yX5_tooManyEmpty wsX5_tooManyEmpty) := goodIn_app (goodIn_of _ (by decide +kernel)) ggX5_fillings_X5_tooManyEmpty
set_option maxRecDepth 20000 in
theorem ggX5_fillings_X5_askBanks : GoodIn wsX5_fillings wsX5_askBanks := goodIn_r _ [31, 1, 11, 12, 13, 32, 33, 34, 18, 35, 36, 37, 38, 39, 40, 41, 42, 43, 44, 45, 46, 47, 48, 49, 50, 51, 52, 53, 54, 55, 56, 57, 58, 59, 60, 61, 62, 63, 64, 65, 66, 67, 68, 69, 70, 71, 72, 73, 74, 75, 76, 77, 78, 79, 80, 16, 17, 19, 20, 81, 22, 23, 24, 25, 26, 27, 82, 83, 84, 85, 86, 87, 88, 89, 90, 91, 92, 93, 94, 95, 96, 97, 98, 99, 100, 101, 102, 103, 104, 105, 106, 107, 5, 108, 113, 114, 115, 116, 117, 118, 119, 120, 121, 122, 123, 124, 125, 126, 127, 128, 129, 130, 131, 132, 133, 134, 135, 136, 137, 138, 139, 140, 141, 142, 143, 144] (by decide +kernel) (by decide +kernel)
set_option maxRecDepth 20000 in
theorem gX5_fillings_X5_askBanks : GoodIn wsX5_fillings (wsV RX5 154 RX5 yX5_askBanks wsX5_askBanks) := goodIn_app (goodIn_of _ (by decide +kernel)) ggX5_fillings_X5_askBanks
set_option maxRecDepth 20000 in
theorem ggX5_fillings_X1_reachedFillings : GoodIn wsX5_fillings wsX1_reachedFillings := goodIn_r _ [112, 75, 129, 130, 131, 132, 133, 134, 135, 136, 137, 138, 139, 140, 141, 142, 143] (by decide +kernel) (by decide +kernel)
set_option maxRecDepth 20000 in
theorem gX5_fillings_X1_reachedFillings : GoodIn wsX5_fillings (wsV RX5 165 RX1 yX1_reachedFillings wsX1_reachedFillings) := goodIn_app (goodIn_of _ (by decide +kernel)) ggX5_fillings_X1_reachedFillings
theorem dX5_fillings_0 : decode cX5_fillings 0 = .ok (.aload_n 0, 1) := by decide +kernel
theorem dX5_fillings_1 : decode cX5_fillings 1 = .ok (.invokevirtual 150, 3) := by decide +kernel
theorem dX5_fillings_4 : decode cX5_fillings 4 = .ok (.ifCond .eq 5, 3) := by decide +kernel
theorem dX5_fillings_7 : decode cX5_fillings 7 = .ok (.iconst (-1), 1) := by decide +kernel
theorem dX5_fillings_8 : decode cX5_fillings 8 = .ok (.ireturn, 1) := by decide +kernel
theorem dX5_fillings_9 : decode cX5_fillings 9 = .ok (.aload_n 0, 1) := by decide +kernel
theorem dX5_fillings_10 : decode cX5_fillings 10 = .ok (.invokevirtual 154, 3) := by decide +kernel
theorem dX5_fillings_13 : decode cX5_fillings 13 = .ok (.aload_n 0, 1) := by decide +kernel
theorem dX5_fillings_14 : decode cX5_fillings 14 = .ok (.getfield 33, 3) := by decide +kernel
theorem dX5_fillings_17 : decode cX5_fillings 17 = .ok (.invokevirtual 165, 3) := by decide +kernel
theorem dX5_fillings_20 : decode cX5_fillings 20 = .ok (.ireturn, 1) := by decide +kernel
set_option maxRecDepth 20000 in
theorem ggX5_dead_X2_has : GoodIn wsX5_dead wsX2_has := goodIn_r _ [7, 8, 9, 144, 145, 146, 147, 148, 149, 150] (by decide +kernel) (by decide +kernel)
set_option maxRecDepth 20000 in
theorem gX5_dead_X2_has : GoodIn wsX5_dead (wsV RX5 51 RX2 yX2_has wsX2_has) := goodIn_app (goodIn_of _ (by decide +kernel)) ggX5_dead_X2_has
set_option maxRecDepth 20000 in
theorem ggX5_dead_X5_stoneAt : GoodIn wsX5_dead wsX5_stoneAt := goodIn_r _ [14, 15, 16, 17, 18, 13, 19, 135, 136, 137, 138, 139, 140, 141, 142, 143] (by decide +kernel) (by decide +kernel)
set_option maxRecDepth 20000 in
theorem gX5_dead_X5_stoneAt : GoodIn wsX5_dead (wsV RX5 68 RX5 yX5_stoneAt wsX5_stoneAt) := goodIn_app (goodIn_of _ (by decide +kernel)) ggX5_dead_X5_stoneAt
set_option maxRecDepth 20000 in
theorem ggX5_dead_X5_tooManyEmpty : GoodIn wsX5_dead wsX5_tooManyEmpty := goodIn_r _ [23, 24, 25, 26, 13, 27, 1, 15, 16, 28, 29, 30, 31, 6, 32, 33, 34, 35, 36, 37, 38, 39, 40, 135, 136, 137, 138, 139, 140, 141, 142, 143, 144, 145, 146, 147, 148, 149, 150] (by decide +kernel) (by decide +kernel)
set_option maxRecDepth 20000 in
theorem gX5_dead_X5_tooManyEmpty : GoodIn wsX5_dead (wsV RX5 150 RX5 yX5_tooManyEmpty wsX5_tooManyEmpty) := goodIn_app (goodIn_of _ (by decide +kernel)) ggX5_dead_X5_tooManyEmpty
set_option maxRecDepth 20000 in
theorem ggX5_dead_X5_askBanks : GoodIn wsX5_dead wsX5_askBanks := goodIn_r _ [44, 2, 1, 15, 16, 45, 46, 47, 6, 48, 49, 50, 51, 52, 53, 54, 55, 56, 57, 58, 59, 60, 61, 62, 63, 64, 65, 66, 67, 68, 69, 8, 70, 71, 72, 73, 9, 74, 75, 76, 77, 78, 79, 80, 81, 82, 83, 84, 85, 86, 87, 88, 89, 90, 91, 30, 31, 32, 33, 92, 35, 36, 37, 38, 39, 40, 93, 94, 95, 96, 97, 98, 99, 100, 101, 102, 103, 104, 105, 106, 107, 108, 109, 110, 111, 112, 113, 114, 115, 116, 117, 18, 13, 19, 135, 136, 137, 138, 139, 140, 141, 142, 143, 144, 145, 146, 147, 148, 149, 150, 151, 152, 153, 154, 155, 156, 157, 158, 159, 160, 161, 162, 163, 164, 165, 166] (by decide +kernel) (by decide +kernel)
set_option maxRecDepth 20000 in
theorem gX5_dead_X5_askBanks : GoodIn wsX5_dead (wsV RX5 154 RX5 yX5_askBanks wsX5_askBanks) := goodIn_app (goodIn_of _ (by decide +kernel)) ggX5_dead_X5_askBanks
set_option maxRecDepth 20000 in
theorem ggX5_dead_X1_deadFields : GoodIn wsX5_dead wsX1_deadFields := goodIn_r _ [121, 87, 122, 123, 124, 125, 58, 126, 84, 79, 18, 13, 19, 127, 128, 129, 130, 85, 88, 131, 132, 133, 96, 134, 98, 151, 152, 153, 154, 155, 156, 157, 158, 159, 160, 161, 162, 163, 164, 165, 166] (by decide +kernel) (by decide +kernel)
set_option maxRecDepth 20000 in
theorem gX5_dead_X1_deadFields : GoodIn wsX5_dead (wsV RX5 168 RX1 yX1_deadFields wsX1_deadFields) := goodIn_app (goodIn_of _ (by decide +kernel)) ggX5_dead_X1_deadFields
set_option maxRecDepth 20000 in
theorem ggX5_dead_X5_bit : GoodIn wsX5_dead wsX5_bit := goodIn_r _ [19] (by decide +kernel) (by decide +kernel)
set_option maxRecDepth 20000 in
theorem gX5_dead_X5_bit : GoodIn wsX5_dead (va_wsS RX5 171 yX5_bit wsX5_bit) := goodIn_app (goodIn_of _ (by decide +kernel)) ggX5_dead_X5_bit
theorem dX5_dead_0 : decode cX5_dead 0 = .ok (.aload_n 0, 1) := by decide +kernel
theorem dX5_dead_1 : decode cX5_dead 1 = .ok (.getfield 12, 3) := by decide +kernel
theorem dX5_dead_4 : decode cX5_dead 4 = .ok (.iload_n 1, 1) := by decide +kernel
theorem dX5_dead_5 : decode cX5_dead 5 = .ok (.invokevirtual 51, 3) := by decide +kernel
theorem dX5_dead_8 : decode cX5_dead 8 = .ok (.ifCond .eq 18, 3) := by decide +kernel
theorem dX5_dead_11 : decode cX5_dead 11 = .ok (.aload_n 0, 1) := by decide +kernel
theorem dX5_dead_12 : decode cX5_dead 12 = .ok (.iload_n 1, 1) := by decide +kernel
theorem dX5_dead_13 : decode cX5_dead 13 = .ok (.invokevirtual 68, 3) := by decide +kernel
theorem dX5_dead_16 : decode cX5_dead 16 = .ok (.ifCond .ne 10, 3) := by decide +kernel
theorem dX5_dead_19 : decode cX5_dead 19 = .ok (.aload_n 0, 1) := by decide +kernel
theorem dX5_dead_20 : decode cX5_dead 20 = .ok (.invokevirtual 150, 3) := by decide +kernel
theorem dX5_dead_23 : decode cX5_dead 23 = .ok (.ifCond .eq 5, 3) := by decide +kernel
theorem dX5_dead_26 : decode cX5_dead 26 = .ok (.iconst (-1), 1) := by decide +kernel
theorem dX5_dead_27 : decode cX5_dead 27 = .ok (.ireturn, 1) := by decide +kernel
theorem dX5_dead_28 : decode cX5_dead 28 = .ok (.aload_n 0, 1) := by decide +kernel
theorem dX5_dead_29 : decode cX5_dead 29 = .ok (.invokevirtual 154, 3) := by decide +kernel
theorem dX5_dead_32 : decode cX5_dead 32 = .ok (.aload_n 0, 1) := by decide +kernel
theorem dX5_dead_33 : decode cX5_dead 33 = .ok (.getfield 33, 3) := by decide +kernel
theorem dX5_dead_36 : decode cX5_dead 36 = .ok (.invokevirtual 168, 3) := by decide +kernel
theorem dX5_dead_39 : decode cX5_dead 39 = .ok (.iload_n 1, 1) := by decide +kernel
theorem dX5_dead_40 : decode cX5_dead 40 = .ok (.invokestatic 171, 3) := by decide +kernel
theorem dX5_dead_43 : decode cX5_dead 43 = .ok (.land, 1) := by decide +kernel
theorem dX5_dead_44 : decode cX5_dead 44 = .ok (.lconst 0, 1) := by decide +kernel
theorem dX5_dead_45 : decode cX5_dead 45 = .ok (.lcmp, 1) := by decide +kernel
theorem dX5_dead_46 : decode cX5_dead 46 = .ok (.ifCond .eq 7, 3) := by decide +kernel
theorem dX5_dead_49 : decode cX5_dead 49 = .ok (.iconst 1, 1) := by decide +kernel
theorem dX5_dead_50 : decode cX5_dead 50 = .ok (.goto 4, 3) := by decide +kernel
theorem dX5_dead_53 : decode cX5_dead 53 = .ok (.iconst 0, 1) := by decide +kernel
theorem dX5_dead_54 : decode cX5_dead 54 = .ok (.ireturn, 1) := by decide +kernel
set_option maxRecDepth 20000 in
theorem ggX5_link_X5_canLink : GoodIn wsX5_link wsX5_canLink := goodIn_r _ [6, 7, 8, 9, 5, 10, 11, 12, 13, 14, 15, 16, 17, 18, 19, 20, 21, 22, 23, 24, 25, 26, 27, 28, 29, 30, 31, 32, 33, 34, 35, 36, 37, 38, 39, 40, 41, 42, 43, 44, 45, 46, 47, 48, 49, 50, 133, 134, 135, 136, 137, 138, 139, 140, 141, 142, 143, 144, 145, 146, 147, 148] (by decide +kernel) (by decide +kernel)
set_option maxRecDepth 20000 in
theorem gX5_link_X5_canLink : GoodIn wsX5_link (wsV RX5 174 RX5 yX5_canLink wsX5_canLink) := goodIn_app (goodIn_of _ (by decide +kernel)) ggX5_link_X5_canLink
set_option maxRecDepth 20000 in
theorem ggX5_link_X5_askLink : GoodIn wsX5_link wsX5_askLink := goodIn_r _ [54, 1, 7, 21, 22, 23, 5, 24, 25, 26, 18, 19, 20, 27, 28, 29, 55, 56, 57, 58, 59, 60, 61, 62, 63, 64, 65, 66, 67, 68, 14, 69, 16, 70, 71, 72, 73, 17, 74, 75, 76, 77, 78, 79, 80, 81, 82, 83, 84, 85, 86, 87, 88, 89, 90, 91, 40, 41, 42, 43, 92, 45, 46, 47, 48, 49, 50, 93, 94, 95, 96, 97, 98, 99, 100, 101, 102, 103, 104, 105, 106, 107, 108, 109, 110, 111, 112, 113, 114, 115, 116, 117, 133, 134, 135, 136, 137, 138, 139, 140, 141, 149, 150, 151, 152, 153, 154, 155, 156, 157, 158, 159, 160, 161, 162, 163, 142, 143, 144, 145, 146, 147, 148, 164] (by decide +kernel) (by decide +kernel)
set_option maxRecDepth 20000 in
theorem gX5_link_X5_askLink : GoodIn wsX5_link (wsV RX5 178 RX5 yX5_askLink wsX5_askLink) := goodIn_app (goodIn_of _ (by decide +kernel)) ggX5_link_X5_askLink
set_option maxRecDepth 20000 in
theorem ggX5_link_X1_strength : GoodIn wsX5_link wsX1_strength := goodIn_r _ [121, 122, 123, 124, 58, 125, 84, 126, 127, 128, 88, 85, 89, 90, 129, 130, 131, 96, 132, 98, 28, 5, 29, 114, 115, 116, 117, 149, 150, 151, 152, 153, 154, 155, 156, 157, 158, 159, 160, 161, 162, 163, 164] (by decide +kernel) (by decide +kernel)
set_option maxRecDepth 20000 in
theorem gX5_link_X1_strength : GoodIn wsX5_link (wsV RX5 182 RX1 yX1_strength wsX1_strength) := goodIn_app (goodIn_of _ (by decide +kernel)) ggX5_link_X1_strength
theorem dX5_link_0 : decode cX5_link 0 = .ok (.aload_n 0, 1) := by decide +kernel
theorem dX5_link_1 : decode cX5_link 1 = .ok (.iload_n 1, 1) := by decide +kernel
theorem dX5_link_2 : decode cX5_link 2 = .ok (.iload_n 2, 1) := by decide +kernel
theorem dX5_link_3 : decode cX5_link 3 = .ok (.iload_n 3, 1) := by decide +kernel
theorem dX5_link_4 : decode cX5_link 4 = .ok (.invokevirtual 174, 3) := by decide +kernel
theorem dX5_link_7 : decode cX5_link 7 = .ok (.ifCond .ne 5, 3) := by decide +kernel
theorem dX5_link_10 : decode cX5_link 10 = .ok (.iconst (-1), 1) := by decide +kernel
theorem dX5_link_11 : decode cX5_link 11 = .ok (.ireturn, 1) := by decide +kernel
theorem dX5_link_12 : decode cX5_link 12 = .ok (.aload_n 0, 1) := by decide +kernel
theorem dX5_link_13 : decode cX5_link 13 = .ok (.iload_n 1, 1) := by decide +kernel
theorem dX5_link_14 : decode cX5_link 14 = .ok (.iload_n 2, 1) := by decide +kernel
theorem dX5_link_15 : decode cX5_link 15 = .ok (.iload_n 3, 1) := by decide +kernel
theorem dX5_link_16 : decode cX5_link 16 = .ok (.invokevirtual 178, 3) := by decide +kernel
theorem dX5_link_19 : decode cX5_link 19 = .ok (.aload_n 0, 1) := by decide +kernel
theorem dX5_link_20 : decode cX5_link 20 = .ok (.getfield 37, 3) := by decide +kernel
theorem dX5_link_23 : decode cX5_link 23 = .ok (.invokevirtual 182, 3) := by decide +kernel
theorem dX5_link_26 : decode cX5_link 26 = .ok (.ireturn, 1) := by decide +kernel
set_option maxRecDepth 20000 in
theorem ggX5_half_X5_canLink : GoodIn wsX5_half wsX5_canLink := goodIn_r _ [6, 7, 8, 9, 5, 10, 11, 12, 13, 14, 15, 16, 17, 18, 19, 20, 21, 22, 23, 24, 25, 26, 27, 28, 29, 30, 31, 32, 33, 34, 35, 36, 37, 38, 39, 40, 41, 42, 43, 44, 45, 46, 47, 48, 49, 50, 141, 142, 143, 144, 145, 146, 147, 148, 149, 150, 151, 152, 153, 154, 155, 156] (by decide +kernel) (by decide +kernel)
set_option maxRecDepth 20000 in
theorem gX5_half_X5_canLink : GoodIn wsX5_half (wsV RX5 174 RX5 yX5_canLink wsX5_canLink) := goodIn_app (goodIn_of _ (by decide +kernel)) ggX5_half_X5_canLink
set_option maxRecDepth 20000 in
theorem ggX5_half_X5_askLink : GoodIn wsX5_half wsX5_askLink := goodIn_r _ [54, 1, 7, 21, 22, 23, 5, 24, 25, 26, 18, 19, 20, 27, 28, 29, 55, 56, 57, 58, 59, 60, 61, 62, 63, 64, 65, 66, 67, 68, 14, 69, 16, 70, 71, 72, 73, 17, 74, 75, 76, 77, 78, 79, 80, 81, 82, 83, 84, 85, 86, 87, 88, 89, 90, 91, 40, 41, 42, 43, 92, 45, 46, 47, 48, 49, 50, 93, 94, 95, 96, 97, 98, 99, 100, 101, 102, 103, 104, 105, 106, 107, 108, 109, 110, 111, 112, 113, 114, 115, 116, 117, 141, 142, 143, 144, 145, 146, 147, 148, 149, 157, 158, 159, 160, 161, 162, 163, 164, 165, 166, 167, 168, 169, 170, 171, 150, 151, 152, 153, 154, 155, 156, 172] (by decide +kernel) (by decide +kernel)
set_option maxRecDepth 20000 in
theorem gX5_half_X5_askLink : GoodIn wsX5_half (wsV RX5 178 RX5 yX5_askLink wsX5_askLink) := goodIn_app (goodIn_of _ (by decide +kernel)) ggX5_half_X5_askLink
set_option maxRecDepth 20000 in
theorem ggX5_half_X1_strength : GoodIn wsX5_half wsX1_strength := goodIn_r _ [121, 122, 123, 124, 58, 125, 84, 126, 127, 128, 88, 85, 89, 90, 129, 130, 131, 96, 132, 98, 28, 5, 29, 114, 115, 116, 117, 157, 158, 159, 160, 161, 162, 163, 164, 165, 166, 167, 168, 169, 170, 171, 172] (by decide +kernel) (by decide +kernel)
set_option maxRecDepth 20000 in
theorem gX5_half_X1_strength : GoodIn wsX5_half (wsV RX5 182 RX1 yX1_strength wsX1_strength) := goodIn_app (goodIn_of _ (by decide +kernel)) ggX5_half_X1_strength
set_option maxRecDepth 20000 in
theorem ggX5_half_X1_winningField : GoodIn wsX5_half wsX1_winningField := goodIn_r _ [136, 84, 79, 28, 5, 29, 137, 138, 139, 58, 140, 126, 127, 128, 88, 85, 89, 90, 129, 130, 131, 96, 132, 98, 114, 115, 116, 117, 157, 158, 159, 160, 161, 162, 163, 164, 165, 166, 167, 168, 169, 170, 171, 172] (by decide +kernel) (by decide +kernel)
set_option maxRecDepth 20000 in
theorem gX5_half_X1_winningField : GoodIn wsX5_half (wsV RX5 161 RX1 yX1_winningField wsX1_winningField) := goodIn_app (goodIn_of _ (by decide +kernel)) ggX5_half_X1_winningField
theorem dX5_half_0 : decode cX5_half 0 = .ok (.aload_n 0, 1) := by decide +kernel
theorem dX5_half_1 : decode cX5_half 1 = .ok (.iload_n 1, 1) := by decide +kernel
theorem dX5_half_2 : decode cX5_half 2 = .ok (.iload_n 2, 1) := by decide +kernel
theorem dX5_half_3 : decode cX5_half 3 = .ok (.iload_n 3, 1) := by decide +kernel
theorem dX5_half_4 : decode cX5_half 4 = .ok (.invokevirtual 174, 3) := by decide +kernel
theorem dX5_half_7 : decode cX5_half 7 = .ok (.ifCond .ne 5, 3) := by decide +kernel
theorem dX5_half_10 : decode cX5_half 10 = .ok (.iconst (-1), 1) := by decide +kernel
theorem dX5_half_11 : decode cX5_half 11 = .ok (.ireturn, 1) := by decide +kernel
theorem dX5_half_12 : decode cX5_half 12 = .ok (.aload_n 0, 1) := by decide +kernel
theorem dX5_half_13 : decode cX5_half 13 = .ok (.iload_n 1, 1) := by decide +kernel
theorem dX5_half_14 : decode cX5_half 14 = .ok (.iload_n 2, 1) := by decide +kernel
theorem dX5_half_15 : decode cX5_half 15 = .ok (.iload_n 3, 1) := by decide +kernel
theorem dX5_half_16 : decode cX5_half 16 = .ok (.invokevirtual 178, 3) := by decide +kernel
theorem dX5_half_19 : decode cX5_half 19 = .ok (.aload_n 0, 1) := by decide +kernel
theorem dX5_half_20 : decode cX5_half 20 = .ok (.getfield 37, 3) := by decide +kernel
theorem dX5_half_23 : decode cX5_half 23 = .ok (.invokevirtual 182, 3) := by decide +kernel
theorem dX5_half_26 : decode cX5_half 26 = .ok (.iconst 1, 1) := by decide +kernel
theorem dX5_half_27 : decode cX5_half 27 = .ok (.if_icmp .ne 16, 3) := by decide +kernel
theorem dX5_half_30 : decode cX5_half 30 = .ok (.aload_n 0, 1) := by decide +kernel
theorem dX5_half_31 : decode cX5_half 31 = .ok (.getfield 37, 3) := by decide +kernel
theorem dX5_half_34 : decode cX5_half 34 = .ok (.iconst 1, 1) := by decide +kernel
theorem dX5_half_35 : decode cX5_half 35 = .ok (.iload 4, 2) := by decide +kernel
theorem dX5_half_37 : decode cX5_half 37 = .ok (.invokevirtual 161, 3) := by decide +kernel
theorem dX5_half_40 : decode cX5_half 40 = .ok (.goto 4, 3) := by decide +kernel
theorem dX5_half_43 : decode cX5_half 43 = .ok (.iconst (-1), 1) := by decide +kernel
theorem dX5_half_44 : decode cX5_half 44 = .ok (.ireturn, 1) := by decide +kernel
set_option maxRecDepth 20000 in
theorem ggX5_count_X2_rows : GoodIn wsX5_count wsX2_rows := goodIn_r _ [11, 12, 205, 206, 207, 208, 209, 210, 211] (by decide +kernel) (by decide +kernel)
set_option maxRecDepth 20000 in
theorem gX5_count_X2_rows : GoodIn wsX5_count (wsV RX5 83 RX2 yX2_rows wsX2_rows) := goodIn_app (goodIn_of _ (by decide +kernel)) ggX5_count_X2_rows
set_option maxRecDepth 20000 in
theorem ggX5_count_X2_columns : GoodIn wsX5_count wsX2_columns := goodIn_r _ [16, 17, 205, 206, 207, 208, 209, 210, 211] (by decide +kernel) (by decide +kernel)
set_option maxRecDepth 20000 in
theorem gX5_count_X2_columns : GoodIn wsX5_count (wsV RX5 86 RX2 yX2_columns wsX2_columns) := goodIn_app (goodIn_of _ (by decide +kernel)) ggX5_count_X2_columns
set_option maxRecDepth 20000 in
theorem ggX5_count_X5_empties : GoodIn wsX5_count wsX5_empties := goodIn_r _ [22, 1, 4, 5, 23, 24, 25, 26, 10, 27, 28, 196, 197, 198, 199, 200, 201, 202, 203, 204, 205, 206, 207, 208, 209, 210, 211] (by decide +kernel) (by decide +kernel)
set_option maxRecDepth 20000 in
theorem gX5_count_X5_empties : GoodIn wsX5_count (wsV RX5 140 RX5 yX5_empties wsX5_empties) := goodIn_app (goodIn_of _ (by decide +kernel)) ggX5_count_X5_empties
set_option maxRecDepth 20000 in
theorem ggX5_count_J13_bitCount_95d88 : GoodIn wsX5_count wsJ13_bitCount_95d88 := goodIn_r _ [32, 33, 34, 35] (by decide +kernel) (by decide +kernel)
set_option maxRecDepth 20000 in
theorem gX5_count_J13_bitCount_95d88 : GoodIn wsX5_count (va_wsS RX5 129 yJ13_bitCount_95d88 wsJ13_bitCount_95d88) := goodIn_app (goodIn_of _ (by decide +kernel)) ggX5_count_J13_bitCount_95d88
set_option maxRecDepth 20000 in
theorem ggX5_count_X0_done : GoodIn wsX5_count wsX0_done := goodIn_r _ [40, 41, 212, 213, 214] (by decide +kernel) (by decide +kernel)
set_option maxRecDepth 20000 in
theorem gX5_count_X0_done : GoodIn wsX5_count (wsV RX5 89 RX0 yX0_done wsX0_done) := goodIn_app (goodIn_of _ (by decide +kernel)) ggX5_count_X0_done
set_option maxRecDepth 20000 in
theorem ggX5_count_X0_undone : GoodIn wsX5_count wsX0_undone := goodIn_r _ [45, 46, 41, 212, 213, 214] (by decide +kernel) (by decide +kernel)
set_option maxRecDepth 20000 in
theorem gX5_count_X0_undone : GoodIn wsX5_count (wsV RX5 185 RX0 yX0_undone wsX0_undone) := goodIn_app (goodIn_of _ (by decide +kernel)) ggX5_count_X0_undone
set_option maxRecDepth 20000 in
theorem ggX5_count_X2_groupsOf : GoodIn wsX5_count wsX2_groupsOf := goodIn_r _ [50, 51, 52, 53, 54, 10, 55, 56, 57, 58, 59, 60, 61, 17, 28, 205, 206, 207, 208, 209, 210, 211] (by decide +kernel) (by decide +kernel)
set_option maxRecDepth 20000 in
theorem gX5_count_X2_groupsOf : GoodIn wsX5_count (wsV RX5 188 RX2 yX2_groupsOf wsX2_groupsOf) := goodIn_app (goodIn_of _ (by decide +kernel)) ggX5_count_X2_groupsOf
set_option maxRecDepth 20000 in
theorem ggX5_count_X5_howManyDead : GoodIn wsX5_count wsX5_howManyDead := goodIn_r _ [65, 66, 67, 68, 69, 21, 70, 18, 19, 20, 22, 1, 4, 5, 23, 24, 25, 26, 10, 27, 28, 29, 30, 31, 32, 33, 34, 35, 71, 72, 73, 74, 75, 76, 77, 78, 79, 80, 81, 82, 83, 84, 85, 86, 87, 88, 89, 90, 91, 92, 93, 94, 95, 96, 8, 9, 11, 12, 97, 14, 15, 16, 17, 98, 99, 100, 101, 102, 103, 104, 105, 106, 107, 108, 109, 110, 111, 112, 113, 114, 115, 116, 117, 118, 119, 120, 121, 122, 123, 124, 125, 126, 127, 53, 54, 55, 56, 57, 58, 59, 60, 51, 61, 128, 129, 130, 131, 132, 133, 134, 135, 136, 137, 138, 139, 140, 141, 142, 143, 144, 145, 146, 147, 148, 149, 150, 196, 197, 198, 199, 200, 201, 202, 203, 204, 205, 206, 207, 208, 209, 210, 211, 215, 216, 217, 218, 219, 220, 221, 222, 223, 224, 225, 226, 227, 228, 229, 230] (by decide +kernel) (by decide +kernel)
set_option maxRecDepth 20000 in
theorem gX5_count_X5_howManyDead : GoodIn wsX5_count (wsV RX5 191 RX5 yX5_howManyDead wsX5_howManyDead) := goodIn_app (goodIn_of _ (by decide +kernel)) ggX5_count_X5_howManyDead
set_option maxRecDepth 20000 in
theorem ggX5_count_X5_findPath : GoodIn wsX5_count wsX5_findPath := goodIn_r _ [154, 6, 1, 4, 5, 155, 156, 157, 21, 158, 75, 76, 77, 10, 78, 79, 80, 81, 82, 83, 84, 159, 160, 161, 162, 52, 53, 54, 55, 56, 57, 58, 59, 60, 51, 61, 17, 28, 163, 164, 165, 166, 167, 168, 169, 170, 171, 172, 173, 174, 175, 176, 177, 178, 179, 180, 181, 182, 183, 184, 185, 186, 187, 188, 189, 29, 30, 31, 32, 33, 34, 35, 132, 133, 190, 191, 196, 197, 198, 199, 200, 201, 202, 203, 204, 205, 206, 207, 208, 209, 210, 211, 231, 232, 233] (by decide +kernel) (by decide +kernel)
set_option maxRecDepth 20000 in
theorem gX5_count_X5_findPath : GoodIn wsX5_count (wsV RX5 144 RX5 yX5_findPath wsX5_findPath) := goodIn_app (goodIn_of _ (by decide +kernel)) ggX5_count_X5_findPath
set_option maxRecDepth 20000 in
theorem ggX5_count_X4_length : GoodIn wsX5_count wsX4_length := goodIn_r _ [195, 182, 231, 232, 233] (by decide +kernel) (by decide +kernel)
set_option maxRecDepth 20000 in
theorem gX5_count_X4_length : GoodIn wsX5_count (wsV RX5 194 RX4 yX4_length wsX4_length) := goodIn_app (goodIn_of _ (by decide +kernel)) ggX5_count_X4_length
theorem dX5_count_0 : decode cX5_count 0 = .ok (.iload_n 1, 1) := by decide +kernel
theorem dX5_count_1 : decode cX5_count 1 = .ok (.tableswitch 141 0 9 #[55, 63, 71, 79, 84, 92, 100, 112, 124, 129], 55) := by decide +kernel
theorem dX5_count_56 : decode cX5_count 56 = .ok (.aload_n 0, 1) := by decide +kernel
theorem dX5_count_57 : decode cX5_count 57 = .ok (.getfield 12, 3) := by decide +kernel
theorem dX5_count_60 : decode cX5_count 60 = .ok (.invokevirtual 83, 3) := by decide +kernel
theorem dX5_count_63 : decode cX5_count 63 = .ok (.ireturn, 1) := by decide +kernel
theorem dX5_count_64 : decode cX5_count 64 = .ok (.aload_n 0, 1) := by decide +kernel
theorem dX5_count_65 : decode cX5_count 65 = .ok (.getfield 12, 3) := by decide +kernel
theorem dX5_count_68 : decode cX5_count 68 = .ok (.invokevirtual 86, 3) := by decide +kernel
theorem dX5_count_71 : decode cX5_count 71 = .ok (.ireturn, 1) := by decide +kernel
theorem dX5_count_72 : decode cX5_count 72 = .ok (.aload_n 0, 1) := by decide +kernel
theorem dX5_count_73 : decode cX5_count 73 = .ok (.invokevirtual 140, 3) := by decide +kernel
theorem dX5_count_76 : decode cX5_count 76 = .ok (.invokestatic 129, 3) := by decide +kernel
theorem dX5_count_79 : decode cX5_count 79 = .ok (.ireturn, 1) := by decide +kernel
theorem dX5_count_80 : decode cX5_count 80 = .ok (.aload_n 0, 1) := by decide +kernel
theorem dX5_count_81 : decode cX5_count 81 = .ok (.getfield 57, 3) := by decide +kernel
theorem dX5_count_84 : decode cX5_count 84 = .ok (.ireturn, 1) := by decide +kernel
theorem dX5_count_85 : decode cX5_count 85 = .ok (.aload_n 0, 1) := by decide +kernel
theorem dX5_count_86 : decode cX5_count 86 = .ok (.getfield 19, 3) := by decide +kernel
theorem dX5_count_89 : decode cX5_count 89 = .ok (.invokevirtual 89, 3) := by decide +kernel
theorem dX5_count_92 : decode cX5_count 92 = .ok (.ireturn, 1) := by decide +kernel
theorem dX5_count_93 : decode cX5_count 93 = .ok (.aload_n 0, 1) := by decide +kernel
theorem dX5_count_94 : decode cX5_count 94 = .ok (.getfield 19, 3) := by decide +kernel
theorem dX5_count_97 : decode cX5_count 97 = .ok (.invokevirtual 185, 3) := by decide +kernel
theorem dX5_count_100 : decode cX5_count 100 = .ok (.ireturn, 1) := by decide +kernel
theorem dX5_count_101 : decode cX5_count 101 = .ok (.aload_n 0, 1) := by decide +kernel
theorem dX5_count_102 : decode cX5_count 102 = .ok (.getfield 12, 3) := by decide +kernel
theorem dX5_count_105 : decode cX5_count 105 = .ok (.aload_n 0, 1) := by decide +kernel
theorem dX5_count_106 : decode cX5_count 106 = .ok (.getfield 115, 3) := by decide +kernel
theorem dX5_count_109 : decode cX5_count 109 = .ok (.invokevirtual 188, 3) := by decide +kernel
theorem dX5_count_112 : decode cX5_count 112 = .ok (.ireturn, 1) := by decide +kernel
theorem dX5_count_113 : decode cX5_count 113 = .ok (.aload_n 0, 1) := by decide +kernel
theorem dX5_count_114 : decode cX5_count 114 = .ok (.getfield 12, 3) := by decide +kernel
theorem dX5_count_117 : decode cX5_count 117 = .ok (.aload_n 0, 1) := by decide +kernel
theorem dX5_count_118 : decode cX5_count 118 = .ok (.getfield 107, 3) := by decide +kernel
theorem dX5_count_121 : decode cX5_count 121 = .ok (.invokevirtual 188, 3) := by decide +kernel
theorem dX5_count_124 : decode cX5_count 124 = .ok (.ireturn, 1) := by decide +kernel
theorem dX5_count_125 : decode cX5_count 125 = .ok (.aload_n 0, 1) := by decide +kernel
theorem dX5_count_126 : decode cX5_count 126 = .ok (.invokevirtual 191, 3) := by decide +kernel
theorem dX5_count_129 : decode cX5_count 129 = .ok (.ireturn, 1) := by decide +kernel
theorem dX5_count_130 : decode cX5_count 130 = .ok (.aload_n 0, 1) := by decide +kernel
theorem dX5_count_131 : decode cX5_count 131 = .ok (.invokevirtual 144, 3) := by decide +kernel
theorem dX5_count_134 : decode cX5_count 134 = .ok (.aload_n 0, 1) := by decide +kernel
theorem dX5_count_135 : decode cX5_count 135 = .ok (.getfield 26, 3) := by decide +kernel
theorem dX5_count_138 : decode cX5_count 138 = .ok (.invokevirtual 194, 3) := by decide +kernel
theorem dX5_count_141 : decode cX5_count 141 = .ok (.ireturn, 1) := by decide +kernel
theorem dX5_count_142 : decode cX5_count 142 = .ok (.iconst (-1), 1) := by decide +kernel
theorem dX5_count_143 : decode cX5_count 143 = .ok (.ireturn, 1) := by decide +kernel
theorem dX5_isSide_0 : decode cX5_isSide 0 = .ok (.iload_n 0, 1) := by decide +kernel
theorem dX5_isSide_1 : decode cX5_isSide 1 = .ok (.iconst 1, 1) := by decide +kernel
theorem dX5_isSide_2 : decode cX5_isSide 2 = .ok (.if_icmp .lt 13, 3) := by decide +kernel
theorem dX5_isSide_5 : decode cX5_isSide 5 = .ok (.iload_n 0, 1) := by decide +kernel
theorem dX5_isSide_6 : decode cX5_isSide 6 = .ok (.bipush 6, 2) := by decide +kernel
theorem dX5_isSide_8 : decode cX5_isSide 8 = .ok (.if_icmp .gt 7, 3) := by decide +kernel
theorem dX5_isSide_11 : decode cX5_isSide 11 = .ok (.iconst 1, 1) := by decide +kernel
theorem dX5_isSide_12 : decode cX5_isSide 12 = .ok (.goto 4, 3) := by decide +kernel
theorem dX5_isSide_15 : decode cX5_isSide 15 = .ok (.iconst 0, 1) := by decide +kernel
theorem dX5_isSide_16 : decode cX5_isSide 16 = .ok (.ireturn, 1) := by decide +kernel
theorem dX5_isColour_0 : decode cX5_isColour 0 = .ok (.iload_n 0, 1) := by decide +kernel
theorem dX5_isColour_1 : decode cX5_isColour 1 = .ok (.iconst 1, 1) := by decide +kernel
theorem dX5_isColour_2 : decode cX5_isColour 2 = .ok (.if_icmp .eq 8, 3) := by decide +kernel
theorem dX5_isColour_5 : decode cX5_isColour 5 = .ok (.iload_n 0, 1) := by decide +kernel
theorem dX5_isColour_6 : decode cX5_isColour 6 = .ok (.iconst 2, 1) := by decide +kernel
theorem dX5_isColour_7 : decode cX5_isColour 7 = .ok (.if_icmp .ne 7, 3) := by decide +kernel
theorem dX5_isColour_10 : decode cX5_isColour 10 = .ok (.iconst 1, 1) := by decide +kernel
theorem dX5_isColour_11 : decode cX5_isColour 11 = .ok (.goto 4, 3) := by decide +kernel
theorem dX5_isColour_14 : decode cX5_isColour 14 = .ok (.iconst 0, 1) := by decide +kernel
theorem dX5_isColour_15 : decode cX5_isColour 15 = .ok (.ireturn, 1) := by decide +kernel
theorem dX5_other_0 : decode cX5_other 0 = .ok (.iload_n 0, 1) := by decide +kernel
theorem dX5_other_1 : decode cX5_other 1 = .ok (.iconst 1, 1) := by decide +kernel
theorem dX5_other_2 : decode cX5_other 2 = .ok (.if_icmp .ne 7, 3) := by decide +kernel
theorem dX5_other_5 : decode cX5_other 5 = .ok (.iconst 2, 1) := by decide +kernel
theorem dX5_other_6 : decode cX5_other 6 = .ok (.goto 4, 3) := by decide +kernel
theorem dX5_other_9 : decode cX5_other 9 = .ok (.iconst 1, 1) := by decide +kernel
theorem dX5_other_10 : decode cX5_other 10 = .ok (.ireturn, 1) := by decide +kernel
theorem dX5_bit_0 : decode cX5_bit 0 = .ok (.lconst 1, 1) := by decide +kernel
theorem dX5_bit_1 : decode cX5_bit 1 = .ok (.iload_n 0, 1) := by decide +kernel
theorem dX5_bit_2 : decode cX5_bit 2 = .ok (.lshl, 1) := by decide +kernel
theorem dX5_bit_3 : decode cX5_bit 3 = .ok (.lreturn, 1) := by decide +kernel
set_option maxRecDepth 20000 in
theorem ggX5_lowest_J13_bitCount_95d88 : GoodIn wsX5_lowest wsJ13_bitCount_95d88 := goodIn_r _ [4, 5, 6, 7] (by decide +kernel) (by decide +kernel)
set_option maxRecDepth 20000 in
theorem gX5_lowest_J13_bitCount_95d88 : GoodIn wsX5_lowest (va_wsS RX5 129 yJ13_bitCount_95d88 wsJ13_bitCount_95d88) := goodIn_app (goodIn_of _ (by decide +kernel)) ggX5_lowest_J13_bitCount_95d88
theorem dX5_lowest_0 : decode cX5_lowest 0 = .ok (.lload_n 0, 1) := by decide +kernel
theorem dX5_lowest_1 : decode cX5_lowest 1 = .ok (.lload_n 0, 1) := by decide +kernel
theorem dX5_lowest_2 : decode cX5_lowest 2 = .ok (.lneg, 1) := by decide +kernel
theorem dX5_lowest_3 : decode cX5_lowest 3 = .ok (.land, 1) := by decide +kernel
theorem dX5_lowest_4 : decode cX5_lowest 4 = .ok (.lconst 1, 1) := by decide +kernel
theorem dX5_lowest_5 : decode cX5_lowest 5 = .ok (.lsub, 1) := by decide +kernel
theorem dX5_lowest_6 : decode cX5_lowest 6 = .ok (.invokestatic 129, 3) := by decide +kernel
theorem dX5_lowest_9 : decode cX5_lowest 9 = .ok (.ireturn, 1) := by decide +kernel
set_option maxRecDepth 20000 in
theorem ggX5_makeEmpty_X2_shape : GoodIn wsX5_makeEmpty wsX2_shape := goodIn_r _ [11, 12, 13, 14, 15, 16, 17, 18, 19, 20, 21, 38, 39, 40, 41, 42, 43, 44] (by decide +kernel) (by decide +kernel)
set_option maxRecDepth 20000 in
theorem gX5_makeEmpty_X2_shape : GoodIn wsX5_makeEmpty (wsV RX5 118 RX2 yX2_shape wsX2_shape) := goodIn_app (goodIn_of _ (by decide +kernel)) ggX5_makeEmpty_X2_shape
set_option maxRecDepth 20000 in
theorem ggX5_makeEmpty_X0_forget : GoodIn wsX5_makeEmpty wsX0_forget := goodIn_r _ [26, 27, 28, 45, 46, 47] (by decide +kernel) (by decide +kernel)
set_option maxRecDepth 20000 in
theorem gX5_makeEmpty_X0_forget : GoodIn wsX5_makeEmpty (wsV RX5 65 RX0 yX0_forget wsX0_forget) := goodIn_app (goodIn_of _ (by decide +kernel)) ggX5_makeEmpty_X0_forget
theorem dX5_makeEmpty_0 : decode cX5_makeEmpty 0 = .ok (.aload_n 0, 1) := by decide +kernel
theorem dX5_makeEmpty_1 : decode cX5_makeEmpty 1 = .ok (.getfield 12, 3) := by decide +kernel
theorem dX5_makeEmpty_4 : decode cX5_makeEmpty 4 = .ok (.iload_n 1, 1) := by decide +kernel
theorem dX5_makeEmpty_5 : decode cX5_makeEmpty 5 = .ok (.iload_n 2, 1) := by decide +kernel
theorem dX5_makeEmpty_6 : decode cX5_makeEmpty 6 = .ok (.invokevirtual 118, 3) := by decide +kernel
theorem dX5_makeEmpty_9 : decode cX5_makeEmpty 9 = .ok (.aload_n 0, 1) := by decide +kernel
theorem dX5_makeEmpty_10 : decode cX5_makeEmpty 10 = .ok (.lconst 0, 1) := by decide +kernel
theorem dX5_makeEmpty_11 : decode cX5_makeEmpty 11 = .ok (.putfield 115, 3) := by decide +kernel
theorem dX5_makeEmpty_14 : decode cX5_makeEmpty 14 = .ok (.aload_n 0, 1) := by decide +kernel
theorem dX5_makeEmpty_15 : decode cX5_makeEmpty 15 = .ok (.lconst 0, 1) := by decide +kernel
theorem dX5_makeEmpty_16 : decode cX5_makeEmpty 16 = .ok (.putfield 107, 3) := by decide +kernel
theorem dX5_makeEmpty_19 : decode cX5_makeEmpty 19 = .ok (.aload_n 0, 1) := by decide +kernel
theorem dX5_makeEmpty_20 : decode cX5_makeEmpty 20 = .ok (.iconst 1, 1) := by decide +kernel
theorem dX5_makeEmpty_21 : decode cX5_makeEmpty 21 = .ok (.putfield 57, 3) := by decide +kernel
theorem dX5_makeEmpty_24 : decode cX5_makeEmpty 24 = .ok (.aload_n 0, 1) := by decide +kernel
theorem dX5_makeEmpty_25 : decode cX5_makeEmpty 25 = .ok (.iconst 1, 1) := by decide +kernel
theorem dX5_makeEmpty_26 : decode cX5_makeEmpty 26 = .ok (.putfield 61, 3) := by decide +kernel
theorem dX5_makeEmpty_29 : decode cX5_makeEmpty 29 = .ok (.aload_n 0, 1) := by decide +kernel
theorem dX5_makeEmpty_30 : decode cX5_makeEmpty 30 = .ok (.getfield 19, 3) := by decide +kernel
theorem dX5_makeEmpty_33 : decode cX5_makeEmpty 33 = .ok (.invokevirtual 65, 3) := by decide +kernel
theorem dX5_makeEmpty_36 : decode cX5_makeEmpty 36 = .ok (.return_, 1) := by decide +kernel
set_option maxRecDepth 20000 in
theorem ggX5_stoneAt_X5_bit : GoodIn wsX5_stoneAt wsX5_bit := goodIn_r _ [6] (by decide +kernel) (by decide +kernel)
set_option maxRecDepth 20000 in
theorem gX5_stoneAt_X5_bit : GoodIn wsX5_stoneAt (va_wsS RX5 171 yX5_bit wsX5_bit) := goodIn_app (goodIn_of _ (by decide +kernel)) ggX5_stoneAt_X5_bit
theorem dX5_stoneAt_0 : decode cX5_stoneAt 0 = .ok (.aload_n 0, 1) := by decide +kernel
theorem dX5_stoneAt_1 : decode cX5_stoneAt 1 = .ok (.getfield 115, 3) := by decide +kernel
theorem dX5_stoneAt_4 : decode cX5_stoneAt 4 = .ok (.iload_n 1, 1) := by decide +kernel
theorem dX5_stoneAt_5 : decode cX5_stoneAt 5 = .ok (.invokestatic 171, 3) := by decide +kernel
theorem dX5_stoneAt_8 : decode cX5_stoneAt 8 = .ok (.land, 1) := by decide +kernel
theorem dX5_stoneAt_9 : decode cX5_stoneAt 9 = .ok (.lconst 0, 1) := by decide +kernel
theorem dX5_stoneAt_10 : decode cX5_stoneAt 10 = .ok (.lcmp, 1) := by decide +kernel
theorem dX5_stoneAt_11 : decode cX5_stoneAt 11 = .ok (.ifCond .eq 5, 3) := by decide +kernel
theorem dX5_stoneAt_14 : decode cX5_stoneAt 14 = .ok (.iconst 1, 1) := by decide +kernel
theorem dX5_stoneAt_15 : decode cX5_stoneAt 15 = .ok (.ireturn, 1) := by decide +kernel
theorem dX5_stoneAt_16 : decode cX5_stoneAt 16 = .ok (.aload_n 0, 1) := by decide +kernel
theorem dX5_stoneAt_17 : decode cX5_stoneAt 17 = .ok (.getfield 107, 3) := by decide +kernel
theorem dX5_stoneAt_20 : decode cX5_stoneAt 20 = .ok (.iload_n 1, 1) := by decide +kernel
theorem dX5_stoneAt_21 : decode cX5_stoneAt 21 = .ok (.invokestatic 171, 3) := by decide +kernel
theorem dX5_stoneAt_24 : decode cX5_stoneAt 24 = .ok (.land, 1) := by decide +kernel
theorem dX5_stoneAt_25 : decode cX5_stoneAt 25 = .ok (.lconst 0, 1) := by decide +kernel
theorem dX5_stoneAt_26 : decode cX5_stoneAt 26 = .ok (.lcmp, 1) := by decide +kernel
theorem dX5_stoneAt_27 : decode cX5_stoneAt 27 = .ok (.ifCond .eq 7, 3) := by decide +kernel
theorem dX5_stoneAt_30 : decode cX5_stoneAt 30 = .ok (.iconst 2, 1) := by decide +kernel
theorem dX5_stoneAt_31 : decode cX5_stoneAt 31 = .ok (.goto 4, 3) := by decide +kernel
theorem dX5_stoneAt_34 : decode cX5_stoneAt 34 = .ok (.iconst 0, 1) := by decide +kernel
theorem dX5_stoneAt_35 : decode cX5_stoneAt 35 = .ok (.ireturn, 1) := by decide +kernel
set_option maxRecDepth 20000 in
theorem ggX5_put_X5_bit : GoodIn wsX5_put wsX5_bit := goodIn_r _ [7] (by decide +kernel) (by decide +kernel)
set_option maxRecDepth 20000 in
theorem gX5_put_X5_bit : GoodIn wsX5_put (va_wsS RX5 171 yX5_bit wsX5_bit) := goodIn_app (goodIn_of _ (by decide +kernel)) ggX5_put_X5_bit
theorem dX5_put_0 : decode cX5_put 0 = .ok (.aload_n 0, 1) := by decide +kernel
theorem dX5_put_1 : decode cX5_put 1 = .ok (.dup, 1) := by decide +kernel
theorem dX5_put_2 : decode cX5_put 2 = .ok (.getfield 115, 3) := by decide +kernel
theorem dX5_put_5 : decode cX5_put 5 = .ok (.iload_n 1, 1) := by decide +kernel
theorem dX5_put_6 : decode cX5_put 6 = .ok (.invokestatic 171, 3) := by decide +kernel
theorem dX5_put_9 : decode cX5_put 9 = .ok (.ldc2_w 197, 3) := by decide +kernel
theorem dX5_put_12 : decode cX5_put 12 = .ok (.lxor, 1) := by decide +kernel
theorem dX5_put_13 : decode cX5_put 13 = .ok (.land, 1) := by decide +kernel
theorem dX5_put_14 : decode cX5_put 14 = .ok (.putfield 115, 3) := by decide +kernel
theorem dX5_put_17 : decode cX5_put 17 = .ok (.aload_n 0, 1) := by decide +kernel
theorem dX5_put_18 : decode cX5_put 18 = .ok (.dup, 1) := by decide +kernel
theorem dX5_put_19 : decode cX5_put 19 = .ok (.getfield 107, 3) := by decide +kernel
theorem dX5_put_22 : decode cX5_put 22 = .ok (.iload_n 1, 1) := by decide +kernel
theorem dX5_put_23 : decode cX5_put 23 = .ok (.invokestatic 171, 3) := by decide +kernel
theorem dX5_put_26 : decode cX5_put 26 = .ok (.ldc2_w 197, 3) := by decide +kernel
theorem dX5_put_29 : decode cX5_put 29 = .ok (.lxor, 1) := by decide +kernel
theorem dX5_put_30 : decode cX5_put 30 = .ok (.land, 1) := by decide +kernel
theorem dX5_put_31 : decode cX5_put 31 = .ok (.putfield 107, 3) := by decide +kernel
theorem dX5_put_34 : decode cX5_put 34 = .ok (.iload_n 2, 1) := by decide +kernel
theorem dX5_put_35 : decode cX5_put 35 = .ok (.iconst 1, 1) := by decide +kernel
theorem dX5_put_36 : decode cX5_put 36 = .ok (.if_icmp .ne 19, 3) := by decide +kernel
theorem dX5_put_39 : decode cX5_put 39 = .ok (.aload_n 0, 1) := by decide +kernel
theorem dX5_put_40 : decode cX5_put 40 = .ok (.dup, 1) := by decide +kernel
theorem dX5_put_41 : decode cX5_put 41 = .ok (.getfield 115, 3) := by decide +kernel
theorem dX5_put_44 : decode cX5_put 44 = .ok (.iload_n 1, 1) := by decide +kernel
theorem dX5_put_45 : decode cX5_put 45 = .ok (.invokestatic 171, 3) := by decide +kernel
theorem dX5_put_48 : decode cX5_put 48 = .ok (.lor, 1) := by decide +kernel
theorem dX5_put_49 : decode cX5_put 49 = .ok (.putfield 115, 3) := by decide +kernel
theorem dX5_put_52 : decode cX5_put 52 = .ok (.goto 21, 3) := by decide +kernel
theorem dX5_put_55 : decode cX5_put 55 = .ok (.iload_n 2, 1) := by decide +kernel
theorem dX5_put_56 : decode cX5_put 56 = .ok (.iconst 2, 1) := by decide +kernel
theorem dX5_put_57 : decode cX5_put 57 = .ok (.if_icmp .ne 16, 3) := by decide +kernel
theorem dX5_put_60 : decode cX5_put 60 = .ok (.aload_n 0, 1) := by decide +kernel
theorem dX5_put_61 : decode cX5_put 61 = .ok (.dup, 1) := by decide +kernel
theorem dX5_put_62 : decode cX5_put 62 = .ok (.getfield 107, 3) := by decide +kernel
theorem dX5_put_65 : decode cX5_put 65 = .ok (.iload_n 1, 1) := by decide +kernel
theorem dX5_put_66 : decode cX5_put 66 = .ok (.invokestatic 171, 3) := by decide +kernel
theorem dX5_put_69 : decode cX5_put 69 = .ok (.lor, 1) := by decide +kernel
theorem dX5_put_70 : decode cX5_put 70 = .ok (.putfield 107, 3) := by decide +kernel
theorem dX5_put_73 : decode cX5_put 73 = .ok (.return_, 1) := by decide +kernel
theorem dX5_stonesOf_0 : decode cX5_stonesOf 0 = .ok (.iload_n 1, 1) := by decide +kernel
theorem dX5_stonesOf_1 : decode cX5_stonesOf 1 = .ok (.iconst 1, 1) := by decide +kernel
theorem dX5_stonesOf_2 : decode cX5_stonesOf 2 = .ok (.if_icmp .ne 10, 3) := by decide +kernel
theorem dX5_stonesOf_5 : decode cX5_stonesOf 5 = .ok (.aload_n 0, 1) := by decide +kernel
theorem dX5_stonesOf_6 : decode cX5_stonesOf 6 = .ok (.getfield 115, 3) := by decide +kernel
theorem dX5_stonesOf_9 : decode cX5_stonesOf 9 = .ok (.goto 7, 3) := by decide +kernel
theorem dX5_stonesOf_12 : decode cX5_stonesOf 12 = .ok (.aload_n 0, 1) := by decide +kernel
theorem dX5_stonesOf_13 : decode cX5_stonesOf 13 = .ok (.getfield 107, 3) := by decide +kernel
theorem dX5_stonesOf_16 : decode cX5_stonesOf 16 = .ok (.lreturn, 1) := by decide +kernel
set_option maxRecDepth 20000 in
theorem ggX5_empties_X2_all : GoodIn wsX5_empties wsX2_all := goodIn_r _ [9, 10, 20, 21, 22, 23, 24, 25, 26] (by decide +kernel) (by decide +kernel)
set_option maxRecDepth 20000 in
theorem gX5_empties_X2_all : GoodIn wsX5_empties (wsV RX5 199 RX2 yX2_all wsX2_all) := goodIn_app (goodIn_of _ (by decide +kernel)) ggX5_empties_X2_all
theorem dX5_empties_0 : decode cX5_empties 0 = .ok (.aload_n 0, 1) := by decide +kernel
theorem dX5_empties_1 : decode cX5_empties 1 = .ok (.getfield 12, 3) := by decide +kernel
theorem dX5_empties_4 : decode cX5_empties 4 = .ok (.invokevirtual 199, 3) := by decide +kernel
theorem dX5_empties_7 : decode cX5_empties 7 = .ok (.aload_n 0, 1) := by decide +kernel
theorem dX5_empties_8 : decode cX5_empties 8 = .ok (.getfield 115, 3) := by decide +kernel
theorem dX5_empties_11 : decode cX5_empties 11 = .ok (.aload_n 0, 1) := by decide +kernel
theorem dX5_empties_12 : decode cX5_empties 12 = .ok (.getfield 107, 3) := by decide +kernel
theorem dX5_empties_15 : decode cX5_empties 15 = .ok (.lor, 1) := by decide +kernel
theorem dX5_empties_16 : decode cX5_empties 16 = .ok (.ldc2_w 197, 3) := by decide +kernel
theorem dX5_empties_19 : decode cX5_empties 19 = .ok (.lxor, 1) := by decide +kernel
theorem dX5_empties_20 : decode cX5_empties 20 = .ok (.land, 1) := by decide +kernel
theorem dX5_empties_21 : decode cX5_empties 21 = .ok (.lreturn, 1) := by decide +kernel
set_option maxRecDepth 20000 in
theorem ggX5_tooManyEmpty_X5_empties : GoodIn wsX5_tooManyEmpty wsX5_empties := goodIn_r _ [5, 6, 7, 8, 9, 10, 11, 12, 13, 14, 15, 23, 24, 25, 26, 27, 28, 29, 30, 31, 32, 33, 34, 35, 36, 37, 38] (by decide +kernel) (by decide +kernel)
set_option maxRecDepth 20000 in
theorem gX5_tooManyEmpty_X5_empties : GoodIn wsX5_tooManyEmpty (wsV RX5 140 RX5 yX5_empties wsX5_empties) := goodIn_app (goodIn_of _ (by decide +kernel)) ggX5_tooManyEmpty_X5_empties
set_option maxRecDepth 20000 in
theorem ggX5_tooManyEmpty_J13_bitCount_95d88 : GoodIn wsX5_tooManyEmpty wsJ13_bitCount_95d88 := goodIn_r _ [19, 20, 21, 22] (by decide +kernel) (by decide +kernel)
set_option maxRecDepth 20000 in
theorem gX5_tooManyEmpty_J13_bitCount_95d88 : GoodIn wsX5_tooManyEmpty (va_wsS RX5 129 yJ13_bitCount_95d88 wsJ13_bitCount_95d88) := goodIn_app (goodIn_of _ (by decide +kernel)) ggX5_tooManyEmpty_J13_bitCount_95d88
theorem dX5_tooManyEmpty_0 : decode cX5_tooManyEmpty 0 = .ok (.aload_n 0, 1) := by decide +kernel
theorem dX5_tooManyEmpty_1 : decode cX5_tooManyEmpty 1 = .ok (.invokevirtual 140, 3) := by decide +kernel
theorem dX5_tooManyEmpty_4 : decode cX5_tooManyEmpty 4 = .ok (.invokestatic 129, 3) := by decide +kernel
theorem dX5_tooManyEmpty_7 : decode cX5_tooManyEmpty 7 = .ok (.bipush 10, 2) := by decide +kernel
theorem dX5_tooManyEmpty_9 : decode cX5_tooManyEmpty 9 = .ok (.if_icmp .le 7, 3) := by decide +kernel
theorem dX5_tooManyEmpty_12 : decode cX5_tooManyEmpty 12 = .ok (.iconst 1, 1) := by decide +kernel
theorem dX5_tooManyEmpty_13 : decode cX5_tooManyEmpty 13 = .ok (.goto 4, 3) := by decide +kernel
theorem dX5_tooManyEmpty_16 : decode cX5_tooManyEmpty 16 = .ok (.iconst 0, 1) := by decide +kernel
theorem dX5_tooManyEmpty_17 : decode cX5_tooManyEmpty 17 = .ok (.ireturn, 1) := by decide +kernel
set_option maxRecDepth 20000 in
theorem ggX5_layStone_X5_put : GoodIn wsX5_layStone wsX5_put := goodIn_r _ [6, 7, 8, 9, 10, 11, 5, 12, 16, 17, 18, 19, 20, 21, 22, 23, 24] (by decide +kernel) (by decide +kernel)
set_option maxRecDepth 20000 in
theorem gX5_layStone_X5_put : GoodIn wsX5_layStone (wsV RX5 54 RX5 yX5_put wsX5_put) := goodIn_app (goodIn_of _ (by decide +kernel)) ggX5_layStone_X5_put
set_option maxRecDepth 20000 in
theorem ggX5_layStone_X5_other : GoodIn wsX5_layStone wsX5_other := goodIn_r _ [15] (by decide +kernel) (by decide +kernel)
set_option maxRecDepth 20000 in
theorem gX5_layStone_X5_other : GoodIn wsX5_layStone (va_wsS RX5 101 yX5_other wsX5_other) := goodIn_app (goodIn_of _ (by decide +kernel)) ggX5_layStone_X5_other
theorem dX5_layStone_0 : decode cX5_layStone 0 = .ok (.aload_n 0, 1) := by decide +kernel
theorem dX5_layStone_1 : decode cX5_layStone 1 = .ok (.iload_n 1, 1) := by decide +kernel
theorem dX5_layStone_2 : decode cX5_layStone 2 = .ok (.aload_n 0, 1) := by decide +kernel
theorem dX5_layStone_3 : decode cX5_layStone 3 = .ok (.getfield 57, 3) := by decide +kernel
theorem dX5_layStone_6 : decode cX5_layStone 6 = .ok (.invokevirtual 54, 3) := by decide +kernel
theorem dX5_layStone_9 : decode cX5_layStone 9 = .ok (.aload_n 0, 1) := by decide +kernel
theorem dX5_layStone_10 : decode cX5_layStone 10 = .ok (.aload_n 0, 1) := by decide +kernel
theorem dX5_layStone_11 : decode cX5_layStone 11 = .ok (.getfield 57, 3) := by decide +kernel
theorem dX5_layStone_14 : decode cX5_layStone 14 = .ok (.invokestatic 101, 3) := by decide +kernel
theorem dX5_layStone_17 : decode cX5_layStone 17 = .ok (.putfield 57, 3) := by decide +kernel
theorem dX5_layStone_20 : decode cX5_layStone 20 = .ok (.return_, 1) := by decide +kernel
set_option maxRecDepth 20000 in
theorem ggX5_takeOver_X2_turned : GoodIn wsX5_takeOver wsX2_turned := goodIn_r _ [9, 10, 11, 12, 13, 14, 24, 25, 26, 27, 28, 29, 30] (by decide +kernel) (by decide +kernel)
set_option maxRecDepth 20000 in
theorem gX5_takeOver_X2_turned : GoodIn wsX5_takeOver (wsV RX5 111 RX2 yX2_turned wsX2_turned) := goodIn_app (goodIn_of _ (by decide +kernel)) ggX5_takeOver_X2_turned
theorem dX5_takeOver_0 : decode cX5_takeOver 0 = .ok (.aload_n 0, 1) := by decide +kernel
