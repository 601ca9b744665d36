theorem dX6_dead_36 : decode cX6_dead 36 = .ok (.iload_n 2, 1) := by decide +kernel
theorem dX6_dead_37 : decode cX6_dead 37 = .ok (.iaload, 1) := by decide +kernel
theorem dX6_dead_38 : decode cX6_dead 38 = .ok (.iload_n 1, 1) := by decide +kernel
theorem dX6_dead_39 : decode cX6_dead 39 = .ok (.if_icmp .eq 9, 3) := by decide +kernel
theorem dX6_dead_42 : decode cX6_dead 42 = .ok (.iinc 2 1, 3) := by decide +kernel
theorem dX6_dead_45 : decode cX6_dead 45 = .ok (.goto (-13), 3) := by decide +kernel
theorem dX6_dead_48 : decode cX6_dead 48 = .ok (.aload_n 0, 1) := by decide +kernel
theorem dX6_dead_49 : decode cX6_dead 49 = .ok (.iload_n 2, 1) := by decide +kernel
theorem dX6_dead_50 : decode cX6_dead 50 = .ok (.invokevirtual 157, 3) := by decide +kernel
theorem dX6_dead_53 : decode cX6_dead 53 = .ok (.ifCond .eq 7, 3) := by decide +kernel
theorem dX6_dead_56 : decode cX6_dead 56 = .ok (.iconst 1, 1) := by decide +kernel
theorem dX6_dead_57 : decode cX6_dead 57 = .ok (.goto 4, 3) := by decide +kernel
theorem dX6_dead_60 : decode cX6_dead 60 = .ok (.iconst 0, 1) := by decide +kernel
theorem dX6_dead_61 : decode cX6_dead 61 = .ok (.ireturn, 1) := by decide +kernel
set_option maxRecDepth 20000 in
theorem ggX6_mayLink_X6_lies : GoodIn wsX6_mayLink wsX6_lies := goodIn_r _ [5] (by decide +kernel) (by decide +kernel)
set_option maxRecDepth 20000 in
theorem gX6_mayLink_X6_lies : GoodIn wsX6_mayLink (va_wsS RX6 60 yX6_lies wsX6_lies) := goodIn_app (goodIn_of _ (by decide +kernel)) ggX6_mayLink_X6_lies
set_option maxRecDepth 20000 in
theorem ggX6_mayLink_X6_isField : GoodIn wsX6_mayLink wsX6_isField := goodIn_r _ [9, 10, 11, 12, 4, 13, 14, 15, 2, 3, 5, 23, 24, 25, 26, 27, 28, 29, 30, 31, 32, 33, 34, 35, 36, 37, 38, 39] (by decide +kernel) (by decide +kernel)
set_option maxRecDepth 20000 in
theorem gX6_mayLink_X6_isField : GoodIn wsX6_mayLink (wsV RX6 73 RX6 yX6_isField wsX6_isField) := goodIn_app (goodIn_of _ (by decide +kernel)) ggX6_mayLink_X6_isField
set_option maxRecDepth 20000 in
theorem ggX6_mayLink_X6_opens : GoodIn wsX6_mayLink wsX6_opens := goodIn_r _ [19, 20, 1, 21, 22, 10, 11, 12, 4, 13, 14, 15, 23, 24, 25, 26, 27, 28, 29, 30, 31, 32, 33, 34, 35, 36, 37, 38, 39] (by decide +kernel) (by decide +kernel)
set_option maxRecDepth 20000 in
theorem gX6_mayLink_X6_opens : GoodIn wsX6_mayLink (wsV RX6 139 RX6 yX6_opens wsX6_opens) := goodIn_app (goodIn_of _ (by decide +kernel)) ggX6_mayLink_X6_opens
theorem dX6_mayLink_0 : decode cX6_mayLink 0 = .ok (.iload_n 1, 1) := by decide +kernel
theorem dX6_mayLink_1 : decode cX6_mayLink 1 = .ok (.iconst 1, 1) := by decide +kernel
theorem dX6_mayLink_2 : decode cX6_mayLink 2 = .ok (.iconst 2, 1) := by decide +kernel
theorem dX6_mayLink_3 : decode cX6_mayLink 3 = .ok (.invokestatic 60, 3) := by decide +kernel
theorem dX6_mayLink_6 : decode cX6_mayLink 6 = .ok (.ifCond .eq 59, 3) := by decide +kernel
theorem dX6_mayLink_9 : decode cX6_mayLink 9 = .ok (.aload_n 0, 1) := by decide +kernel
theorem dX6_mayLink_10 : decode cX6_mayLink 10 = .ok (.iload_n 2, 1) := by decide +kernel
theorem dX6_mayLink_11 : decode cX6_mayLink 11 = .ok (.invokevirtual 73, 3) := by decide +kernel
theorem dX6_mayLink_14 : decode cX6_mayLink 14 = .ok (.ifCond .eq 51, 3) := by decide +kernel
theorem dX6_mayLink_17 : decode cX6_mayLink 17 = .ok (.aload_n 0, 1) := by decide +kernel
theorem dX6_mayLink_18 : decode cX6_mayLink 18 = .ok (.iload_n 3, 1) := by decide +kernel
theorem dX6_mayLink_19 : decode cX6_mayLink 19 = .ok (.invokevirtual 73, 3) := by decide +kernel
theorem dX6_mayLink_22 : decode cX6_mayLink 22 = .ok (.ifCond .eq 43, 3) := by decide +kernel
theorem dX6_mayLink_25 : decode cX6_mayLink 25 = .ok (.iload_n 2, 1) := by decide +kernel
theorem dX6_mayLink_26 : decode cX6_mayLink 26 = .ok (.iload_n 3, 1) := by decide +kernel
theorem dX6_mayLink_27 : decode cX6_mayLink 27 = .ok (.if_icmp .eq 38, 3) := by decide +kernel
theorem dX6_mayLink_30 : decode cX6_mayLink 30 = .ok (.aload_n 0, 1) := by decide +kernel
theorem dX6_mayLink_31 : decode cX6_mayLink 31 = .ok (.getfield 19, 3) := by decide +kernel
theorem dX6_mayLink_34 : decode cX6_mayLink 34 = .ok (.iload_n 2, 1) := by decide +kernel
theorem dX6_mayLink_35 : decode cX6_mayLink 35 = .ok (.iaload, 1) := by decide +kernel
theorem dX6_mayLink_36 : decode cX6_mayLink 36 = .ok (.iconst 3, 1) := by decide +kernel
theorem dX6_mayLink_37 : decode cX6_mayLink 37 = .ok (.iload_n 1, 1) := by decide +kernel
theorem dX6_mayLink_38 : decode cX6_mayLink 38 = .ok (.isub, 1) := by decide +kernel
theorem dX6_mayLink_39 : decode cX6_mayLink 39 = .ok (.if_icmp .eq 26, 3) := by decide +kernel
theorem dX6_mayLink_42 : decode cX6_mayLink 42 = .ok (.aload_n 0, 1) := by decide +kernel
theorem dX6_mayLink_43 : decode cX6_mayLink 43 = .ok (.getfield 19, 3) := by decide +kernel
theorem dX6_mayLink_46 : decode cX6_mayLink 46 = .ok (.iload_n 3, 1) := by decide +kernel
theorem dX6_mayLink_47 : decode cX6_mayLink 47 = .ok (.iaload, 1) := by decide +kernel
theorem dX6_mayLink_48 : decode cX6_mayLink 48 = .ok (.iconst 3, 1) := by decide +kernel
theorem dX6_mayLink_49 : decode cX6_mayLink 49 = .ok (.iload_n 1, 1) := by decide +kernel
theorem dX6_mayLink_50 : decode cX6_mayLink 50 = .ok (.isub, 1) := by decide +kernel
theorem dX6_mayLink_51 : decode cX6_mayLink 51 = .ok (.if_icmp .eq 14, 3) := by decide +kernel
theorem dX6_mayLink_54 : decode cX6_mayLink 54 = .ok (.aload_n 0, 1) := by decide +kernel
theorem dX6_mayLink_55 : decode cX6_mayLink 55 = .ok (.invokevirtual 139, 3) := by decide +kernel
theorem dX6_mayLink_58 : decode cX6_mayLink 58 = .ok (.ifCond .eq 7, 3) := by decide +kernel
theorem dX6_mayLink_61 : decode cX6_mayLink 61 = .ok (.iconst 1, 1) := by decide +kernel
theorem dX6_mayLink_62 : decode cX6_mayLink 62 = .ok (.goto 4, 3) := by decide +kernel
theorem dX6_mayLink_65 : decode cX6_mayLink 65 = .ok (.iconst 0, 1) := by decide +kernel
theorem dX6_mayLink_66 : decode cX6_mayLink 66 = .ok (.ireturn, 1) := by decide +kernel
set_option maxRecDepth 20000 in
theorem ggX6_link_X6_mayLink : GoodIn wsX6_link wsX6_mayLink := goodIn_r _ [5, 6, 7, 8, 4, 9, 10, 11, 12, 13, 14, 15, 16, 17, 18, 19, 20, 21, 22, 23, 24, 25, 26, 76, 77, 78, 79, 80, 81, 82, 83, 84, 85, 86, 87, 88, 89, 90, 91, 92] (by decide +kernel) (by decide +kernel)
set_option maxRecDepth 20000 in
theorem gX6_link_X6_mayLink : GoodIn wsX6_link (wsV RX6 160 RX6 yX6_mayLink wsX6_mayLink) := goodIn_app (goodIn_of _ (by decide +kernel)) ggX6_link_X6_mayLink
set_option maxRecDepth 20000 in
theorem ggX6_link_X6_works : GoodIn wsX6_link wsX6_works := goodIn_r _ [30, 26, 24, 31, 32, 33, 34, 35, 4, 36, 6, 25, 37, 38, 39, 40, 41, 14, 15, 16, 17, 18, 19, 42, 43, 44, 45, 46, 47, 48, 49, 50, 51, 52, 53, 54, 55, 56, 7, 8, 9, 57, 58, 59, 60, 61, 62, 63, 64, 65, 66, 67, 68, 69, 70, 71, 76, 77, 78, 79, 80, 81, 82, 83, 84, 85, 86, 87, 88, 89, 90, 91, 92] (by decide +kernel) (by decide +kernel)
set_option maxRecDepth 20000 in
theorem gX6_link_X6_works : GoodIn wsX6_link (wsV RX6 143 RX6 yX6_works wsX6_works) := goodIn_app (goodIn_of _ (by decide +kernel)) ggX6_link_X6_works
set_option maxRecDepth 20000 in
theorem ggX6_link_X6_gets : GoodIn wsX6_link wsX6_gets := goodIn_r _ [75, 31, 32, 76, 77, 78, 79, 80, 81, 82, 83, 84, 85, 86, 87, 88, 89, 90, 91, 92] (by decide +kernel) (by decide +kernel)
set_option maxRecDepth 20000 in
theorem gX6_link_X6_gets : GoodIn wsX6_link (wsV RX6 147 RX6 yX6_gets wsX6_gets) := goodIn_app (goodIn_of _ (by decide +kernel)) ggX6_link_X6_gets
theorem dX6_link_0 : decode cX6_link 0 = .ok (.aload_n 0, 1) := by decide +kernel
theorem dX6_link_1 : decode cX6_link 1 = .ok (.iload_n 1, 1) := by decide +kernel
theorem dX6_link_2 : decode cX6_link 2 = .ok (.iload_n 2, 1) := by decide +kernel
theorem dX6_link_3 : decode cX6_link 3 = .ok (.iload_n 3, 1) := by decide +kernel
theorem dX6_link_4 : decode cX6_link 4 = .ok (.invokevirtual 160, 3) := by decide +kernel
theorem dX6_link_7 : decode cX6_link 7 = .ok (.ifCond .ne 5, 3) := by decide +kernel
theorem dX6_link_10 : decode cX6_link 10 = .ok (.iconst (-1), 1) := by decide +kernel
theorem dX6_link_11 : decode cX6_link 11 = .ok (.ireturn, 1) := by decide +kernel
theorem dX6_link_12 : decode cX6_link 12 = .ok (.aload_n 0, 1) := by decide +kernel
theorem dX6_link_13 : decode cX6_link 13 = .ok (.iload_n 1, 1) := by decide +kernel
theorem dX6_link_14 : decode cX6_link 14 = .ok (.iload_n 2, 1) := by decide +kernel
theorem dX6_link_15 : decode cX6_link 15 = .ok (.iload_n 3, 1) := by decide +kernel
theorem dX6_link_16 : decode cX6_link 16 = .ok (.invokevirtual 143, 3) := by decide +kernel
theorem dX6_link_19 : decode cX6_link 19 = .ok (.aload_n 0, 1) := by decide +kernel
theorem dX6_link_20 : decode cX6_link 20 = .ok (.iconst 0, 1) := by decide +kernel
theorem dX6_link_21 : decode cX6_link 21 = .ok (.iconst 3, 1) := by decide +kernel
theorem dX6_link_22 : decode cX6_link 22 = .ok (.iload_n 1, 1) := by decide +kernel
theorem dX6_link_23 : decode cX6_link 23 = .ok (.isub, 1) := by decide +kernel
theorem dX6_link_24 : decode cX6_link 24 = .ok (.invokevirtual 147, 3) := by decide +kernel
theorem dX6_link_27 : decode cX6_link 27 = .ok (.ifCond .eq 7, 3) := by decide +kernel
theorem dX6_link_30 : decode cX6_link 30 = .ok (.iconst 2, 1) := by decide +kernel
theorem dX6_link_31 : decode cX6_link 31 = .ok (.goto 17, 3) := by decide +kernel
theorem dX6_link_34 : decode cX6_link 34 = .ok (.aload_n 0, 1) := by decide +kernel
theorem dX6_link_35 : decode cX6_link 35 = .ok (.iconst 0, 1) := by decide +kernel
theorem dX6_link_36 : decode cX6_link 36 = .ok (.iload_n 1, 1) := by decide +kernel
theorem dX6_link_37 : decode cX6_link 37 = .ok (.invokevirtual 147, 3) := by decide +kernel
theorem dX6_link_40 : decode cX6_link 40 = .ok (.ifCond .eq 7, 3) := by decide +kernel
theorem dX6_link_43 : decode cX6_link 43 = .ok (.iconst 1, 1) := by decide +kernel
theorem dX6_link_44 : decode cX6_link 44 = .ok (.goto 4, 3) := by decide +kernel
theorem dX6_link_47 : decode cX6_link 47 = .ok (.iconst 0, 1) := by decide +kernel
theorem dX6_link_48 : decode cX6_link 48 = .ok (.ireturn, 1) := by decide +kernel
set_option maxRecDepth 20000 in
theorem ggX6_half_X6_link : GoodIn wsX6_half wsX6_link := goodIn_r _ [8, 9, 10, 11, 7, 12, 13, 14, 15, 16, 17, 18, 19, 20, 21, 22, 23, 24, 25, 26, 27, 28, 29, 30, 1, 3, 2, 31, 32, 33, 34, 35, 36, 37, 38, 39, 40, 41, 42, 43, 44, 45, 46, 47, 48, 49, 50, 51, 52, 53, 54, 55, 56, 57, 58, 59, 60, 61, 62, 63, 64, 65, 66, 67, 68, 69, 70, 71, 72, 73, 74, 75, 76, 77, 78, 79, 80, 81, 82, 83, 84, 85, 86, 87, 88, 89, 90, 91, 92, 93, 94, 95, 96] (by decide +kernel) (by decide +kernel)
set_option maxRecDepth 20000 in
theorem gX6_half_X6_link : GoodIn wsX6_half (wsV RX6 163 RX6 yX6_link wsX6_link) := goodIn_app (goodIn_of _ (by decide +kernel)) ggX6_half_X6_link
set_option maxRecDepth 20000 in
theorem ggX6_half_X6_gets : GoodIn wsX6_half wsX6_gets := goodIn_r _ [79, 35, 36, 80, 81, 82, 83, 84, 85, 86, 87, 88, 89, 90, 91, 92, 93, 94, 95, 96] (by decide +kernel) (by decide +kernel)
set_option maxRecDepth 20000 in
theorem gX6_half_X6_gets : GoodIn wsX6_half (wsV RX6 147 RX6 yX6_gets wsX6_gets) := goodIn_app (goodIn_of _ (by decide +kernel)) ggX6_half_X6_gets
theorem dX6_half_0 : decode cX6_half 0 = .ok (.iload 4, 2) := by decide +kernel
theorem dX6_half_2 : decode cX6_half 2 = .ok (.ifCond .lt 14, 3) := by decide +kernel
theorem dX6_half_5 : decode cX6_half 5 = .ok (.aload_n 0, 1) := by decide +kernel
theorem dX6_half_6 : decode cX6_half 6 = .ok (.iload_n 1, 1) := by decide +kernel
theorem dX6_half_7 : decode cX6_half 7 = .ok (.iload_n 2, 1) := by decide +kernel
theorem dX6_half_8 : decode cX6_half 8 = .ok (.iload_n 3, 1) := by decide +kernel
theorem dX6_half_9 : decode cX6_half 9 = .ok (.invokevirtual 163, 3) := by decide +kernel
theorem dX6_half_12 : decode cX6_half 12 = .ok (.iconst 1, 1) := by decide +kernel
theorem dX6_half_13 : decode cX6_half 13 = .ok (.if_icmp .eq 5, 3) := by decide +kernel
theorem dX6_half_16 : decode cX6_half 16 = .ok (.iconst (-1), 1) := by decide +kernel
theorem dX6_half_17 : decode cX6_half 17 = .ok (.ireturn, 1) := by decide +kernel
theorem dX6_half_18 : decode cX6_half 18 = .ok (.iconst 0, 1) := by decide +kernel
theorem dX6_half_19 : decode cX6_half 19 = .ok (.istore 5, 2) := by decide +kernel
theorem dX6_half_21 : decode cX6_half 21 = .ok (.iconst 0, 1) := by decide +kernel
theorem dX6_half_22 : decode cX6_half 22 = .ok (.istore 6, 2) := by decide +kernel
theorem dX6_half_24 : decode cX6_half 24 = .ok (.iload 6, 2) := by decide +kernel
theorem dX6_half_26 : decode cX6_half 26 = .ok (.aload_n 0, 1) := by decide +kernel
theorem dX6_half_27 : decode cX6_half 27 = .ok (.getfield 130, 3) := by decide +kernel
theorem dX6_half_30 : decode cX6_half 30 = .ok (.if_icmp .ge 49, 3) := by decide +kernel
theorem dX6_half_33 : decode cX6_half 33 = .ok (.aload_n 0, 1) := by decide +kernel
theorem dX6_half_34 : decode cX6_half 34 = .ok (.iload_n 1, 1) := by decide +kernel
theorem dX6_half_35 : decode cX6_half 35 = .ok (.aload_n 0, 1) := by decide +kernel
theorem dX6_half_36 : decode cX6_half 36 = .ok (.getfield 43, 3) := by decide +kernel
theorem dX6_half_39 : decode cX6_half 39 = .ok (.iload 6, 2) := by decide +kernel
theorem dX6_half_41 : decode cX6_half 41 = .ok (.iaload, 1) := by decide +kernel
theorem dX6_half_42 : decode cX6_half 42 = .ok (.imul, 1) := by decide +kernel
theorem dX6_half_43 : decode cX6_half 43 = .ok (.iconst 3, 1) := by decide +kernel
theorem dX6_half_44 : decode cX6_half 44 = .ok (.iload_n 1, 1) := by decide +kernel
theorem dX6_half_45 : decode cX6_half 45 = .ok (.isub, 1) := by decide +kernel
theorem dX6_half_46 : decode cX6_half 46 = .ok (.invokevirtual 147, 3) := by decide +kernel
theorem dX6_half_49 : decode cX6_half 49 = .ok (.ifCond .ne 6, 3) := by decide +kernel
theorem dX6_half_52 : decode cX6_half 52 = .ok (.goto 21, 3) := by decide +kernel
theorem dX6_half_55 : decode cX6_half 55 = .ok (.iload 5, 2) := by decide +kernel
theorem dX6_half_57 : decode cX6_half 57 = .ok (.iload 4, 2) := by decide +kernel
theorem dX6_half_59 : decode cX6_half 59 = .ok (.if_icmp .ne 11, 3) := by decide +kernel
theorem dX6_half_62 : decode cX6_half 62 = .ok (.aload_n 0, 1) := by decide +kernel
theorem dX6_half_63 : decode cX6_half 63 = .ok (.getfield 40, 3) := by decide +kernel
theorem dX6_half_66 : decode cX6_half 66 = .ok (.iload 6, 2) := by decide +kernel
theorem dX6_half_68 : decode cX6_half 68 = .ok (.iaload, 1) := by decide +kernel
theorem dX6_half_69 : decode cX6_half 69 = .ok (.ireturn, 1) := by decide +kernel
theorem dX6_half_70 : decode cX6_half 70 = .ok (.iinc 5 1, 3) := by decide +kernel
theorem dX6_half_73 : decode cX6_half 73 = .ok (.iinc 6 1, 3) := by decide +kernel
theorem dX6_half_76 : decode cX6_half 76 = .ok (.goto (-52), 3) := by decide +kernel
theorem dX6_half_79 : decode cX6_half 79 = .ok (.iconst (-1), 1) := by decide +kernel
theorem dX6_half_80 : decode cX6_half 80 = .ok (.ireturn, 1) := by decide +kernel
set_option maxRecDepth 20000 in
theorem ggX6_count_X6_fields : GoodIn wsX6_count wsX6_fields := goodIn_r _ [12, 1, 2, 99, 100, 101, 102, 103, 104, 105, 106, 107, 108, 109, 110, 111, 112, 113, 114, 115] (by decide +kernel) (by decide +kernel)
set_option maxRecDepth 20000 in
theorem gX6_count_X6_fields : GoodIn wsX6_count (wsV RX6 56 RX6 yX6_fields wsX6_fields) := goodIn_app (goodIn_of _ (by decide +kernel)) ggX6_count_X6_fields
set_option maxRecDepth 20000 in
theorem ggX6_count_X6_groups : GoodIn wsX6_count wsX6_groups := goodIn_r _ [16, 3, 8, 9, 10, 11, 12, 1, 2, 17, 18, 19, 20, 21, 22, 23, 24, 25, 26, 27, 28, 29, 30, 31, 32, 33, 34, 35, 36, 37, 38, 39, 40, 41, 42, 43, 44, 45, 46, 47, 48, 99, 100, 101, 102, 103, 104, 105, 106, 107, 108, 109, 110, 111, 112, 113, 114, 115] (by decide +kernel) (by decide +kernel)
set_option maxRecDepth 20000 in
theorem gX6_count_X6_groups : GoodIn wsX6_count (wsV RX6 167 RX6 yX6_groups wsX6_groups) := goodIn_app (goodIn_of _ (by decide +kernel)) ggX6_count_X6_groups
set_option maxRecDepth 20000 in
theorem ggX6_count_X6_opens : GoodIn wsX6_count wsX6_opens := goodIn_r _ [52, 7, 3, 53, 54, 8, 9, 10, 11, 12, 1, 2, 99, 100, 101, 102, 103, 104, 105, 106, 107, 108, 109, 110, 111, 112, 113, 114, 115] (by decide +kernel) (by decide +kernel)
set_option maxRecDepth 20000 in
theorem gX6_count_X6_opens : GoodIn wsX6_count (wsV RX6 139 RX6 yX6_opens wsX6_opens) := goodIn_app (goodIn_of _ (by decide +kernel)) ggX6_count_X6_opens
set_option maxRecDepth 20000 in
theorem ggX6_count_X6_fillings0 : GoodIn wsX6_count wsX6_fillings0 := goodIn_r _ [58, 7, 59, 60, 61, 62, 11, 63, 54, 64, 65, 66, 67, 3, 53, 68, 69, 70, 71, 21, 8, 9, 10, 12, 1, 2, 72, 73, 74, 75, 76, 77, 78, 41, 42, 43, 44, 45, 46, 47, 48, 30, 31, 32, 79, 80, 81, 99, 100, 101, 102, 103, 104, 105, 106, 107, 108, 109, 110, 111, 112, 113, 114, 115] (by decide +kernel) (by decide +kernel)
set_option maxRecDepth 20000 in
theorem gX6_count_X6_fillings0 : GoodIn wsX6_count (wsV RX6 154 RX6 yX6_fillings0 wsX6_fillings0) := goodIn_app (goodIn_of _ (by decide +kernel)) ggX6_count_X6_fillings0
set_option maxRecDepth 20000 in
theorem ggX6_count_X6_isDead : GoodIn wsX6_count wsX6_isDead := goodIn_r _ [85, 7, 59, 99, 100, 101, 102, 103, 104, 105, 106, 107, 108, 109, 110, 111, 112, 113, 114, 115] (by decide +kernel) (by decide +kernel)
set_option maxRecDepth 20000 in
theorem gX6_count_X6_isDead : GoodIn wsX6_count (wsV RX6 157 RX6 yX6_isDead wsX6_isDead) := goodIn_app (goodIn_of _ (by decide +kernel)) ggX6_count_X6_isDead
set_option maxRecDepth 20000 in
theorem ggX6_count_X6_wayLong : GoodIn wsX6_count wsX6_wayLong := goodIn_r _ [89, 90, 91, 92, 93, 11, 94, 68, 69, 70, 71, 21, 3, 8, 9, 10, 12, 1, 2, 72, 73, 74, 75, 76, 77, 78, 41, 42, 43, 44, 45, 46, 47, 48, 30, 31, 32, 79, 80, 81, 95, 96, 97, 98, 99, 100, 101, 102, 103, 104, 105, 106, 107, 108, 109, 110, 111, 112, 113, 114, 115] (by decide +kernel) (by decide +kernel)
set_option maxRecDepth 20000 in
theorem gX6_count_X6_wayLong : GoodIn wsX6_count (wsV RX6 127 RX6 yX6_wayLong wsX6_wayLong) := goodIn_app (goodIn_of _ (by decide +kernel)) ggX6_count_X6_wayLong
theorem dX6_count_0 : decode cX6_count 0 = .ok (.iconst 0, 1) := by decide +kernel
theorem dX6_count_1 : decode cX6_count 1 = .ok (.istore_n 2, 1) := by decide +kernel
theorem dX6_count_2 : decode cX6_count 2 = .ok (.iload_n 1, 1) := by decide +kernel
theorem dX6_count_3 : decode cX6_count 3 = .ok (.tableswitch 177 0 9 #[53, 58, 63, 98, 103, 108, 113, 119, 125, 172], 53) := by decide +kernel
theorem dX6_count_56 : decode cX6_count 56 = .ok (.aload_n 0, 1) := by decide +kernel
theorem dX6_count_57 : decode cX6_count 57 = .ok (.getfield 7, 3) := by decide +kernel
theorem dX6_count_60 : decode cX6_count 60 = .ok (.ireturn, 1) := by decide +kernel
theorem dX6_count_61 : decode cX6_count 61 = .ok (.aload_n 0, 1) := by decide +kernel
theorem dX6_count_62 : decode cX6_count 62 = .ok (.getfield 13, 3) := by decide +kernel
theorem dX6_count_65 : decode cX6_count 65 = .ok (.ireturn, 1) := by decide +kernel
theorem dX6_count_66 : decode cX6_count 66 = .ok (.iconst 0, 1) := by decide +kernel
theorem dX6_count_67 : decode cX6_count 67 = .ok (.istore_n 3, 1) := by decide +kernel
theorem dX6_count_68 : decode cX6_count 68 = .ok (.iload_n 3, 1) := by decide +kernel
theorem dX6_count_69 : decode cX6_count 69 = .ok (.aload_n 0, 1) := by decide +kernel
theorem dX6_count_70 : decode cX6_count 70 = .ok (.invokevirtual 56, 3) := by decide +kernel
theorem dX6_count_73 : decode cX6_count 73 = .ok (.if_icmp .ge 26, 3) := by decide +kernel
theorem dX6_count_76 : decode cX6_count 76 = .ok (.iload_n 2, 1) := by decide +kernel
theorem dX6_count_77 : decode cX6_count 77 = .ok (.aload_n 0, 1) := by decide +kernel
theorem dX6_count_78 : decode cX6_count 78 = .ok (.getfield 19, 3) := by decide +kernel
theorem dX6_count_81 : decode cX6_count 81 = .ok (.iload_n 3, 1) := by decide +kernel
theorem dX6_count_82 : decode cX6_count 82 = .ok (.iaload, 1) := by decide +kernel
theorem dX6_count_83 : decode cX6_count 83 = .ok (.ifCond .ne 7, 3) := by decide +kernel
theorem dX6_count_86 : decode cX6_count 86 = .ok (.iconst 1, 1) := by decide +kernel
theorem dX6_count_87 : decode cX6_count 87 = .ok (.goto 4, 3) := by decide +kernel
theorem dX6_count_90 : decode cX6_count 90 = .ok (.iconst 0, 1) := by decide +kernel
theorem dX6_count_91 : decode cX6_count 91 = .ok (.iadd, 1) := by decide +kernel
theorem dX6_count_92 : decode cX6_count 92 = .ok (.istore_n 2, 1) := by decide +kernel
theorem dX6_count_93 : decode cX6_count 93 = .ok (.iinc 3 1, 3) := by decide +kernel
theorem dX6_count_96 : decode cX6_count 96 = .ok (.goto (-28), 3) := by decide +kernel
theorem dX6_count_99 : decode cX6_count 99 = .ok (.iload_n 2, 1) := by decide +kernel
theorem dX6_count_100 : decode cX6_count 100 = .ok (.ireturn, 1) := by decide +kernel
theorem dX6_count_101 : decode cX6_count 101 = .ok (.aload_n 0, 1) := by decide +kernel
theorem dX6_count_102 : decode cX6_count 102 = .ok (.getfield 16, 3) := by decide +kernel
theorem dX6_count_105 : decode cX6_count 105 = .ok (.ireturn, 1) := by decide +kernel
theorem dX6_count_106 : decode cX6_count 106 = .ok (.aload_n 0, 1) := by decide +kernel
theorem dX6_count_107 : decode cX6_count 107 = .ok (.getfield 64, 3) := by decide +kernel
theorem dX6_count_110 : decode cX6_count 110 = .ok (.ireturn, 1) := by decide +kernel
theorem dX6_count_111 : decode cX6_count 111 = .ok (.aload_n 0, 1) := by decide +kernel
theorem dX6_count_112 : decode cX6_count 112 = .ok (.getfield 67, 3) := by decide +kernel
theorem dX6_count_115 : decode cX6_count 115 = .ok (.ireturn, 1) := by decide +kernel
theorem dX6_count_116 : decode cX6_count 116 = .ok (.aload_n 0, 1) := by decide +kernel
theorem dX6_count_117 : decode cX6_count 117 = .ok (.iconst 1, 1) := by decide +kernel
theorem dX6_count_118 : decode cX6_count 118 = .ok (.invokevirtual 167, 3) := by decide +kernel
theorem dX6_count_121 : decode cX6_count 121 = .ok (.ireturn, 1) := by decide +kernel
theorem dX6_count_122 : decode cX6_count 122 = .ok (.aload_n 0, 1) := by decide +kernel
theorem dX6_count_123 : decode cX6_count 123 = .ok (.iconst 2, 1) := by decide +kernel
theorem dX6_count_124 : decode cX6_count 124 = .ok (.invokevirtual 167, 3) := by decide +kernel
theorem dX6_count_127 : decode cX6_count 127 = .ok (.ireturn, 1) := by decide +kernel
theorem dX6_count_128 : decode cX6_count 128 = .ok (.aload_n 0, 1) := by decide +kernel
theorem dX6_count_129 : decode cX6_count 129 = .ok (.invokevirtual 139, 3) := by decide +kernel
theorem dX6_count_132 : decode cX6_count 132 = .ok (.ifCond .ne 5, 3) := by decide +kernel
theorem dX6_count_135 : decode cX6_count 135 = .ok (.iconst (-1), 1) := by decide +kernel
theorem dX6_count_136 : decode cX6_count 136 = .ok (.ireturn, 1) := by decide +kernel
theorem dX6_count_137 : decode cX6_count 137 = .ok (.aload_n 0, 1) := by decide +kernel
theorem dX6_count_138 : decode cX6_count 138 = .ok (.invokevirtual 154, 3) := by decide +kernel
theorem dX6_count_141 : decode cX6_count 141 = .ok (.iconst 0, 1) := by decide +kernel
theorem dX6_count_142 : decode cX6_count 142 = .ok (.istore_n 3, 1) := by decide +kernel
theorem dX6_count_143 : decode cX6_count 143 = .ok (.iload_n 3, 1) := by decide +kernel
theorem dX6_count_144 : decode cX6_count 144 = .ok (.aload_n 0, 1) := by decide +kernel
theorem dX6_count_145 : decode cX6_count 145 = .ok (.getfield 130, 3) := by decide +kernel
theorem dX6_count_148 : decode cX6_count 148 = .ok (.if_icmp .ge 25, 3) := by decide +kernel
theorem dX6_count_151 : decode cX6_count 151 = .ok (.iload_n 2, 1) := by decide +kernel
theorem dX6_count_152 : decode cX6_count 152 = .ok (.aload_n 0, 1) := by decide +kernel
theorem dX6_count_153 : decode cX6_count 153 = .ok (.iload_n 3, 1) := by decide +kernel
theorem dX6_count_154 : decode cX6_count 154 = .ok (.invokevirtual 157, 3) := by decide +kernel
theorem dX6_count_157 : decode cX6_count 157 = .ok (.ifCond .eq 7, 3) := by decide +kernel
theorem dX6_count_160 : decode cX6_count 160 = .ok (.iconst 1, 1) := by decide +kernel
theorem dX6_count_161 : decode cX6_count 161 = .ok (.goto 4, 3) := by decide +kernel
theorem dX6_count_164 : decode cX6_count 164 = .ok (.iconst 0, 1) := by decide +kernel
theorem dX6_count_165 : decode cX6_count 165 = .ok (.iadd, 1) := by decide +kernel
theorem dX6_count_166 : decode cX6_count 166 = .ok (.istore_n 2, 1) := by decide +kernel
theorem dX6_count_167 : decode cX6_count 167 = .ok (.iinc 3 1, 3) := by decide +kernel
theorem dX6_count_170 : decode cX6_count 170 = .ok (.goto (-27), 3) := by decide +kernel
theorem dX6_count_173 : decode cX6_count 173 = .ok (.iload_n 2, 1) := by decide +kernel
theorem dX6_count_174 : decode cX6_count 174 = .ok (.ireturn, 1) := by decide +kernel
theorem dX6_count_175 : decode cX6_count 175 = .ok (.aload_n 0, 1) := by decide +kernel
theorem dX6_count_176 : decode cX6_count 176 = .ok (.invokevirtual 127, 3) := by decide +kernel
theorem dX6_count_179 : decode cX6_count 179 = .ok (.ireturn, 1) := by decide +kernel
theorem dX6_count_180 : decode cX6_count 180 = .ok (.iconst (-1), 1) := by decide +kernel
theorem dX6_count_181 : decode cX6_count 181 = .ok (.ireturn, 1) := by decide +kernel
theorem dJ13_bitCount_95d88_0 : decode cJ13_bitCount_95d88 0 = .ok (.lload_n 0, 1) := by decide +kernel
theorem dJ13_bitCount_95d88_1 : decode cJ13_bitCount_95d88 1 = .ok (.lload_n 0, 1) := by decide +kernel
theorem dJ13_bitCount_95d88_2 : decode cJ13_bitCount_95d88 2 = .ok (.iconst 1, 1) := by decide +kernel
theorem dJ13_bitCount_95d88_3 : decode cJ13_bitCount_95d88 3 = .ok (.lushr, 1) := by decide +kernel
theorem dJ13_bitCount_95d88_4 : decode cJ13_bitCount_95d88 4 = .ok (.ldc2_w 314, 3) := by decide +kernel
theorem dJ13_bitCount_95d88_7 : decode cJ13_bitCount_95d88 7 = .ok (.land, 1) := by decide +kernel
theorem dJ13_bitCount_95d88_8 : decode cJ13_bitCount_95d88 8 = .ok (.lsub, 1) := by decide +kernel
theorem dJ13_bitCount_95d88_9 : decode cJ13_bitCount_95d88 9 = .ok (.lstore_n 0, 1) := by decide +kernel
theorem dJ13_bitCount_95d88_10 : decode cJ13_bitCount_95d88 10 = .ok (.lload_n 0, 1) := by decide +kernel
theorem dJ13_bitCount_95d88_11 : decode cJ13_bitCount_95d88 11 = .ok (.ldc2_w 316, 3) := by decide +kernel
theorem dJ13_bitCount_95d88_14 : decode cJ13_bitCount_95d88 14 = .ok (.land, 1) := by decide +kernel
theorem dJ13_bitCount_95d88_15 : decode cJ13_bitCount_95d88 15 = .ok (.lload_n 0, 1) := by decide +kernel
theorem dJ13_bitCount_95d88_16 : decode cJ13_bitCount_95d88 16 = .ok (.iconst 2, 1) := by decide +kernel
theorem dJ13_bitCount_95d88_17 : decode cJ13_bitCount_95d88 17 = .ok (.lushr, 1) := by decide +kernel
theorem dJ13_bitCount_95d88_18 : decode cJ13_bitCount_95d88 18 = .ok (.ldc2_w 316, 3) := by decide +kernel
theorem dJ13_bitCount_95d88_21 : decode cJ13_bitCount_95d88 21 = .ok (.land, 1) := by decide +kernel
theorem dJ13_bitCount_95d88_22 : decode cJ13_bitCount_95d88 22 = .ok (.ladd, 1) := by decide +kernel
theorem dJ13_bitCount_95d88_23 : decode cJ13_bitCount_95d88 23 = .ok (.lstore_n 0, 1) := by decide +kernel
theorem dJ13_bitCount_95d88_24 : decode cJ13_bitCount_95d88 24 = .ok (.lload_n 0, 1) := by decide +kernel
theorem dJ13_bitCount_95d88_25 : decode cJ13_bitCount_95d88 25 = .ok (.lload_n 0, 1) := by decide +kernel
theorem dJ13_bitCount_95d88_26 : decode cJ13_bitCount_95d88 26 = .ok (.iconst 4, 1) := by decide +kernel
theorem dJ13_bitCount_95d88_27 : decode cJ13_bitCount_95d88 27 = .ok (.lushr, 1) := by decide +kernel
theorem dJ13_bitCount_95d88_28 : decode cJ13_bitCount_95d88 28 = .ok (.ladd, 1) := by decide +kernel
theorem dJ13_bitCount_95d88_29 : decode cJ13_bitCount_95d88 29 = .ok (.ldc2_w 318, 3) := by decide +kernel
theorem dJ13_bitCount_95d88_32 : decode cJ13_bitCount_95d88 32 = .ok (.land, 1) := by decide +kernel
theorem dJ13_bitCount_95d88_33 : decode cJ13_bitCount_95d88 33 = .ok (.lstore_n 0, 1) := by decide +kernel
theorem dJ13_bitCount_95d88_34 : decode cJ13_bitCount_95d88 34 = .ok (.lload_n 0, 1) := by decide +kernel
theorem dJ13_bitCount_95d88_35 : decode cJ13_bitCount_95d88 35 = .ok (.lload_n 0, 1) := by decide +kernel
theorem dJ13_bitCount_95d88_36 : decode cJ13_bitCount_95d88 36 = .ok (.bipush 8, 2) := by decide +kernel
theorem dJ13_bitCount_95d88_38 : decode cJ13_bitCount_95d88 38 = .ok (.lushr, 1) := by decide +kernel
theorem dJ13_bitCount_95d88_39 : decode cJ13_bitCount_95d88 39 = .ok (.ladd, 1) := by decide +kernel
theorem dJ13_bitCount_95d88_40 : decode cJ13_bitCount_95d88 40 = .ok (.lstore_n 0, 1) := by decide +kernel
theorem dJ13_bitCount_95d88_41 : decode cJ13_bitCount_95d88 41 = .ok (.lload_n 0, 1) := by decide +kernel
theorem dJ13_bitCount_95d88_42 : decode cJ13_bitCount_95d88 42 = .ok (.lload_n 0, 1) := by decide +kernel
theorem dJ13_bitCount_95d88_43 : decode cJ13_bitCount_95d88 43 = .ok (.bipush 16, 2) := by decide +kernel
theorem dJ13_bitCount_95d88_45 : decode cJ13_bitCount_95d88 45 = .ok (.lushr, 1) := by decide +kernel
theorem dJ13_bitCount_95d88_46 : decode cJ13_bitCount_95d88 46 = .ok (.ladd, 1) := by decide +kernel
theorem dJ13_bitCount_95d88_47 : decode cJ13_bitCount_95d88 47 = .ok (.lstore_n 0, 1) := by decide +kernel
theorem dJ13_bitCount_95d88_48 : decode cJ13_bitCount_95d88 48 = .ok (.lload_n 0, 1) := by decide +kernel
theorem dJ13_bitCount_95d88_49 : decode cJ13_bitCount_95d88 49 = .ok (.lload_n 0, 1) := by decide +kernel
theorem dJ13_bitCount_95d88_50 : decode cJ13_bitCount_95d88 50 = .ok (.bipush 32, 2) := by decide +kernel
theorem dJ13_bitCount_95d88_52 : decode cJ13_bitCount_95d88 52 = .ok (.lushr, 1) := by decide +kernel
theorem dJ13_bitCount_95d88_53 : decode cJ13_bitCount_95d88 53 = .ok (.ladd, 1) := by decide +kernel
theorem dJ13_bitCount_95d88_54 : decode cJ13_bitCount_95d88 54 = .ok (.lstore_n 0, 1) := by decide +kernel
theorem dJ13_bitCount_95d88_55 : decode cJ13_bitCount_95d88 55 = .ok (.lload_n 0, 1) := by decide +kernel
theorem dJ13_bitCount_95d88_56 : decode cJ13_bitCount_95d88 56 = .ok (.l2i, 1) := by decide +kernel
theorem dJ13_bitCount_95d88_57 : decode cJ13_bitCount_95d88 57 = .ok (.bipush 127, 2) := by decide +kernel
theorem dJ13_bitCount_95d88_59 : decode cJ13_bitCount_95d88 59 = .ok (.iand, 1) := by decide +kernel
theorem dJ13_bitCount_95d88_60 : decode cJ13_bitCount_95d88 60 = .ok (.ireturn, 1) := by decide +kernel
theorem dJ9_max_7cf53_0 : decode cJ9_max_7cf53 0 = .ok (.iload_n 0, 1) := by decide +kernel
theorem dJ9_max_7cf53_1 : decode cJ9_max_7cf53 1 = .ok (.iload_n 1, 1) := by decide +kernel
theorem dJ9_max_7cf53_2 : decode cJ9_max_7cf53 2 = .ok (.if_icmp .lt 7, 3) := by decide +kernel
theorem dJ9_max_7cf53_5 : decode cJ9_max_7cf53 5 = .ok (.iload_n 0, 1) := by decide +kernel
theorem dJ9_max_7cf53_6 : decode cJ9_max_7cf53 6 = .ok (.goto 4, 3) := by decide +kernel
theorem dJ9_max_7cf53_9 : decode cJ9_max_7cf53 9 = .ok (.iload_n 1, 1) := by decide +kernel
theorem dJ9_max_7cf53_10 : decode cJ9_max_7cf53 10 = .ok (.ireturn, 1) := by decide +kernel
theorem dJ9_min_7cf53_0 : decode cJ9_min_7cf53 0 = .ok (.iload_n 0, 1) := by decide +kernel
theorem dJ9_min_7cf53_1 : decode cJ9_min_7cf53 1 = .ok (.iload_n 1, 1) := by decide +kernel
theorem dJ9_min_7cf53_2 : decode cJ9_min_7cf53 2 = .ok (.if_icmp .gt 7, 3) := by decide +kernel
theorem dJ9_min_7cf53_5 : decode cJ9_min_7cf53 5 = .ok (.iload_n 0, 1) := by decide +kernel
theorem dJ9_min_7cf53_6 : decode cJ9_min_7cf53 6 = .ok (.goto 4, 3) := by decide +kernel
theorem dJ9_min_7cf53_9 : decode cJ9_min_7cf53 9 = .ok (.iload_n 1, 1) := by decide +kernel
theorem dJ9_min_7cf53_10 : decode cJ9_min_7cf53 10 = .ok (.ireturn, 1) := by decide +kernel
theorem dJ7_fill_d0a16_0 : decode cJ7_fill_d0a16 0 = .ok (.iconst 0, 1) := by decide +kernel
theorem dJ7_fill_d0a16_1 : decode cJ7_fill_d0a16 1 = .ok (.istore_n 3, 1) := by decide +kernel
theorem dJ7_fill_d0a16_2 : decode cJ7_fill_d0a16 2 = .ok (.aload_n 0, 1) := by decide +kernel
theorem dJ7_fill_d0a16_3 : decode cJ7_fill_d0a16 3 = .ok (.arraylength, 1) := by decide +kernel
theorem dJ7_fill_d0a16_4 : decode cJ7_fill_d0a16 4 = .ok (.istore 4, 2) := by decide +kernel
theorem dJ7_fill_d0a16_6 : decode cJ7_fill_d0a16 6 = .ok (.iload_n 3, 1) := by decide +kernel
theorem dJ7_fill_d0a16_7 : decode cJ7_fill_d0a16 7 = .ok (.iload 4, 2) := by decide +kernel
theorem dJ7_fill_d0a16_9 : decode cJ7_fill_d0a16 9 = .ok (.if_icmp .ge 13, 3) := by decide +kernel
theorem dJ7_fill_d0a16_12 : decode cJ7_fill_d0a16 12 = .ok (.aload_n 0, 1) := by decide +kernel
theorem dJ7_fill_d0a16_13 : decode cJ7_fill_d0a16 13 = .ok (.iload_n 3, 1) := by decide +kernel
theorem dJ7_fill_d0a16_14 : decode cJ7_fill_d0a16 14 = .ok (.lload_n 1, 1) := by decide +kernel
theorem dJ7_fill_d0a16_15 : decode cJ7_fill_d0a16 15 = .ok (.lastore, 1) := by decide +kernel
theorem dJ7_fill_d0a16_16 : decode cJ7_fill_d0a16 16 = .ok (.iinc 3 1, 3) := by decide +kernel
theorem dJ7_fill_d0a16_19 : decode cJ7_fill_d0a16 19 = .ok (.goto (-13), 3) := by decide +kernel
theorem dJ7_fill_d0a16_22 : decode cJ7_fill_d0a16 22 = .ok (.return_, 1) := by decide +kernel
