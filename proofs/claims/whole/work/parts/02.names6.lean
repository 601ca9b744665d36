theorem dX6_dead_36 : decode cX6_dead 36 = .ok (.iload_n 2, 1) := by decide +kernel
theorem dX6_dead_37 : decode cX6_dead 37 = .ok (.iaload, 1) := by decide +kernel
theorem dX6_dead_38 : decode cX6_dead 38 = .ok (.iload_n 1, 1) := by decide +kernel
theorem dX6_dead_39 : decode cX6_dead 39 = .ok (.if_icmp .eq 9, 3) := by decide +kernel
theorem dX6_dead_42 : decode cX6_dead 42 = .ok (.iinc 2 1, 3) := by decide +kernel
theorem dX6_dead_45 : decode cX6_dead 45 = .ok (.goto (-13), 3) := by decide +kernel
theorem dX6_dead_48 : decode cX6_dead 48 = .ok (.aload_n 0, 1) := by decide +kernel
theorem dX6_dead_49 : decode cX6_dead 49 = .ok (.iload_n 2, 1) := by decide +kernel
theorem dX6_dead_50 : decode cX6_dead 50 = .ok (.invokevirtual 157, 3) := by decide +kernel
theorem dX6_dead_53 : decode cX6_dead 53 = .ok (.ifCond .eq 7, 3) := by decide +kernel
theorem dX6_dead_56 : decode cX6_dead 56 = .ok (.iconst 1, 1) := by decide +kernel
theorem dX6_dead_57 : decode cX6_dead 57 = .ok (.goto 4, 3) := by decide +kernel
theorem dX6_dead_60 : decode cX6_dead 60 = .ok (.iconst 0, 1) := by decide +kernel
theorem dX6_dead_61 : decode cX6_dead 61 = .ok (.ireturn, 1) := by decide +kernel
set_option maxRecDepth 20000 in
theorem ggX6_mayLink_X6_lies : GoodIn wsX6_mayLink wsX6_lies := goodIn_r _ [5] (by decide +kernel) (by decide +kernel)
set_option maxRecDepth 20000 in
theorem gX6_mayLink_X6_lies : GoodIn wsX6_mayLink (va_wsS RX6 60 yX6_lies wsX6_lies) := goodIn_app (goodIn_of _ (by decide +kernel)) ggX6_mayLink_X6_lies
set_option maxRecDepth 20000 in
theorem ggX6_mayLink_X6_isField : GoodIn wsX6_mayLink wsX6_isField := goodIn_r _ [9, 10, 11, 12, 4, 13, 14, 15, 2, 3, 5, 23, 24, 25, 26, 27, 28, 29, 30, 31, 32, 33, 34, 35, 36, 37, 38, 39] (by decide +kernel) (by decide +kernel)
set_option maxRecDepth 20000 in
theorem gX6_mayLink_X6_isField : GoodIn wsX6_mayLink (wsV RX6 73 RX6 yX6_isField wsX6_isField) := goodIn_app (goodIn_of _ (by decide +kernel)) ggX6_mayLink_X6_isField
set_option maxRecDepth 20000 in
theorem ggX6_mayLink_X6_opens : GoodIn wsX6_mayLink wsX6_opens := goodIn_r _ [19, 20, 1, 21, 22, 10, 11, 12, 4, 13, 14, 15, 23, 24, 25, 26, 27, 28, 29, 30, 31, 32, 33, 34, 35, 36, 37, 38, 39] (by decide +kernel) (by decide +kernel)
set_option maxRecDepth 20000 in
theorem gX6_mayLink_X6_opens : GoodIn wsX6_mayLink (wsV RX6 139 RX6 yX6_opens wsX6_opens) := goodIn_app (goodIn_of _ (by decide +kernel)) ggX6_mayLink_X6_opens
theorem dX6_mayLink_0 : decode cX6_mayLink 0 = .ok (.iload_n 1, 1) := by decide +kernel
theorem dX6_mayLink_1 : decode cX6_mayLink 1 = .ok (.iconst 1, 1) := by decide +kernel
theorem dX6_mayLink_2 : decode cX6_mayLink 2 = .ok (.iconst 2, 1) := by decide +kernel
theorem dX6_mayLink_3 : decode cX6_mayLink 3 = .ok (.invokestatic 60, 3) := by decide +kernel
theorem dX6_mayLink_6 : decode cX6_mayLink 6 = .ok (.ifCond .eq 59, 3) := by decide +kernel
theorem dX6_mayLink_9 : decode cX6_mayLink 9 = .ok (.aload_n 0, 1) := by decide +kernel
theorem dX6_mayLink_10 : decode cX6_mayLink 10 = .ok (.iload_n 2, 1) := by decide +kernel
theorem dX6_mayLink_11 : decode cX6_mayLink 11 = .ok (.invokevirtual 73, 3) := by decide +kernel
theorem dX6_mayLink_14 : decode cX6_mayLink 14 = .ok (.ifCond .eq 51, 3) := by decide +kernel
theorem dX6_mayLink_17 : decode cX6_mayLink 17 = .ok (.aload_n 0, 1) := by decide +kernel
theorem dX6_mayLink_18 : decode cX6_mayLink 18 = .ok (.iload_n 3, 1) := by decide +kernel
theorem dX6_mayLink_19 : decode cX6_mayLink 19 = .ok (.invokevirtual 73, 3) := by decide +kernel
theorem dX6_mayLink_22 : decode cX6_mayLink 22 = .ok (.ifCond .eq 43, 3) := by decide +kernel
theorem dX6_mayLink_25 : decode cX6_mayLink 25 = .ok (.iload_n 2, 1) := by decide +kernel
theorem dX6_mayLink_26 : decode cX6_mayLink 26 = .ok (.iload_n 3, 1) := by decide +kernel
theorem dX6_mayLink_27 : decode cX6_mayLink 27 = .ok (.if_icmp .eq 38, 3) := by decide +kernel
theorem dX6_mayLink_30 : decode cX6_mayLink 30 = .ok (.aload_n 0, 1) := by decide +kernel
theorem dX6_mayLink_31 : decode cX6_mayLink 31 = .ok (.getfield 19, 3) := by decide +kernel
theorem dX6_mayLink_34 : decode cX6_mayLink 34 = .ok (.iload_n 2, 1) := by decide +kernel
theorem dX6_mayLink_35 : decode cX6_mayLink 35 = .ok (.iaload, 1) := by decide +kernel
theorem dX6_mayLink_36 : decode cX6_mayLink 36 = .ok (.iconst 3, 1) := by decide +kernel
theorem dX6_mayLink_37 : decode cX6_mayLink 37 = .ok (.iload_n 1, 1) := by decide +kernel
theorem dX6_mayLink_38 : decode cX6_mayLink 38 = .ok (.isub, 1) := by decide +kernel
theorem dX6_mayLink_39 : decode cX6_mayLink 39 = .ok (.if_icmp .eq 26, 3) := by decide +kernel
theorem dX6_mayLink_42 : decode cX6_mayLink 42 = .ok (.aload_n 0, 1) := by decide +kernel
theorem dX6_mayLink_43 : decode cX6_mayLink 43 = .ok (.getfield 19, 3) := by decide +kernel
theorem dX6_mayLink_46 : decode cX6_mayLink 46 = .ok (.iload_n 3, 1) := by decide +kernel
theorem dX6_mayLink_47 : decode cX6_mayLink 47 = .ok (.iaload, 1) := by decide +kernel
theorem dX6_mayLink_48 : decode cX6_mayLink 48 = .ok (.iconst 3, 1) := by decide +kernel
theorem dX6_mayLink_49 : decode cX6_mayLink 49 = .ok (.iload_n 1, 1) := by decide +kernel
theorem dX6_mayLink_50 : decode cX6_mayLink 50 = .ok (.isub, 1) := by decide +kernel
theorem dX6_mayLink_51 : decode cX6_mayLink 51 = .ok (.if_icmp .eq 14, 3) := by decide +kernel
theorem dX6_mayLink_54 : decode cX6_mayLink 54 = .ok (.aload_n 0, 1) := by decide +kernel
theorem dX6_mayLink_55 : decode cX6_mayLink 55 = .ok (.invokevirtual 139, 3) := by decide +kernel
theorem dX6_mayLink_58 : decode cX6_mayLink 58 = .ok (.ifCond .eq 7, 3) := by decide +kernel
theorem dX6_mayLink_61 : decode cX6_mayLink 61 = .ok (.iconst 1, 1) := by decide +kernel
theorem dX6_mayLink_62 : decode cX6_mayLink 62 = .ok (.goto 4, 3) := by decide +kernel
theorem dX6_mayLink_65 : decode cX6_mayLink 65 = .ok (.iconst 0, 1) := by decide +kernel
theorem dX6_mayLink_66 : decode cX6_mayLink 66 = .ok (.ireturn, 1) := by decide +kernel
set_option maxRecDepth 20000 in
theorem ggX6_link_X6_mayLink : GoodIn wsX6_link wsX6_mayLink := goodIn_r _ [5, 6, 7, 8, 4, 9, 10, 11, 12, 13, 14, 15, 16, 17, 18, 19, 20, 21, 22, 23, 24, 25, 26, 76, 77, 78, 79, 80, 81, 82, 83, 84, 85, 86, 87, 88, 89, 90, 91, 92] (by decide +kernel) (by decide +kernel)
set_option maxRecDepth 20000 in
theorem gX6_link_X6_mayLink : GoodIn wsX6_link (wsV RX6 160 RX6 yX6_mayLink wsX6_mayLink) := goodIn_app (goodIn_of _ (by decide +kernel)) ggX6_link_X6_mayLink
set_option maxRecDepth 20000 in
theorem ggX6_link_X6_works : GoodIn wsX6_link wsX6_works := goodIn_r _ [30, 26, 24, 31, 32, 33, 34, 35, 4, 36, 6, 25, 37, 38, 39, 40, 41, 14, 15, 16, 17, 18, 19, 42, 43, 44, 45, 46, 47, 48, 49, 50, 51, 52, 53, 54, 55, 56, 7, 8, 9, 57, 58, 59, 60, 61, 62, 63, 64, 65, 66, 67, 68, 69, 70, 71, 76, 77, 78, 79, 80, 81, 82, 83, 84, 85, 86, 87, 88, 89, 90, 91, 92] (by decide +kernel) (by decide +kernel)
set_option maxRecDepth 20000 in
theorem gX6_link_X6_works : GoodIn wsX6_link (wsV RX6 143 RX6 yX6_works wsX6_works) := goodIn_app (goodIn_of _ (by decide +kernel)) ggX6_link_X6_works
set_option maxRecDepth 20000 in
theorem ggX6_link_X6_gets : GoodIn wsX6_link wsX6_gets := goodIn_r _ [75, 31, 32, 76, 77, 78, 79, 80, 81, 82, 83, 84, 85, 86, 87, 88, 89, 90, 91, 92] (by decide +kernel) (by decide +kernel)
set_option maxRecDepth 20000 in
theorem gX6_link_X6_gets : GoodIn wsX6_link (wsV RX6 147 RX6 yX6_gets wsX6_gets) := goodIn_app (goodIn_of _ (by decide +kernel)) ggX6_link_X6_gets
theorem dX6_link_0 : decode cX6_link 0 = .ok (.aload_n 0, 1) := by decide +kernel
theorem dX6_link_1 : decode cX6_link 1 = .ok (.iload_n 1, 1) := by decide +kernel
theorem dX6_link_2 : decode cX6_link 2 = .ok (.iload_n 2, 1) := by decide +kernel
theorem dX6_link_3 : decode cX6_link 3 = .ok (.iload_n 3, 1) := by decide +kernel
theorem dX6_link_4 : decode cX6_link 4 = .ok (.invokevirtual 160, 3) := by decide +kernel
theorem dX6_link_7 : decode cX6_link 7 = .ok (.ifCond .ne 5, 3) := by decide +kernel
theorem dX6_link_10 : decode cX6_link 10 = .ok (.iconst (-1), 1) := by decide +kernel
theorem dX6_link_11 : decode cX6_link 11 = .ok (.ireturn, 1) := by decide +kernel
theorem dX6_link_12 : decode cX6_link 12 = .ok (.aload_n 0, 1) := by decide +kernel
theorem dX6_link_13 : decode cX6_link 13 = .ok (.iload_n 1, 1) := by decide +kernel
theorem dX6_link_14 : decode cX6_link 14 = .ok (.iload_n 2, 1) := by decide +kernel
theorem dX6_link_15 : decode cX6_link 15 = .ok (.iload_n 3, 1) := by decide +kernel
theorem dX6_link_16 : decode cX6_link 16 = .ok (.invokevirtual 143, 3) := by decide +kernel
theorem dX6_link_19 : decode cX6_link 19 = .ok (.aload_n 0, 1) := by decide +kernel
theorem dX6_link_20 : decode cX6_link 20 = .ok (.iconst 0, 1) := by decide +kernel
theorem dX6_link_21 : decode cX6_link 21 = .ok (.iconst 3, 1) := by decide +kernel
theorem dX6_link_22 : decode cX6_link 22 = .ok (.iload_n 1, 1) := by decide +kernel
theorem dX6_link_23 : decode cX6_link 23 = .ok (.isub, 1) := by decide +kernel
theorem dX6_link_24 : decode cX6_link 24 = .ok (.invokevirtual 147, 3) := by decide +kernel
theorem dX6_link_27 : decode cX6_link 27 = .ok (.ifCond .eq 7, 3) := by decide +kernel
theorem dX6_link_30 : decode cX6_link 30 = .ok (.iconst 2, 1) := by decide +kernel
theorem dX6_link_31 : decode cX6_link 31 = .ok (.goto 17, 3) := by decide +kernel
theorem dX6_link_34 : decode cX6_link 34 = .ok (.aload_n 0, 1) := by decide +kernel
theorem dX6_link_35 : decode cX6_link 35 = .ok (.iconst 0, 1) := by decide +kernel
theorem dX6_link_36 : decode cX6_link 36 = .ok (.iload_n 1, 1) := by decide +kernel
theorem dX6_link_37 : decode cX6_link 37 = .ok (.invokevirtual 147, 3) := by decide +kernel
theorem dX6_link_40 : decode cX6_link 40 = .ok (.ifCond .eq 7, 3) := by decide +kernel
theorem dX6_link_43 : decode cX6_link 43 = .ok (.iconst 1, 1) := by decide +kernel
theorem dX6_link_44 : decode cX6_link 44 = .ok (.goto 4, 3) := by decide +kernel
theorem dX6_link_47 : decode cX6_link 47 = .ok (.iconst 0, 1) := by decide +kernel
theorem dX6_link_48 : decode cX6_link 48 = .ok (.ireturn, 1) := by decide +kernel
set_option maxRecDepth 20000 in
theorem ggX6_half_X6_link : GoodIn wsX6_half wsX6_link := goodIn_r _ [8, 9, 10, 11, 7, 12, 13, 14, 15, 16, 17, 18, 19, 20, 21, 22, 23, 24, 25, 26, 27, 28, 29, 30, 1, 3, 2, 31, 32, 33, 34, 35, 36, 37, 38, 39, 40, 41, 42, 43, 44, 45, 46, 47, 48, 49, 50, 51, 52, 53, 54, 55, 56, 57, 58, 59, 60, 61, 62, 63, 64, 65, 66, 67, 68, 69, 70, 71, 72, 73, 74, 75, 76, 77, 78, 79, 80, 81, 82, 83, 84, 85, 86, 87, 88, 89, 90, 91, 92, 93, 94, 95, 96] (by decide +kernel) (by decide +kernel)
set_option maxRecDepth 20000 in
theorem gX6_half_X6_link : GoodIn wsX6_half (wsV RX6 163 RX6 yX6_link wsX6_link) := goodIn_app (goodIn_of _ (by decide +kernel)) ggX6_half_X6_link
set_option maxRecDepth 20000 in
theorem ggX6_half_X6_gets : GoodIn wsX6_half wsX6_gets := goodIn_r _ [79, 35, 36, 80, 81, 82, 83, 84, 85, 86, 87, 88, 89, 90, 91, 92, 93, 94, 95, 96] (by decide +kernel) (by decide +kernel)
set_option maxRecDepth 20000 in
theorem gX6_half_X6_gets : GoodIn wsX6_half (wsV RX6 147 RX6 yX6_gets wsX6_gets) := goodIn_app (goodIn_of _ (by decide +kernel)) ggX6_half_X6_gets
theorem dX6_half_0 : decode cX6_half 0 = .ok (.iload 4, 2) := by decide +kernel
theorem dX6_half_2 : decode cX6_half 2 = .ok (.ifCond .lt 14, 3) := by decide +kernel
theorem dX6_half_5 : decode cX6_half 5 = .ok (.aload_n 0, 1) := by decide +kernel
theorem dX6_half_6 : decode cX6_half 6 = .ok (.iload_n 1, 1) := by decide +kernel
theorem dX6_half_7 : decode cX6_half 7 = .ok (.iload_n 2, 1) := by decide +kernel
theorem dX6_half_8 : decode cX6_half 8 = .ok (.iload_n 3, 1) := by decide +kernel
theorem dX6_half_9 : decode cX6_half 9 = .ok (.invokevirtual 163, 3) := by decide +kernel
theorem dX6_half_12 : decode cX6_half 12 = .ok (.iconst 1, 1) := by decide +kernel
theorem dX6_half_13 : decode cX6_half 13 = .ok (.if_icmp .eq 5, 3) := by decide +kernel
theorem dX6_half_16 : decode cX6_half 16 = .ok (.iconst (-1), 1) := by decide +kernel
theorem dX6_half_17 : decode cX6_half 17 = .ok (.ireturn, 1) := by decide +kernel
theorem dX6_half_18 : decode cX6_half 18 = .ok (.iconst 0, 1) := by decide +kernel
theorem dX6_half_19 : decode cX6_half 19 = .ok (.istore 5, 2) := by decide +kernel
theorem dX6_half_21 : decode cX6_half 21 = .ok (.iconst 0, 1) := by decide +kernel
theorem dX6_half_22 : decode cX6_half 22 = .ok (.istore 6, 2) := by decide +kernel
theorem dX6_half_24 : decode cX6_half 24 = .ok (.iload 6, 2) := by decide +kernel
theorem dX6_half_26 : decode cX6_half 26 = .ok (.aload_n 0, 1) := by decide +kernel
theorem dX6_half_27 : decode cX6_half 27 = .ok (.getfield 130, 3) := by decide +kernel
theorem dX6_half_30 : decode cX6_half 30 = .ok (.if_icmp .ge 49, 3) := by decide +kernel
theorem dX6_half_33 : decode cX6_half 33 = .ok (.aload_n 0, 1) := by decide +kernel
theorem dX6_half_34 : decode cX6_half 34 = .ok (.iload_n 1, 1) := by decide +kernel
theorem dX6_half_35 : decode cX6_half 35 = .ok (.aload_n 0, 1) := by decide +kernel
theorem dX6_half_36 : decode cX6_half 36 = .ok (.getfield 43, 3) := by decide +kernel
theorem dX6_half_39 : decode cX6_half 39 = .ok (.iload 6, 2) := by decide +kernel
theorem dX6_half_41 : decode cX6_half 41 = .ok (.iaload, 1) := by decide +kernel
theorem dX6_half_42 : decode cX6_half 42 = .ok (.imul, 1) := by decide +kernel
theorem dX6_half_43 : decode cX6_half 43 = .ok (.iconst 3, 1) := by decide +kernel
theorem dX6_half_44 : decode cX6_half 44 = .ok (.iload_n 1, 1) := by decide +kernel
theorem dX6_half_45 : decode cX6_half 45 = .ok (.isub, 1) := by decide +kernel
theorem dX6_half_46 : decode cX6_half 46 = .ok (.invokevirtual 147, 3) := by decide +kernel
theorem dX6_half_49 : decode cX6_half 49 = .ok (.ifCond .ne 6, 3) := by decide +kernel
theorem dX6_half_52 : decode cX6_half 52 = .ok (.goto 21, 3) := by decide +kernel
theorem dX6_half_55 : decode cX6_half 55 = .ok (.iload 5, 2) := by decide +kernel
theorem dX6_half_57 : decode cX6_half 57 = .ok (.iload 4, 2) := by decide +kernel
theorem dX6_half_59 : decode cX6_half 59 = .ok (.if_icmp .ne 11, 3) := by decide +kernel
theorem dX6_half_62 : decode cX6_half 62 = .ok (.aload_n 0, 1) := by decide +kernel
theorem dX6_half_63 : decode cX6_half 63 = .ok (.getfield 40, 3) := by decide +kernel
theorem dX6_half_66 : decode cX6_half 66 = .ok (.iload 6, 2) := by decide +kernel
theorem dX6_half_68 : decode cX6_half 68 = .ok (.iaload, 1) := by decide +kernel
theorem dX6_half_69 : decode cX6_half 69 = .ok (.ireturn, 1) := by decide +kernel
theorem dX6_half_70 : decode cX6_half 70 = .ok (.iinc 5 1, 3) := by decide +kernel
theorem dX6_half_73 : decode cX6_half 73 = .ok (.iinc 6 1, 3) := by decide +kernel
theorem dX6_half_76 : decode cX6_half 76 = .ok (.goto (-52), 3) := by decide +kernel
theorem dX6_half_79 : decode cX6_half 79 = .ok (.iconst (-1), 1) := by decide +kernel
theorem dX6_half_80 : decode cX6_half 80 = .ok (.ireturn, 1) := by decide +kernel
set_option maxRecDepth 20000 in
theorem ggX6_count_X6_fields : GoodIn wsX6_count wsX6_fields := goodIn_r _ [12, 1, 2, 99, 100, 101, 102, 103, 104, 105, 106, 107, 108, 109, 110, 111, 112, 113, 114, 115] (by decide +kernel) (by decide +kernel)
set_option maxRecDepth 20000 in
theorem gX6_count_X6_fields : GoodIn wsX6_count (wsV RX6 56 RX6 yX6_fields wsX6_fields) := goodIn_app (goodIn_of _ (by decide +kernel)) ggX6_count_X6_fields
set_option maxRecDepth 20000 in
theorem ggX6_count_X6_groups : GoodIn wsX6_count wsX6_groups := goodIn_r _ [16, 3, 8, 9, 10, 11, 12, 1, 2, 17, 18, 19, 20, 21, 22, 23, 24, 25, 26, 27, 28, 29, 30, 31, 32, 33, 34, 35, 36, 37, 38, 39, 40, 41, 42, 43, 44, 45, 46, 47, 48, 99, 100, 101, 102, 103, 104, 105, 106, 107, 108, 109, 110, 111, 112, 113, 114, 115] (by decide +kernel) (by decide +kernel)
set_option maxRecDepth 20000 in
theorem gX6_count_X6_groups : GoodIn wsX6_count (wsV RX6 167 RX6 yX6_groups wsX6_groups) := goodIn_app (goodIn_of _ (by decide +kernel)) ggX6_count_X6_groups
set_option maxRecDepth 20000 in
theorem ggX6_count_X6_opens : GoodIn wsX6_count wsX6_opens := goodIn_r _ [52, 7, 3, 53, 54, 8, 9, 10, 11, 12, 1, 2, 99, 100, 101, 102, 103, 104, 105, 106, 107, 108, 109, 110, 111, 112, 113, 114, 115] (by decide +kernel) (by decide +kernel)
set_option maxRecDepth 20000 in
theorem gX6_count_X6_opens : GoodIn wsX6_count (wsV RX6 139 RX6 yX6_opens wsX6_opens) := goodIn_app (goodIn_of _ (by decide +kernel)) ggX6_count_X6_opens
set_option maxRecDepth 20000 in
theorem ggX6_count_X6_fillings0 : GoodIn wsX6_count wsX6_fillings0 := goodIn_r _ [58, 7, 59, 60, 61, 62, 11, 63, 54, 64, 65, 66, 67, 3, 53, 68, 69, 70, 71, 21, 8, 9, 10, 12, 1, 2, 72, 73, 74, 75, 76, 77, 78, 41, 42, 43, 44, 45, 46, 47, 48, 30, 31, 32, 79, 80, 81, 99, 100, 101, 102, 103, 104, 105, 106, 107, 108, 109, 110, 111, 112, 113, 114, 115] (by decide +kernel) (by decide +kernel)
set_option maxRecDepth 20000 in
theorem gX6_count_X6_fillings0 : GoodIn wsX6_count (wsV RX6 154 RX6 yX6_fillings0 wsX6_fillings0) := goodIn_app (goodIn_of _ (by decide +kernel)) ggX6_count_X6_fillings0
set_option maxRecDepth 20000 in
theorem ggX6_count_X6_isDead : GoodIn wsX6_count wsX6_isDead := goodIn_r _ [85, 7, 59, 99, 100, 101, 102, 103, 104, 105, 106, 107, 108, 109, 110, 111, 112, 113, 114, 115] (by decide +kernel) (by decide +kernel)
set_option maxRecDepth 20000 in
theorem gX6_count_X6_isDead : GoodIn wsX6_count (wsV RX6 157 RX6 yX6_isDead wsX6_isDead) := goodIn_app (goodIn_of _ (by decide +kernel)) ggX6_count_X6_isDead
set_option maxRecDepth 20000 in
theorem ggX6_count_X6_wayLong : GoodIn wsX6_count wsX6_wayLong := goodIn_r _ [89, 90, 91, 92, 93, 11, 94, 68, 69, 70, 71, 21, 3, 8, 9, 10, 12, 1, 2, 72, 73, 74, 75, 76, 77, 78, 41, 42, 43, 44, 45, 46, 47, 48, 30, 31, 32, 79, 80, 81, 95, 96, 97, 98, 99, 100, 101, 102, 103, 104, 105, 106, 107, 108, 109, 110, 111, 112, 113, 114, 115] (by decide +kernel) (by decide +kernel)
set_option maxRecDepth 20000 in
theorem gX6_count_X6_wayLong : GoodIn wsX6_count (wsV RX6 127 RX6 yX6_wayLong wsX6_wayLong) := goodIn_app (goodIn_of _ (by decide +kernel)) ggX6_count_X6_wayLong
theorem dX6_count_0 : decode cX6_count 0 = .ok (.iconst 0, 1) := by decide +kernel
theorem dX6_count_1 : decode cX6_count 1 = .ok (.istore_n 2, 1) := by decide +kernel
theorem dX6_count_2 : decode cX6_count 2 = .ok (.iload_n 1, 1) := by decide +kernel
theorem dX6_count_3 : decode cX6_count 3 = .ok (.tableswitch 177 0 9 #[53, 58, 63, 98, 103, 108, 113, 119, 125, 172], 53) := by decide +kernel
theorem dX6_count_56 : decode cX6_count 56 = .ok (.aload_n 0, 1) := by decide +kernel
theorem dX6_count_57 : decode cX6_count 57 = .ok (.getfield 7, 3) := by decide +kernel
theorem dX6_count_60 : decode cX6_count 60 = .ok (.ireturn, 1) := by decide +kernel
theorem dX6_count_61 : decode cX6_count 61 = .ok (.aload_n 0, 1) := by decide +kernel
theorem dX6_count_62 : decode cX6_count 62 = .ok (.getfield 13, 3) := by decide +kernel
theorem dX6_count_65 : decode cX6_count 65 = .ok (.ireturn, 1) := by decide +kernel
theorem dX6_count_66 : decode cX6_count 66 = .ok (.iconst 0, 1) := by decide +kernel
theorem dX6_count_67 : decode cX6_count 67 = .ok (.istore_n 3, 1) := by decide +kernel
theorem dX6_count_68 : decode cX6_count 68 = .ok (.iload_n 3, 1) := by decide +kernel
theorem dX6_count_69 : decode cX6_count 69 = .ok (.aload_n 0, 1) := by decide +kernel
theorem dX6_count_70 : decode cX6_count 70 = .ok (.invokevirtual 56, 3) := by decide +kernel
theorem dX6_count_73 : decode cX6_count 73 = .ok (.if_icmp .ge 26, 3) := by decide +kernel
theorem dX6_count_76 : decode cX6_count 76 = .ok (.iload_n 2, 1) := by decide +kernel
theorem dX6_count_77 : decode cX6_count 77 = .ok (.aload_n 0, 1) := by decide +kernel
theorem dX6_count_78 : decode cX6_count 78 = .ok (.getfield 19, 3) := by decide +kernel
theorem dX6_count_81 : decode cX6_count 81 = .ok (.iload_n 3, 1) := by decide +kernel
theorem dX6_count_82 : decode cX6_count 82 = .ok (.iaload, 1) := by decide +kernel
theorem dX6_count_83 : decode cX6_count 83 = .ok (.ifCond .ne 7, 3) := by decide +kernel
theorem dX6_count_86 : decode cX6_count 86 = .ok (.iconst 1, 1) := by decide +kernel
theorem dX6_count_87 : decode cX6_count 87 = .ok (.goto 4, 3) := by decide +kernel
theorem dX6_count_90 : decode cX6_count 90 = .ok (.iconst 0, 1) := by decide +kernel
theorem dX6_count_91 : decode cX6_count 91 = .ok (.iadd, 1) := by decide +kernel
theorem dX6_count_92 : decode cX6_count 92 = .ok (.istore_n 2, 1) := by decide +kernel
theorem dX6_count_93 : decode cX6_count 93 = .ok (.iinc 3 1, 3) := by decide +kernel
theorem dX6_count_96 : decode cX6_count 96 = .ok (.goto (-28), 3) := by decide +kernel
theorem dX6_count_99 : decode cX6_count 99 = .ok (.iload_n 2, 1) := by decide +kernel
theorem dX6_count_100 : decode cX6_count 100 = .ok (.ireturn, 1) := by decide +kernel
theorem dX6_count_101 : decode cX6_count 101 = .ok (.aload_n 0, 1) := by decide +kernel
theorem dX6_count_102 : decode cX6_count 102 = .ok (.getfield 16, 3) := by decide +kernel
theorem dX6_count_105 : decode cX6_count 105 = .ok (.ireturn, 1) := by decide +kernel
theorem dX6_count_106 : decode cX6_count 106 = .ok (.aload_n 0, 1) := by decide +kernel
theorem dX6_count_107 : decode cX6_count 107 = .ok (.getfield 64, 3) := by decide +kernel
theorem dX6_count_110 : decode cX6_count 110 = .ok (.ireturn, 1) := by decide +kernel
theorem dX6_count_111 : decode cX6_count 111 = .ok (.aload_n 0, 1) := by decide +kernel
theorem dX6_count_112 : decode cX6_count 112 = .ok (.getfield 67, 3) := by decide +kernel
theorem dX6_count_115 : decode cX6_count 115 = .ok (.ireturn, 1) := by decide +kernel
theorem dX6_count_116 : decode cX6_count 116 = .ok (.aload_n 0, 1) := by decide +kernel
theorem dX6_count_117 : decode cX6_count 117 = .ok (.iconst 1, 1) := by decide +kernel
theorem dX6_count_118 : decode cX6_count 118 = .ok (.invokevirtual 167, 3) := by decide +kernel
theorem dX6_count_121 : decode cX6_count 121 = .ok (.ireturn, 1) := by decide +kernel
theorem dX6_count_122 : decode cX6_count 122 = .ok (.aload_n 0, 1) := by decide +kernel
theorem dX6_count_123 : decode cX6_count 123 = .ok (.iconst 2, 1) := by decide +kernel
theorem dX6_count_124 : decode cX6_count 124 = .ok (.invokevirtual 167, 3) := by decide +kernel
theorem dX6_count_127 : decode cX6_count 127 = .ok (.ireturn, 1) := by decide +kernel
theorem dX6_count_128 : decode cX6_count 128 = .ok (.aload_n 0, 1) := by decide +kernel
theorem dX6_count_129 : decode cX6_count 129 = .ok (.invokevirtual 139, 3) := by decide +kernel
theorem dX6_count_132 : decode cX6_count 132 = .ok (.ifCond .ne 5, 3) := by decide +kernel
theorem dX6_count_135 : decode cX6_count 135 = .ok (.iconst (-1), 1) := by decide +kernel
theorem dX6_count_136 : decode cX6_count 136 = .ok (.ireturn, 1) := by decide +kernel
theorem dX6_count_137 : decode cX6_count 137 = .ok (.aload_n 0, 1) := by decide +kernel
theorem dX6_count_138 : decode cX6_count 138 = .ok (.invokevirtual 154, 3) := by decide +kernel
theorem dX6_count_141 : decode cX6_count 141 = .ok (.iconst 0, 1) := by decide +kernel
theorem dX6_count_142 : decode cX6_count 142 = .ok (.istore_n 3, 1) := by decide +kernel
theorem dX6_count_143 : decode cX6_count 143 = .ok (.iload_n 3, 1) := by decide +kernel
theorem dX6_count_144 : decode cX6_count 144 = .ok (.aload_n 0, 1) := by decide +kernel
theorem dX6_count_145 : decode cX6_count 145 = .ok (.getfield 130, 3) := by decide +kernel
theorem dX6_count_148 : decode cX6_count 148 = .ok (.if_icmp .ge 25, 3) := by decide +kernel
theorem dX6_count_151 : decode cX6_count 151 = .ok (.iload_n 2, 1) := by decide +kernel
theorem dX6_count_152 : decode cX6_count 152 = .ok (.aload_n 0, 1) := by decide +kernel
theorem dX6_count_153 : decode cX6_count 153 = .ok (.iload_n 3, 1) := by decide +kernel
theorem dX6_count_154 : decode cX6_count 154 = .ok (.invokevirtual 157, 3) := by decide +kernel
theorem dX6_count_157 : decode cX6_count 157 = .ok (.ifCond .eq 7, 3) := by decide +kernel
theorem dX6_count_160 : decode cX6_count 160 = .ok (.iconst 1, 1) := by decide +kernel
theorem dX6_count_161 : decode cX6_count 161 = .ok (.goto 4, 3) := by decide +kernel
theorem dX6_count_164 : decode cX6_count 164 = .ok (.iconst 0, 1) := by decide +kernel
theorem dX6_count_165 : decode cX6_count 165 = .ok (.iadd, 1) := by decide +kernel
theorem dX6_count_166 : decode cX6_count 166 = .ok (.istore_n 2, 1) := by decide +kernel
theorem dX6_count_167 : decode cX6_count 167 = .ok (.iinc 3 1, 3) := by decide +kernel
theorem dX6_count_170 : decode cX6_count 170 = .ok (.goto (-27), 3) := by decide +kernel
theorem dX6_count_173 : decode cX6_count 173 = .ok (.iload_n 2, 1) := by decide +kernel
theorem dX6_count_174 : decode cX6_count 174 = .ok (.ireturn, 1) := by decide +kernel
theorem dX6_count_175 : decode cX6_count 175 = .ok (.aload_n 0, 1) := by decide +kernel
theorem dX6_count_176 : decode cX6_count 176 = .ok (.invokevirtual 127, 3) := by decide +kernel
theorem dX6_count_179 : decode cX6_count 179 = .ok (.ireturn, 1) := by decide +kernel
theorem dX6_count_180 : decode cX6_count 180 = .ok (.iconst (-1), 1) := by decide +kernel
theorem dX6_count_181 : decode cX6_count 181 = .ok (.ireturn, 1) := by decide +kernel
theorem dJ13_bitCount_95d88_0 : decode cJ13_bitCount_95d88 0 = .ok (.lload_n 0, 1) := by decide +kernel
theorem dJ13_bitCount_95d88_1 : decode cJ13_bitCount_95d88 1 = .ok (.lload_n 0, 1) := by decide +kernel
theorem dJ13_bitCount_95d88_2 : decode cJ13_bitCount_95d88 2 = .ok (.iconst 1, 1) := by decide +kernel
theorem dJ13_bitCount_95d88_3 : decode cJ13_bitCount_95d88 3 = .ok (.lushr, 1) := by decide +kernel
theorem dJ13_bitCount_95d88_4 : decode cJ13_bitCount_95d88 4 = .ok (.ldc2_w 314, 3) := by decide +kernel
theorem dJ13_bitCount_95d88_7 : decode cJ13_bitCount_95d88 7 = .ok (.land, 1) := by decide +kernel
theorem dJ13_bitCount_95d88_8 : decode cJ13_bitCount_95d88 8 = .ok (.lsub, 1) := by decide +kernel
theorem dJ13_bitCount_95d88_9 : decode cJ13_bitCount_95d88 9 = .ok (.lstore_n 0, 1) := by decide +kernel
theorem dJ13_bitCount_95d88_10 : decode cJ13_bitCount_95d88 10 = .ok (.lload_n 0, 1) := by decide +kernel
theorem dJ13_bitCount_95d88_11 : decode cJ13_bitCount_95d88 11 = .ok (.ldc2_w 316, 3) := by decide +kernel
theorem dJ13_bitCount_95d88_14 : decode cJ13_bitCount_95d88 14 = .ok (.land, 1) := by decide +kernel
theorem dJ13_bitCount_95d88_15 : decode cJ13_bitCount_95d88 15 = .ok (.lload_n 0, 1) := by decide +kernel
theorem dJ13_bitCount_95d88_16 : decode cJ13_bitCount_95d88 16 = .ok (.iconst 2, 1) := by decide +kernel
theorem dJ13_bitCount_95d88_17 : decode cJ13_bitCount_95d88 17 = .ok (.lushr, 1) := by decide +kernel
theorem dJ13_bitCount_95d88_18 : decode cJ13_bitCount_95d88 18 = .ok (.ldc2_w 316, 3) := by decide +kernel
theorem dJ13_bitCount_95d88_21 : decode cJ13_bitCount_95d88 21 = .ok (.land, 1) := by decide +kernel
theorem dJ13_bitCount_95d88_22 : decode cJ13_bitCount_95d88 22 = .ok (.ladd, 1) := by decide +kernel
theorem dJ13_bitCount_95d88_23 : decode cJ13_bitCount_95d88 23 = .ok (.lstore_n 0, 1) := by decide +kernel
theorem dJ13_bitCount_95d88_24 : decode cJ13_bitCount_95d88 24 = .ok (.lload_n 0, 1) := by decide +kernel
theorem dJ13_bitCount_95d88_25 : decode cJ13_bitCount_95d88 25 = .ok (.lload_n 0, 1) := by decide +kernel
theorem dJ13_bitCount_95d88_26 : decode cJ13_bitCount_95d88 26 = .ok (.iconst 4, 1) := by decide +kernel
theorem dJ13_bitCount_95d88_27 : decode cJ13_bitCount_95d88 27 = .ok (.lushr, 1) := by decide +kernel
theorem dJ13_bitCount_95d88_28 : decode cJ13_bitCount_95d88 28 = .ok (.ladd, 1) := by decide +kernel
theorem dJ13_bitCount_95d88_29 : decode cJ13_bitCount_95d88 29 = .ok (.ldc2_w 318, 3) := by decide +kernel
theorem dJ13_bitCount_95d88_32 : decode cJ13_bitCount_95d88 32 = .ok (.land, 1) := by decide +kernel
theorem dJ13_bitCount_95d88_33 : decode cJ13_bitCount_95d88 33 = .ok (.lstore_n 0, 1) := by decide +kernel
theorem dJ13_bitCount_95d88_34 : decode cJ13_bitCount_95d88 34 = .ok (.lload_n 0, 1) := by decide +kernel
theorem dJ13_bitCount_95d88_35 : decode cJ13_bitCount_95d88 35 = .ok (.lload_n 0, 1) := by decide +kernel
theorem dJ13_bitCount_95d88_36 : decode cJ13_bitCount_95d88 36 = .ok (.bipush 8, 2) := by decide +kernel
theorem dJ13_bitCount_95d88_38 : decode cJ13_bitCount_95d88 38 = .ok (.lushr, 1) := by decide +kernel
theorem dJ13_bitCount_95d88_39 : decode cJ13_bitCount_95d88 39 = .ok (.ladd, 1) := by decide +kernel
theorem dJ13_bitCount_95d88_40 : decode cJ13_bitCount_95d88 40 = .ok (.lstore_n 0, 1) := by decide +kernel
theorem dJ13_bitCount_95d88_41 : decode cJ13_bitCount_95d88 41 = .ok (.lload_n 0, 1) := by decide +kernel
theorem dJ13_bitCount_95d88_42 : decode cJ13_bitCount_95d88 42 = .ok (.lload_n 0, 1) := by decide +kernel
theorem dJ13_bitCount_95d88_43 : decode cJ13_bitCount_95d88 43 = .ok (.bipush 16, 2) := by decide +kernel
theorem dJ13_bitCount_95d88_45 : decode cJ13_bitCount_95d88 45 = .ok (.lushr, 1) := by decide +kernel
theorem dJ13_bitCount_95d88_46 : decode cJ13_bitCount_95d88 46 = .ok (.ladd, 1) := by decide +kernel
theorem dJ13_bitCount_95d88_47 : decode cJ13_bitCount_95d88 47 = .ok (.lstore_n 0, 1) := by decide +kernel
theorem dJ13_bitCount_95d88_48 : decode cJ13_bitCount_95d88 48 = .ok (.lload_n 0, 1) := by decide +kernel
theorem dJ13_bitCount_95d88_49 : decode cJ13_bitCount_95d88 49 = .ok (.lload_n 0, 1) := by decide +kernel
theorem dJ13_bitCount_95d88_50 : decode cJ13_bitCount_95d88 50 = .ok (.bipush 32, 2) := by decide +kernel
theorem dJ13_bitCount_95d88_52 : decode cJ13_bitCount_95d88 52 = .ok (.lushr, 1) := by decide +kernel
theorem dJ13_bitCount_95d88_53 : decode cJ13_bitCount_95d88 53 = .ok (.ladd, 1) := by decide +kernel
theorem dJ13_bitCount_95d88_54 : decode cJ13_bitCount_95d88 54 = .ok (.lstore_n 0, 1) := by decide +kernel
theorem dJ13_bitCount_95d88_55 : decode cJ13_bitCount_95d88 55 = .ok (.lload_n 0, 1) := by decide +kernel
theorem dJ13_bitCount_95d88_56 : decode cJ13_bitCount_95d88 56 = .ok (.l2i, 1) := by decide +kernel
theorem dJ13_bitCount_95d88_57 : decode cJ13_bitCount_95d88 57 = .ok (.bipush 127, 2) := by decide +kernel
theorem dJ13_bitCount_95d88_59 : decode cJ13_bitCount_95d88 59 = .ok (.iand, 1) := by decide +kernel
theorem dJ13_bitCount_95d88_60 : decode cJ13_bitCount_95d88 60 = .ok (.ireturn, 1) := by decide +kernel
theorem dJ9_max_7cf53_0 : decode cJ9_max_7cf53 0 = .ok (.iload_n 0, 1) := by decide +kernel
theorem dJ9_max_7cf53_1 : decode cJ9_max_7cf53 1 = .ok (.iload_n 1, 1) := by decide +kernel
theorem dJ9_max_7cf53_2 : decode cJ9_max_7cf53 2 = .ok (.if_icmp .lt 7, 3) := by decide +kernel
theorem dJ9_max_7cf53_5 : decode cJ9_max_7cf53 5 = .ok (.iload_n 0, 1) := by decide +kernel
theorem dJ9_max_7cf53_6 : decode cJ9_max_7cf53 6 = .ok (.goto 4, 3) := by decide +kernel
theorem dJ9_max_7cf53_9 : decode cJ9_max_7cf53 9 = .ok (.iload_n 1, 1) := by decide +kernel
theorem dJ9_max_7cf53_10 : decode cJ9_max_7cf53 10 = .ok (.ireturn, 1) := by decide +kernel
theorem dJ9_min_7cf53_0 : decode cJ9_min_7cf53 0 = .ok (.iload_n 0, 1) := by decide +kernel
theorem dJ9_min_7cf53_1 : decode cJ9_min_7cf53 1 = .ok (.iload_n 1, 1) := by decide +kernel
theorem dJ9_min_7cf53_2 : decode cJ9_min_7cf53 2 = .ok (.if_icmp .gt 7, 3) := by decide +kernel
theorem dJ9_min_7cf53_5 : decode cJ9_min_7cf53 5 = .ok (.iload_n 0, 1) := by decide +kernel
theorem dJ9_min_7cf53_6 : decode cJ9_min_7cf53 6 = .ok (.goto 4, 3) := by decide +kernel
theorem dJ9_min_7cf53_9 : decode cJ9_min_7cf53 9 = .ok (.iload_n 1, 1) := by decide +kernel
theorem dJ9_min_7cf53_10 : decode cJ9_min_7cf53 10 = .ok (.ireturn, 1) := by decide +kernel
theorem dJ7_fill_d0a16_0 : decode cJ7_fill_d0a16 0 = .ok (.iconst 0, 1) := by decide +kernel
theorem dJ7_fill_d0a16_1 : decode cJ7_fill_d0a16 1 = .ok (.istore_n 3, 1) := by decide +kernel
theorem dJ7_fill_d0a16_2 : decode cJ7_fill_d0a16 2 = .ok (.aload_n 0, 1) := by decide +kernel
theorem dJ7_fill_d0a16_3 : decode cJ7_fill_d0a16 3 = .ok (.arraylength, 1) := by decide +kernel
theorem dJ7_fill_d0a16_4 : decode cJ7_fill_d0a16 4 = .ok (.istore 4, 2) := by decide +kernel
theorem dJ7_fill_d0a16_6 : decode cJ7_fill_d0a16 6 = .ok (.iload_n 3, 1) := by decide +kernel
theorem dJ7_fill_d0a16_7 : decode cJ7_fill_d0a16 7 = .ok (.iload 4, 2) := by decide +kernel
theorem dJ7_fill_d0a16_9 : decode cJ7_fill_d0a16 9 = .ok (.if_icmp .ge 13, 3) := by decide +kernel
theorem dJ7_fill_d0a16_12 : decode cJ7_fill_d0a16 12 = .ok (.aload_n 0, 1) := by decide +kernel
theorem dJ7_fill_d0a16_13 : decode cJ7_fill_d0a16 13 = .ok (.iload_n 3, 1) := by decide +kernel
theorem dJ7_fill_d0a16_14 : decode cJ7_fill_d0a16 14 = .ok (.lload_n 1, 1) := by decide +kernel
theorem dJ7_fill_d0a16_15 : decode cJ7_fill_d0a16 15 = .ok (.lastore, 1) := by decide +kernel
theorem dJ7_fill_d0a16_16 : decode cJ7_fill_d0a16 16 = .ok (.iinc 3 1, 3) := by decide +kernel
theorem dJ7_fill_d0a16_19 : decode cJ7_fill_d0a16 19 = .ok (.goto (-13), 3) := by decide +kernel
theorem dJ7_fill_d0a16_22 : decode cJ7_fill_d0a16 22 = .ok (.return_, 1) := by decide +kernel
set_option maxRecDepth 20000 in
theorem ggL_law_X5_init : GoodIn wsL_law wsX5_init := goodIn_r _ [8, 9, 10, 11, 12, 13, 14, 15, 16, 17, 18, 19, 20, 21, 22, 23, 24, 25, 26, 27, 28, 29, 30, 31, 32, 33, 34, 35, 36, 37, 38, 39, 40, 41, 42, 43, 44, 45, 46, 47, 48, 49, 50, 51, 52, 53, 54, 55, 56, 57, 58, 59, 60, 61, 62, 63, 64, 2, 65, 66, 67, 68, 69, 70, 71, 72, 73, 74, 75, 76, 77, 78, 79, 80, 81, 82, 83, 84, 85, 86, 87, 88, 671, 672, 673, 674, 675, 676, 677, 645, 646, 647, 648, 649, 650, 651, 652, 653, 678, 679, 680, 681, 682, 683, 684, 685, 686, 687, 688, 689, 690, 691, 692, 693, 694, 695, 696, 697, 698, 699] (by decide +kernel) (by decide +kernel)
set_option maxRecDepth 20000 in
theorem gL_law_X5_init : GoodIn wsL_law (wsX5_init) := ggL_law_X5_init
set_option maxRecDepth 20000 in
theorem ggL_law_X6_init : GoodIn wsL_law wsX6_init := goodIn_r _ [91, 92, 10, 11, 93, 94, 95, 35, 96, 97, 98, 99, 100, 101, 102, 103, 104, 105, 106, 107, 108, 654, 655, 656, 657, 658, 659, 660, 661, 662, 663, 664, 665, 666, 667, 668, 669, 670] (by decide +kernel) (by decide +kernel)
set_option maxRecDepth 20000 in
theorem gL_law_X6_init : GoodIn wsL_law (wsX6_init) := ggL_law_X6_init
set_option maxRecDepth 20000 in
theorem ggL_law_X5_board : GoodIn wsL_law wsX5_board := goodIn_r _ [112, 113, 114, 2, 115, 62, 63, 64, 65, 15, 66, 67, 68, 69, 19, 70, 71, 72, 14, 73, 74, 75, 76, 77, 78, 79, 80, 81, 82, 83, 84, 85, 18, 86, 87, 88, 645, 646, 647, 648, 649, 650, 651, 652, 653, 671, 672, 673, 674, 675, 676, 677, 678, 679, 680] (by decide +kernel) (by decide +kernel)
set_option maxRecDepth 20000 in
theorem gL_law_X5_board : GoodIn wsL_law (wsV RL 13 RX5 yX5_board wsX5_board) := goodIn_app (goodIn_of _ (by decide +kernel)) ggL_law_X5_board
set_option maxRecDepth 20000 in
theorem ggL_law_X6_board : GoodIn wsL_law wsX6_board := goodIn_r _ [119, 93, 94, 96, 95, 98, 120, 121, 5, 122, 123, 124, 125, 126, 127, 128, 654, 655, 656, 657, 658, 659, 660, 661, 662, 663, 664, 665, 666, 667, 668, 669, 670] (by decide +kernel) (by decide +kernel)
set_option maxRecDepth 20000 in
theorem gL_law_X6_board : GoodIn wsL_law (wsV RL 17 RX6 yX6_board wsX6_board) := goodIn_app (goodIn_of _ (by decide +kernel)) ggL_law_X6_board
set_option maxRecDepth 20000 in
theorem ggL_law_X5_set : GoodIn wsL_law wsX5_set := goodIn_r _ [132, 15, 68, 69, 19, 133, 134, 2, 135, 136, 137, 138, 14, 139, 74, 75, 140, 141, 142, 143, 66, 144, 67, 145, 81, 82, 83, 84, 85, 18, 86, 87, 88, 645, 646, 647, 648, 649, 650, 651, 652, 653, 671, 672, 673, 674, 675, 676, 677, 678, 679, 680] (by decide +kernel) (by decide +kernel)
set_option maxRecDepth 20000 in
theorem gL_law_X5_set : GoodIn wsL_law (wsV RL 18 RX5 yX5_set wsX5_set) := goodIn_app (goodIn_of _ (by decide +kernel)) ggL_law_X5_set
set_option maxRecDepth 20000 in
theorem ggL_law_X6_set : GoodIn wsL_law wsX6_set := goodIn_r _ [149, 96, 95, 98, 150, 151, 152, 5, 153, 154, 155, 156, 157, 93, 94, 120, 121, 122, 123, 124, 125, 126, 127, 128, 654, 655, 656, 657, 658, 659, 660, 661, 662, 663, 664, 665, 666, 667, 668, 669, 670] (by decide +kernel) (by decide +kernel)
set_option maxRecDepth 20000 in
theorem gL_law_X6_set : GoodIn wsL_law (wsV RL 22 RX6 yX6_set wsX6_set) := goodIn_app (goodIn_of _ (by decide +kernel)) ggL_law_X6_set
set_option maxRecDepth 20000 in
theorem ggL_law_X5_lay : GoodIn wsL_law wsX5_lay := goodIn_r _ [161, 15, 19, 136, 137, 138, 14, 139, 74, 75, 162, 163, 164, 2, 165, 66, 67, 145, 81, 82, 166, 167, 168, 169, 170, 171, 172, 173, 77, 174, 175, 176, 177, 78, 178, 179, 180, 181, 182, 183, 184, 185, 186, 187, 188, 189, 80, 190, 79, 76, 191, 192, 193, 194, 195, 196, 197, 198, 199, 200, 201, 18, 202, 87, 36, 88, 203, 204, 205, 206, 68, 140, 141, 142, 143, 144, 207, 208, 209, 645, 646, 647, 648, 649, 650, 651, 652, 653, 671, 672, 673, 674, 675, 676, 677, 678, 679, 680] (by decide +kernel) (by decide +kernel)
set_option maxRecDepth 20000 in
theorem gL_law_X5_lay : GoodIn wsL_law (wsV RL 23 RX5 yX5_lay wsX5_lay) := goodIn_app (goodIn_of _ (by decide +kernel)) ggL_law_X5_lay
set_option maxRecDepth 20000 in
theorem ggL_law_X6_lay : GoodIn wsL_law wsX6_lay := goodIn_r _ [213, 96, 150, 151, 152, 5, 153, 154, 155, 156, 157, 93, 94, 120, 121, 122, 214, 215, 216, 217, 218, 219, 220, 221, 100, 222, 223, 224, 225, 226, 227, 228, 229, 230, 231, 232, 233, 234, 235, 236, 237, 238, 239, 240, 241, 242, 243, 97, 127, 128, 244, 245, 246, 247, 95, 654, 655, 656, 657, 658, 659, 660, 661, 662, 663, 664, 665, 666, 667, 668, 669, 670] (by decide +kernel) (by decide +kernel)
set_option maxRecDepth 20000 in
theorem gL_law_X6_lay : GoodIn wsL_law (wsV RL 27 RX6 yX6_lay wsX6_lay) := goodIn_app (goodIn_of _ (by decide +kernel)) ggL_law_X6_lay
set_option maxRecDepth 20000 in
theorem ggL_law_X5_swap : GoodIn wsL_law wsX5_swap := goodIn_r _ [251, 69, 15, 19, 252, 253, 254, 14, 255, 74, 256, 257, 258, 259, 75, 260, 261, 262, 18, 263, 87, 166, 167, 168, 2, 169, 66, 67, 170, 171, 172, 173, 77, 174, 175, 176, 177, 78, 178, 179, 180, 181, 182, 183, 184, 185, 186, 187, 188, 189, 80, 190, 79, 76, 191, 192, 193, 194, 195, 196, 197, 198, 199, 200, 201, 202, 36, 88, 264, 265, 266, 267, 68, 268, 269, 270, 271, 81, 82, 645, 646, 647, 648, 649, 650, 651, 652, 653, 671, 672, 673, 674, 675, 676, 677, 678, 679, 680] (by decide +kernel) (by decide +kernel)
set_option maxRecDepth 20000 in
theorem gL_law_X5_swap : GoodIn wsL_law (wsV RL 28 RX5 yX5_swap wsX5_swap) := goodIn_app (goodIn_of _ (by decide +kernel)) ggL_law_X5_swap
set_option maxRecDepth 20000 in
theorem ggL_law_X6_swap : GoodIn wsL_law wsX6_swap := goodIn_r _ [275, 93, 94, 98, 127, 97, 214, 215, 216, 5, 217, 218, 219, 220, 221, 100, 96, 154, 155, 156, 157, 222, 223, 224, 225, 226, 227, 228, 229, 230, 231, 232, 233, 234, 235, 236, 120, 121, 122, 237, 238, 239, 240, 241, 242, 243, 128, 244, 245, 246, 247, 95, 654, 655, 656, 657, 658, 659, 660, 661, 662, 663, 664, 665, 666, 667, 668, 669, 670] (by decide +kernel) (by decide +kernel)
set_option maxRecDepth 20000 in
theorem gL_law_X6_swap : GoodIn wsL_law (wsV RL 32 RX6 yX6_swap wsX6_swap) := goodIn_app (goodIn_of _ (by decide +kernel)) ggL_law_X6_swap
set_option maxRecDepth 20000 in
theorem ggL_law_X5_undo : GoodIn wsL_law wsX5_undo := goodIn_r _ [279, 19, 68, 280, 281, 282, 18, 283, 87, 36, 284, 285, 286, 2, 287, 15, 67, 66, 268, 269, 270, 14, 271, 74, 75, 81, 82, 140, 141, 142, 143, 144, 145, 207, 208, 209, 645, 646, 647, 648, 649, 650, 651, 652, 653, 678, 679, 680, 671, 672, 673, 674, 675, 676, 677] (by decide +kernel) (by decide +kernel)
set_option maxRecDepth 20000 in
theorem gL_law_X5_undo : GoodIn wsL_law (wsV RL 33 RX5 yX5_undo wsX5_undo) := goodIn_app (goodIn_of _ (by decide +kernel)) ggL_law_X5_undo
set_option maxRecDepth 20000 in
theorem ggL_law_X6_undo : GoodIn wsL_law wsX6_undo := goodIn_r _ [291, 127, 128, 97, 292, 293, 294, 5, 295, 96, 95, 94, 654, 655, 656, 657, 658, 659, 660, 661, 662, 663, 664, 665, 666, 667, 668, 669, 670] (by decide +kernel) (by decide +kernel)
set_option maxRecDepth 20000 in
theorem gL_law_X6_undo : GoodIn wsL_law (wsV RL 36 RX6 yX6_undo wsX6_undo) := goodIn_app (goodIn_of _ (by decide +kernel)) ggL_law_X6_undo
set_option maxRecDepth 20000 in
theorem ggL_law_X5_redo : GoodIn wsL_law wsX5_redo := goodIn_r _ [299, 19, 300, 301, 302, 18, 303, 87, 88, 36, 264, 265, 266, 2, 267, 15, 66, 67, 68, 268, 269, 270, 14, 271, 74, 75, 81, 82, 203, 204, 205, 206, 140, 141, 142, 143, 144, 145, 207, 208, 209, 645, 646, 647, 648, 649, 650, 651, 652, 653, 678, 679, 680, 671, 672, 673, 674, 675, 676, 677] (by decide +kernel) (by decide +kernel)
set_option maxRecDepth 20000 in
theorem gL_law_X5_redo : GoodIn wsL_law (wsV RL 37 RX5 yX5_redo wsX5_redo) := goodIn_app (goodIn_of _ (by decide +kernel)) ggL_law_X5_redo
set_option maxRecDepth 20000 in
theorem ggL_law_X6_redo : GoodIn wsL_law wsX6_redo := goodIn_r _ [307, 128, 97, 127, 244, 245, 246, 5, 247, 96, 95, 94, 654, 655, 656, 657, 658, 659, 660, 661, 662, 663, 664, 665, 666, 667, 668, 669, 670] (by decide +kernel) (by decide +kernel)
set_option maxRecDepth 20000 in
theorem gL_law_X6_redo : GoodIn wsL_law (wsV RL 40 RX6 yX6_redo wsX6_redo) := goodIn_app (goodIn_of _ (by decide +kernel)) ggL_law_X6_redo
set_option maxRecDepth 20000 in
theorem ggL_law_X5_change : GoodIn wsL_law wsX5_change := goodIn_r _ [311, 15, 67, 66, 68, 69, 19, 268, 269, 270, 14, 271, 74, 75, 81, 2, 82, 256, 257, 258, 259, 252, 253, 254, 255, 70, 71, 72, 73, 76, 77, 78, 79, 80, 207, 208, 209, 83, 84, 85, 18, 86, 87, 88, 645, 646, 647, 648, 649, 650, 651, 652, 653, 671, 672, 673, 674, 675, 676, 677, 678, 679, 680] (by decide +kernel) (by decide +kernel)
set_option maxRecDepth 20000 in
theorem gL_law_X5_change : GoodIn wsL_law (wsV RL 41 RX5 yX5_change wsX5_change) := goodIn_app (goodIn_of _ (by decide +kernel)) ggL_law_X5_change
set_option maxRecDepth 20000 in
theorem ggL_law_X6_change : GoodIn wsL_law wsX6_change := goodIn_r _ [315, 101, 93, 94, 96, 95, 98, 154, 155, 156, 5, 157, 123, 124, 125, 126, 127, 128, 654, 655, 656, 657, 658, 659, 660, 661, 662, 663, 664, 665, 666, 667, 668, 669, 670] (by decide +kernel) (by decide +kernel)
set_option maxRecDepth 20000 in
theorem gL_law_X6_change : GoodIn wsL_law (wsV RL 44 RX6 yX6_change wsX6_change) := goodIn_app (goodIn_of _ (by decide +kernel)) ggL_law_X6_change
set_option maxRecDepth 20000 in
theorem ggL_law_X5_at : GoodIn wsL_law wsX5_at := goodIn_r _ [319, 15, 136, 137, 138, 14, 139, 74, 75, 162, 163, 164, 2, 165, 66, 67, 145, 81, 82, 645, 646, 647, 648, 649, 650, 651, 652, 653, 671, 672, 673, 674, 675, 676, 677] (by decide +kernel) (by decide +kernel)
set_option maxRecDepth 20000 in
theorem gL_law_X5_at : GoodIn wsL_law (wsV RL 45 RX5 yX5_at wsX5_at) := goodIn_app (goodIn_of _ (by decide +kernel)) ggL_law_X5_at
set_option maxRecDepth 20000 in
theorem ggL_law_X6_at : GoodIn wsL_law wsX6_at := goodIn_r _ [323, 96, 150, 151, 152, 5, 153, 154, 155, 156, 157, 93, 94, 120, 121, 122, 654, 655, 656, 657, 658, 659, 660, 661, 662, 663, 664, 665, 666, 667, 668, 669, 670] (by decide +kernel) (by decide +kernel)
set_option maxRecDepth 20000 in
theorem gL_law_X6_at : GoodIn wsL_law (wsV RL 48 RX6 yX6_at wsX6_at) := goodIn_app (goodIn_of _ (by decide +kernel)) ggL_law_X6_at
set_option maxRecDepth 20000 in
theorem ggL_law_X5_group : GoodIn wsL_law wsX5_group := goodIn_r _ [327, 328, 329, 330, 2, 331, 15, 136, 137, 138, 14, 139, 74, 75, 162, 163, 164, 165, 66, 67, 145, 81, 82, 332, 333, 334, 335, 336, 183, 184, 185, 186, 187, 188, 189, 80, 190, 79, 76, 337, 338, 339, 340, 341, 342, 343, 344, 345, 346, 645, 646, 647, 648, 649, 650, 651, 652, 653, 671, 672, 673, 674, 675, 676, 677] (by decide +kernel) (by decide +kernel)
set_option maxRecDepth 20000 in
theorem gL_law_X5_group : GoodIn wsL_law (wsV RL 49 RX5 yX5_group wsX5_group) := goodIn_app (goodIn_of _ (by decide +kernel)) ggL_law_X5_group
set_option maxRecDepth 20000 in
theorem ggL_law_X6_group : GoodIn wsL_law wsX6_group := goodIn_r _ [350, 100, 351, 352, 353, 5, 354, 96, 150, 151, 152, 153, 154, 155, 156, 157, 93, 94, 120, 121, 122, 355, 356, 357, 358, 359, 360, 361, 362, 229, 230, 231, 232, 233, 234, 235, 236, 654, 655, 656, 657, 658, 659, 660, 661, 662, 663, 664, 665, 666, 667, 668, 669, 670] (by decide +kernel) (by decide +kernel)
set_option maxRecDepth 20000 in
theorem gL_law_X6_group : GoodIn wsL_law (wsV RL 52 RX6 yX6_group wsX6_group) := goodIn_app (goodIn_of _ (by decide +kernel)) ggL_law_X6_group
set_option maxRecDepth 20000 in
theorem ggL_law_X5_look : GoodIn wsL_law wsX5_look := goodIn_r _ [366, 15, 328, 329, 330, 2, 331, 136, 137, 138, 14, 139, 74, 75, 162, 163, 164, 165, 66, 67, 145, 81, 82, 332, 333, 334, 335, 336, 183, 184, 185, 186, 187, 188, 189, 80, 190, 79, 76, 340, 341, 342, 343, 344, 345, 346, 367, 368, 369, 370, 77, 78, 371, 372, 373, 374, 375, 144, 376, 377, 378, 379, 645, 646, 647, 648, 649, 650, 651, 652, 653, 671, 672, 673, 674, 675, 676, 677] (by decide +kernel) (by decide +kernel)
set_option maxRecDepth 20000 in
theorem gL_law_X5_look : GoodIn wsL_law (wsV RL 53 RX5 yX5_look wsX5_look) := goodIn_app (goodIn_of _ (by decide +kernel)) ggL_law_X5_look
set_option maxRecDepth 20000 in
theorem ggL_law_X6_look : GoodIn wsL_law wsX6_look := goodIn_r _ [383, 100, 96, 351, 352, 353, 5, 354, 150, 151, 152, 153, 154, 155, 156, 157, 93, 94, 120, 121, 122, 355, 356, 357, 358, 359, 360, 361, 362, 229, 230, 231, 232, 233, 234, 235, 236, 222, 223, 224, 225, 384, 385, 386, 387, 654, 655, 656, 657, 658, 659, 660, 661, 662, 663, 664, 665, 666, 667, 668, 669, 670] (by decide +kernel) (by decide +kernel)
set_option maxRecDepth 20000 in
theorem gL_law_X6_look : GoodIn wsL_law (wsV RL 57 RX6 yX6_look wsX6_look) := goodIn_app (goodIn_of _ (by decide +kernel)) ggL_law_X6_look
set_option maxRecDepth 20000 in
theorem ggL_law_X5_joined : GoodIn wsL_law wsX5_joined := goodIn_r _ [391, 166, 167, 168, 2, 169, 15, 66, 67, 170, 171, 172, 14, 173, 77, 174, 175, 176, 177, 78, 178, 179, 180, 181, 182, 183, 184, 185, 186, 187, 188, 189, 80, 190, 79, 75, 76, 191, 192, 193, 194, 195, 196, 197, 198, 645, 646, 647, 648, 649, 650, 651, 652, 653, 671, 672, 673, 674, 675, 676, 677] (by decide +kernel) (by decide +kernel)
set_option maxRecDepth 20000 in
theorem gL_law_X5_joined : GoodIn wsL_law (wsV RL 58 RX5 yX5_joined wsX5_joined) := goodIn_app (goodIn_of _ (by decide +kernel)) ggL_law_X5_joined
set_option maxRecDepth 20000 in
theorem ggL_law_X6_joined : GoodIn wsL_law wsX6_joined := goodIn_r _ [217, 218, 219, 220, 5, 221, 100, 96, 154, 155, 156, 157, 93, 94, 222, 223, 224, 225, 226, 227, 228, 229, 230, 231, 232, 233, 234, 235, 236, 120, 121, 122, 237, 238, 239, 654, 655, 656, 657, 658, 659, 660, 661, 662, 663, 664, 665, 666, 667, 668, 669, 670] (by decide +kernel) (by decide +kernel)
set_option maxRecDepth 20000 in
theorem gL_law_X6_joined : GoodIn wsL_law (wsV RL 62 RX6 yX6_joined wsX6_joined) := goodIn_app (goodIn_of _ (by decide +kernel)) ggL_law_X6_joined
set_option maxRecDepth 20000 in
theorem ggL_law_X5_way : GoodIn wsL_law wsX5_way := goodIn_r _ [396, 23, 397, 398, 399, 2, 400, 15, 66, 67, 166, 167, 168, 169, 170, 171, 172, 14, 173, 77, 174, 175, 176, 177, 78, 178, 179, 180, 181, 182, 183, 184, 185, 186, 187, 188, 189, 80, 190, 79, 75, 76, 191, 192, 193, 194, 195, 196, 197, 198, 401, 402, 403, 22, 404, 41, 405, 406, 407, 408, 409, 410, 411, 412, 413, 414, 42, 338, 339, 340, 341, 342, 343, 344, 345, 346, 81, 82, 415, 416, 417, 418, 419, 420, 645, 646, 647, 648, 649, 650, 651, 652, 653, 671, 672, 673, 674, 675, 676, 677, 681, 682, 683] (by decide +kernel) (by decide +kernel)
set_option maxRecDepth 20000 in
theorem gL_law_X5_way : GoodIn wsL_law (wsV RL 63 RX5 yX5_way wsX5_way) := goodIn_app (goodIn_of _ (by decide +kernel)) ggL_law_X5_way
set_option maxRecDepth 20000 in
theorem ggL_law_X6_way : GoodIn wsL_law wsX6_way := goodIn_r _ [424, 102, 425, 426, 427, 5, 428, 214, 215, 216, 217, 218, 219, 220, 221, 100, 96, 154, 155, 156, 157, 93, 94, 222, 223, 224, 225, 226, 227, 228, 229, 230, 231, 232, 233, 234, 235, 236, 120, 121, 122, 237, 238, 239, 429, 430, 431, 432, 654, 655, 656, 657, 658, 659, 660, 661, 662, 663, 664, 665, 666, 667, 668, 669, 670] (by decide +kernel) (by decide +kernel)
set_option maxRecDepth 20000 in
theorem gL_law_X6_way : GoodIn wsL_law (wsV RL 66 RX6 yX6_way wsX6_way) := goodIn_app (goodIn_of _ (by decide +kernel)) ggL_law_X6_way
set_option maxRecDepth 20000 in
theorem ggL_law_X5_winner : GoodIn wsL_law wsX5_winner := goodIn_r _ [436, 27, 133, 134, 2, 135, 437, 438, 439, 440, 372, 373, 374, 375, 15, 66, 67, 144, 376, 377, 378, 14, 379, 76, 340, 341, 342, 343, 344, 345, 346, 441, 442, 443, 444, 170, 171, 172, 173, 77, 174, 175, 176, 177, 78, 445, 446, 447, 26, 448, 449, 450, 451, 452, 453, 454, 455, 253, 254, 255, 74, 456, 257, 258, 259, 75, 457, 458, 459, 460, 461, 462, 463, 464, 59, 465, 466, 467, 468, 469, 49, 51, 52, 470, 471, 472, 473, 474, 48, 475, 61, 476, 477, 478, 479, 480, 183, 184, 185, 186, 187, 188, 189, 80, 190, 79, 481, 482, 483, 484, 81, 82, 485, 486, 487, 488, 489, 490, 491, 492, 493, 494, 495, 645, 646, 647, 648, 649, 650, 651, 652, 653, 671, 672, 673, 674, 675, 676, 677, 684, 685, 686, 687, 688, 689, 690, 691, 692, 693, 694, 695, 696, 697, 698, 699] (by decide +kernel) (by decide +kernel)
set_option maxRecDepth 20000 in
theorem gL_law_X5_winner : GoodIn wsL_law (wsV RL 67 RX5 yX5_winner wsX5_winner) := goodIn_app (goodIn_of _ (by decide +kernel)) ggL_law_X5_winner
set_option maxRecDepth 20000 in
theorem ggL_law_X6_winner : GoodIn wsL_law wsX6_winner := goodIn_r _ [499, 120, 121, 5, 122, 500, 501, 502, 503, 504, 96, 103, 104, 154, 155, 156, 157, 93, 94, 505, 506, 507, 508, 106, 107, 509, 510, 511, 512, 218, 219, 220, 221, 100, 222, 223, 224, 225, 226, 227, 228, 229, 230, 231, 232, 233, 234, 235, 236, 237, 238, 239, 513, 514, 515, 516, 355, 356, 357, 358, 359, 360, 361, 362, 517, 518, 519, 520, 654, 655, 656, 657, 658, 659, 660, 661, 662, 663, 664, 665, 666, 667, 668, 669, 670] (by decide +kernel) (by decide +kernel)
set_option maxRecDepth 20000 in
theorem gL_law_X6_winner : GoodIn wsL_law (wsV RL 70 RX6 yX6_winner wsX6_winner) := goodIn_app (goodIn_of _ (by decide +kernel)) ggL_law_X6_winner
set_option maxRecDepth 20000 in
theorem ggL_law_X5_first : GoodIn wsL_law wsX5_first := goodIn_r _ [524, 27, 133, 134, 2, 135, 437, 438, 439, 440, 372, 373, 374, 375, 15, 66, 67, 144, 376, 377, 378, 14, 379, 76, 340, 341, 342, 343, 344, 345, 346, 441, 442, 443, 444, 170, 171, 172, 173, 77, 174, 175, 176, 177, 78, 445, 446, 447, 26, 448, 449, 450, 451, 452, 453, 454, 455, 253, 254, 255, 74, 456, 257, 258, 259, 75, 457, 458, 459, 460, 461, 462, 463, 464, 59, 465, 466, 467, 468, 469, 49, 51, 52, 470, 471, 472, 473, 474, 48, 475, 61, 476, 477, 478, 479, 480, 183, 184, 185, 186, 187, 188, 189, 80, 190, 79, 481, 482, 483, 484, 81, 82, 525, 526, 527, 528, 529, 530, 531, 532, 489, 490, 491, 492, 493, 494, 495, 645, 646, 647, 648, 649, 650, 651, 652, 653, 671, 672, 673, 674, 675, 676, 677, 684, 685, 686, 687, 688, 689, 690, 691, 692, 693, 694, 695, 696, 697, 698, 699] (by decide +kernel) (by decide +kernel)
set_option maxRecDepth 20000 in
theorem gL_law_X5_first : GoodIn wsL_law (wsV RL 71 RX5 yX5_first wsX5_first) := goodIn_app (goodIn_of _ (by decide +kernel)) ggL_law_X5_first
set_option maxRecDepth 20000 in
theorem ggL_law_X6_first_ : GoodIn wsL_law wsX6_first_ := goodIn_r _ [536, 504, 104, 103, 120, 121, 5, 122, 500, 501, 502, 503, 96, 154, 155, 156, 157, 93, 94, 505, 506, 507, 508, 106, 107, 509, 510, 511, 512, 218, 219, 220, 221, 100, 222, 223, 224, 225, 226, 227, 228, 229, 230, 231, 232, 233, 234, 235, 236, 237, 238, 239, 513, 514, 515, 516, 355, 356, 357, 358, 359, 360, 361, 362, 517, 518, 519, 520, 654, 655, 656, 657, 658, 659, 660, 661, 662, 663, 664, 665, 666, 667, 668, 669, 670] (by decide +kernel) (by decide +kernel)
set_option maxRecDepth 20000 in
theorem gL_law_X6_first_ : GoodIn wsL_law (wsV RL 74 RX6 yX6_first_ wsX6_first_) := goodIn_app (goodIn_of _ (by decide +kernel)) ggL_law_X6_first_
set_option maxRecDepth 20000 in
theorem ggL_law_X5_fillings : GoodIn wsL_law wsX5_fillings := goodIn_r _ [540, 27, 437, 438, 439, 2, 440, 372, 373, 374, 375, 15, 66, 67, 144, 376, 377, 378, 14, 379, 76, 340, 341, 342, 343, 344, 345, 346, 441, 442, 443, 444, 170, 171, 172, 173, 77, 174, 175, 176, 177, 78, 445, 446, 447, 26, 448, 449, 450, 451, 452, 453, 454, 455, 253, 254, 255, 74, 456, 257, 258, 259, 75, 457, 458, 459, 460, 461, 462, 463, 464, 59, 465, 466, 467, 468, 469, 49, 51, 52, 470, 471, 472, 473, 474, 48, 475, 61, 476, 477, 478, 479, 480, 183, 184, 185, 186, 187, 188, 189, 80, 190, 79, 481, 482, 483, 484, 81, 82, 541, 542, 543, 544, 645, 646, 647, 648, 649, 650, 651, 652, 653, 671, 672, 673, 674, 675, 676, 677, 684, 685, 686, 687, 688, 689, 690, 691, 692, 693, 694, 695, 696, 697, 698, 699] (by decide +kernel) (by decide +kernel)
set_option maxRecDepth 20000 in
theorem gL_law_X5_fillings : GoodIn wsL_law (wsV RL 75 RX5 yX5_fillings wsX5_fillings) := goodIn_app (goodIn_of _ (by decide +kernel)) ggL_law_X5_fillings
set_option maxRecDepth 20000 in
theorem ggL_law_X6_fillings : GoodIn wsL_law wsX6_fillings := goodIn_r _ [548, 504, 108, 500, 501, 502, 5, 503, 96, 103, 104, 154, 155, 156, 157, 93, 94, 549, 550, 551, 552, 553, 554, 555, 556, 509, 510, 511, 512, 218, 219, 220, 221, 100, 222, 223, 224, 225, 226, 227, 228, 229, 230, 231, 232, 233, 234, 235, 236, 120, 121, 122, 237, 238, 239, 654, 655, 656, 657, 658, 659, 660, 661, 662, 663, 664, 665, 666, 667, 668, 669, 670] (by decide +kernel) (by decide +kernel)
set_option maxRecDepth 20000 in
theorem gL_law_X6_fillings : GoodIn wsL_law (wsV RL 78 RX6 yX6_fillings wsX6_fillings) := goodIn_app (goodIn_of _ (by decide +kernel)) ggL_law_X6_fillings
set_option maxRecDepth 20000 in
theorem ggL_law_X5_dead : GoodIn wsL_law wsX5_dead := goodIn_r _ [560, 15, 27, 136, 137, 138, 14, 139, 74, 75, 162, 163, 164, 2, 165, 66, 67, 145, 81, 82, 437, 438, 439, 440, 372, 373, 374, 375, 144, 376, 377, 378, 379, 76, 340, 341, 342, 343, 344, 345, 346, 441, 442, 443, 444, 170, 171, 172, 173, 77, 174, 175, 176, 177, 78, 445, 446, 447, 26, 448, 449, 450, 451, 452, 453, 454, 455, 253, 254, 255, 456, 257, 258, 259, 457, 458, 459, 460, 461, 462, 463, 464, 59, 465, 466, 467, 468, 469, 49, 51, 52, 470, 471, 472, 473, 474, 48, 475, 61, 476, 477, 478, 479, 480, 183, 184, 185, 186, 187, 188, 189, 80, 190, 79, 481, 482, 483, 484, 561, 562, 563, 564, 565, 566, 567, 568, 569, 570, 571, 572, 573, 492, 493, 494, 495, 645, 646, 647, 648, 649, 650, 651, 652, 653, 671, 672, 673, 674, 675, 676, 677, 684, 685, 686, 687, 688, 689, 690, 691, 692, 693, 694, 695, 696, 697, 698, 699] (by decide +kernel) (by decide +kernel)
set_option maxRecDepth 20000 in
theorem gL_law_X5_dead : GoodIn wsL_law (wsV RL 79 RX5 yX5_dead wsX5_dead) := goodIn_app (goodIn_of _ (by decide +kernel)) ggL_law_X5_dead
set_option maxRecDepth 20000 in
theorem ggL_law_X6_dead : GoodIn wsL_law wsX6_dead := goodIn_r _ [577, 96, 103, 150, 151, 152, 5, 153, 154, 155, 156, 157, 93, 94, 120, 121, 122, 500, 501, 502, 503, 504, 104, 549, 550, 551, 552, 108, 553, 554, 555, 556, 509, 510, 511, 512, 218, 219, 220, 221, 100, 222, 223, 224, 225, 226, 227, 228, 229, 230, 231, 232, 233, 234, 235, 236, 237, 238, 239, 578, 579, 580, 581, 654, 655, 656, 657, 658, 659, 660, 661, 662, 663, 664, 665, 666, 667, 668, 669, 670] (by decide +kernel) (by decide +kernel)
set_option maxRecDepth 20000 in
theorem gL_law_X6_dead : GoodIn wsL_law (wsV RL 82 RX6 yX6_dead wsX6_dead) := goodIn_app (goodIn_of _ (by decide +kernel)) ggL_law_X6_dead
set_option maxRecDepth 20000 in
theorem ggL_law_X5_link : GoodIn wsL_law wsX5_link := goodIn_r _ [585, 28, 586, 587, 588, 2, 589, 15, 133, 134, 135, 136, 137, 138, 14, 139, 74, 75, 207, 208, 209, 332, 333, 334, 335, 66, 67, 145, 81, 82, 437, 438, 439, 440, 372, 373, 374, 375, 144, 376, 377, 378, 379, 76, 340, 341, 342, 343, 344, 345, 346, 590, 591, 592, 593, 445, 446, 447, 26, 448, 449, 450, 451, 452, 453, 454, 455, 253, 254, 255, 456, 257, 258, 259, 457, 458, 459, 460, 461, 462, 463, 464, 59, 465, 466, 467, 468, 469, 49, 51, 52, 470, 471, 472, 473, 474, 48, 475, 61, 476, 477, 478, 479, 480, 183, 184, 185, 186, 187, 188, 189, 80, 190, 79, 481, 482, 483, 484, 594, 595, 596, 597, 598, 486, 487, 488, 489, 490, 491, 492, 493, 494, 495, 645, 646, 647, 648, 649, 650, 651, 652, 653, 671, 672, 673, 674, 675, 676, 677, 684, 685, 686, 687, 688, 689, 690, 691, 692, 693, 694, 695, 696, 697, 698, 699] (by decide +kernel) (by decide +kernel)
set_option maxRecDepth 20000 in
theorem gL_law_X5_link : GoodIn wsL_law (wsV RL 83 RX5 yX5_link wsX5_link) := goodIn_app (goodIn_of _ (by decide +kernel)) ggL_law_X5_link
set_option maxRecDepth 20000 in
theorem ggL_law_X6_link : GoodIn wsL_law wsX6_link := goodIn_r _ [602, 603, 604, 605, 5, 606, 96, 120, 121, 122, 150, 151, 152, 153, 154, 155, 156, 157, 93, 94, 500, 501, 502, 503, 504, 103, 104, 505, 506, 507, 508, 106, 107, 509, 510, 511, 512, 218, 219, 220, 221, 100, 222, 223, 224, 225, 226, 227, 228, 229, 230, 231, 232, 233, 234, 235, 236, 237, 238, 239, 513, 514, 515, 516, 355, 356, 357, 358, 359, 360, 361, 362, 517, 518, 519, 520, 654, 655, 656, 657, 658, 659, 660, 661, 662, 663, 664, 665, 666, 667, 668, 669, 670] (by decide +kernel) (by decide +kernel)
set_option maxRecDepth 20000 in
theorem gL_law_X6_link : GoodIn wsL_law (wsV RL 87 RX6 yX6_link wsX6_link) := goodIn_app (goodIn_of _ (by decide +kernel)) ggL_law_X6_link
set_option maxRecDepth 20000 in
theorem ggL_law_X5_half : GoodIn wsL_law wsX5_half := goodIn_r _ [610, 28, 586, 587, 588, 2, 589, 15, 133, 134, 135, 136, 137, 138, 14, 139, 74, 75, 207, 208, 209, 332, 333, 334, 335, 66, 67, 145, 81, 82, 437, 438, 439, 440, 372, 373, 374, 375, 144, 376, 377, 378, 379, 76, 340, 341, 342, 343, 344, 345, 346, 590, 591, 592, 593, 445, 446, 447, 26, 448, 449, 450, 451, 452, 453, 454, 455, 253, 254, 255, 456, 257, 258, 259, 457, 458, 459, 460, 461, 462, 463, 464, 59, 465, 466, 467, 468, 469, 49, 51, 52, 470, 471, 472, 473, 474, 48, 475, 61, 476, 477, 478, 479, 480, 183, 184, 185, 186, 187, 188, 189, 80, 190, 79, 481, 482, 483, 484, 594, 595, 596, 597, 598, 486, 487, 488, 489, 490, 491, 492, 493, 494, 495, 525, 526, 527, 528, 529, 530, 531, 532, 645, 646, 647, 648, 649, 650, 651, 652, 653, 671, 672, 673, 674, 675, 676, 677, 684, 685, 686, 687, 688, 689, 690, 691, 692, 693, 694, 695, 696, 697, 698, 699] (by decide +kernel) (by decide +kernel)
set_option maxRecDepth 20000 in
theorem gL_law_X5_half : GoodIn wsL_law (wsV RL 88 RX5 yX5_half wsX5_half) := goodIn_app (goodIn_of _ (by decide +kernel)) ggL_law_X5_half
set_option maxRecDepth 20000 in
theorem ggL_law_X6_half : GoodIn wsL_law wsX6_half := goodIn_r _ [614, 504, 104, 103, 615, 600, 601, 5, 602, 603, 604, 605, 606, 96, 120, 121, 122, 150, 151, 152, 153, 154, 155, 156, 157, 93, 94, 500, 501, 502, 503, 505, 506, 507, 508, 106, 107, 509, 510, 511, 512, 218, 219, 220, 221, 100, 222, 223, 224, 225, 226, 227, 228, 229, 230, 231, 232, 233, 234, 235, 236, 237, 238, 239, 513, 514, 515, 516, 355, 356, 357, 358, 359, 360, 361, 362, 517, 518, 519, 520, 654, 655, 656, 657, 658, 659, 660, 661, 662, 663, 664, 665, 666, 667, 668, 669, 670] (by decide +kernel) (by decide +kernel)
set_option maxRecDepth 20000 in
theorem gL_law_X6_half : GoodIn wsL_law (wsV RL 92 RX6 yX6_half wsX6_half) := goodIn_app (goodIn_of _ (by decide +kernel)) ggL_law_X6_half
set_option maxRecDepth 20000 in
theorem ggL_law_X5_count : GoodIn wsL_law wsX5_count := goodIn_r _ [619, 15, 68, 19, 66, 67, 23, 252, 253, 254, 14, 255, 74, 256, 257, 258, 259, 75, 372, 373, 374, 2, 375, 144, 376, 377, 378, 379, 76, 340, 341, 342, 343, 344, 345, 346, 260, 261, 262, 18, 263, 87, 620, 621, 622, 623, 88, 624, 625, 626, 627, 190, 182, 183, 184, 185, 186, 187, 188, 189, 80, 79, 628, 629, 630, 631, 27, 437, 438, 439, 440, 441, 442, 443, 444, 170, 171, 172, 173, 77, 174, 175, 176, 177, 78, 445, 446, 447, 26, 448, 449, 450, 451, 452, 453, 454, 455, 456, 457, 458, 459, 460, 461, 462, 463, 464, 59, 465, 466, 467, 468, 469, 49, 51, 52, 470, 471, 472, 473, 474, 48, 475, 61, 476, 477, 478, 479, 480, 481, 482, 483, 484, 81, 82, 561, 562, 563, 564, 565, 566, 567, 568, 569, 570, 571, 572, 573, 492, 493, 494, 495, 397, 398, 399, 400, 166, 167, 168, 169, 178, 179, 180, 181, 191, 192, 193, 194, 195, 196, 197, 198, 401, 402, 403, 22, 404, 41, 405, 406, 407, 408, 409, 410, 411, 412, 413, 414, 42, 338, 339, 415, 416, 632, 633, 634, 635, 645, 646, 647, 648, 649, 650, 651, 652, 653, 671, 672, 673, 674, 675, 676, 677, 678, 679, 680, 684, 685, 686, 687, 688, 689, 690, 691, 692, 693, 694, 695, 696, 697, 698, 699, 681, 682, 683] (by decide +kernel) (by decide +kernel)
set_option maxRecDepth 20000 in
theorem gL_law_X5_count : GoodIn wsL_law (wsV RL 93 RX5 yX5_count wsX5_count) := goodIn_app (goodIn_of _ (by decide +kernel)) ggL_law_X5_count
set_option maxRecDepth 20000 in
theorem ggL_law_X6_count : GoodIn wsL_law wsX6_count := goodIn_r _ [639, 93, 94, 96, 95, 127, 128, 504, 154, 155, 156, 5, 157, 640, 641, 642, 643, 644, 348, 349, 350, 100, 351, 352, 353, 354, 150, 151, 152, 153, 120, 121, 122, 355, 356, 357, 358, 359, 360, 361, 362, 229, 230, 231, 232, 233, 234, 235, 236, 500, 501, 502, 503, 103, 104, 549, 550, 551, 552, 108, 553, 554, 555, 556, 509, 510, 511, 512, 218, 219, 220, 221, 222, 223, 224, 225, 226, 227, 228, 237, 238, 239, 578, 579, 580, 581, 425, 426, 427, 428, 102, 214, 215, 216, 217, 429, 430, 431, 432, 654, 655, 656, 657, 658, 659, 660, 661, 662, 663, 664, 665, 666, 667, 668, 669, 670] (by decide +kernel) (by decide +kernel)
set_option maxRecDepth 20000 in
theorem gL_law_X6_count : GoodIn wsL_law (wsV RL 96 RX6 yX6_count wsX6_count) := goodIn_app (goodIn_of _ (by decide +kernel)) ggL_law_X6_count
theorem dL_law_0 : decode cL_law 0 = .ok (.new 7, 3) := by decide +kernel
theorem dL_law_3 : decode cL_law 3 = .ok (.dup, 1) := by decide +kernel
theorem dL_law_4 : decode cL_law 4 = .ok (.invokespecial 9, 3) := by decide +kernel
theorem dL_law_7 : decode cL_law 7 = .ok (.astore_n 1, 1) := by decide +kernel
theorem dL_law_8 : decode cL_law 8 = .ok (.new 10, 3) := by decide +kernel
theorem dL_law_11 : decode cL_law 11 = .ok (.dup, 1) := by decide +kernel
theorem dL_law_12 : decode cL_law 12 = .ok (.invokespecial 12, 3) := by decide +kernel
theorem dL_law_15 : decode cL_law 15 = .ok (.astore_n 2, 1) := by decide +kernel
theorem dL_law_16 : decode cL_law 16 = .ok (.iconst 0, 1) := by decide +kernel
theorem dL_law_17 : decode cL_law 17 = .ok (.istore_n 3, 1) := by decide +kernel
theorem dL_law_18 : decode cL_law 18 = .ok (.iload_n 3, 1) := by decide +kernel
theorem dL_law_19 : decode cL_law 19 = .ok (.aload_n 0, 1) := by decide +kernel
theorem dL_law_20 : decode cL_law 20 = .ok (.arraylength, 1) := by decide +kernel
theorem dL_law_21 : decode cL_law 21 = .ok (.iconst 5, 1) := by decide +kernel
theorem dL_law_22 : decode cL_law 22 = .ok (.isub, 1) := by decide +kernel
theorem dL_law_23 : decode cL_law 23 = .ok (.if_icmp .gt 582, 3) := by decide +kernel
theorem dL_law_26 : decode cL_law 26 = .ok (.aload_n 0, 1) := by decide +kernel
theorem dL_law_27 : decode cL_law 27 = .ok (.iload_n 3, 1) := by decide +kernel
theorem dL_law_28 : decode cL_law 28 = .ok (.iaload, 1) := by decide +kernel
theorem dL_law_29 : decode cL_law 29 = .ok (.bipush 31, 2) := by decide +kernel
theorem dL_law_31 : decode cL_law 31 = .ok (.iand, 1) := by decide +kernel
theorem dL_law_32 : decode cL_law 32 = .ok (.tableswitch 567 0 18 #[92, 125, 168, 191, 204, 217, 230, 241, 264, 287, 320, 333, 356, 379, 412, 425, 448, 491, 544], 92) := by decide +kernel
theorem dL_law_124 : decode cL_law 124 = .ok (.aload_n 1, 1) := by decide +kernel
theorem dL_law_125 : decode cL_law 125 = .ok (.aload_n 0, 1) := by decide +kernel
theorem dL_law_126 : decode cL_law 126 = .ok (.iload_n 3, 1) := by decide +kernel
theorem dL_law_127 : decode cL_law 127 = .ok (.iconst 1, 1) := by decide +kernel
theorem dL_law_128 : decode cL_law 128 = .ok (.iadd, 1) := by decide +kernel
theorem dL_law_129 : decode cL_law 129 = .ok (.iaload, 1) := by decide +kernel
theorem dL_law_130 : decode cL_law 130 = .ok (.aload_n 0, 1) := by decide +kernel
theorem dL_law_131 : decode cL_law 131 = .ok (.iload_n 3, 1) := by decide +kernel
theorem dL_law_132 : decode cL_law 132 = .ok (.iconst 2, 1) := by decide +kernel
theorem dL_law_133 : decode cL_law 133 = .ok (.iadd, 1) := by decide +kernel
theorem dL_law_134 : decode cL_law 134 = .ok (.iaload, 1) := by decide +kernel
theorem dL_law_135 : decode cL_law 135 = .ok (.invokevirtual 13, 3) := by decide +kernel
theorem dL_law_138 : decode cL_law 138 = .ok (.aload_n 2, 1) := by decide +kernel
theorem dL_law_139 : decode cL_law 139 = .ok (.aload_n 0, 1) := by decide +kernel
theorem dL_law_140 : decode cL_law 140 = .ok (.iload_n 3, 1) := by decide +kernel
theorem dL_law_141 : decode cL_law 141 = .ok (.iconst 1, 1) := by decide +kernel
theorem dL_law_142 : decode cL_law 142 = .ok (.iadd, 1) := by decide +kernel
theorem dL_law_143 : decode cL_law 143 = .ok (.iaload, 1) := by decide +kernel
theorem dL_law_144 : decode cL_law 144 = .ok (.aload_n 0, 1) := by decide +kernel
theorem dL_law_145 : decode cL_law 145 = .ok (.iload_n 3, 1) := by decide +kernel
theorem dL_law_146 : decode cL_law 146 = .ok (.iconst 2, 1) := by decide +kernel
theorem dL_law_147 : decode cL_law 147 = .ok (.iadd, 1) := by decide +kernel
theorem dL_law_148 : decode cL_law 148 = .ok (.iaload, 1) := by decide +kernel
theorem dL_law_149 : decode cL_law 149 = .ok (.invokevirtual 17, 3) := by decide +kernel
theorem dL_law_152 : decode cL_law 152 = .ok (.if_icmp .eq 447, 3) := by decide +kernel
theorem dL_law_155 : decode cL_law 155 = .ok (.iconst 0, 1) := by decide +kernel
theorem dL_law_156 : decode cL_law 156 = .ok (.ireturn, 1) := by decide +kernel
theorem dL_law_157 : decode cL_law 157 = .ok (.aload_n 1, 1) := by decide +kernel
theorem dL_law_158 : decode cL_law 158 = .ok (.aload_n 0, 1) := by decide +kernel
theorem dL_law_159 : decode cL_law 159 = .ok (.iload_n 3, 1) := by decide +kernel
theorem dL_law_160 : decode cL_law 160 = .ok (.iconst 1, 1) := by decide +kernel
theorem dL_law_161 : decode cL_law 161 = .ok (.iadd, 1) := by decide +kernel
theorem dL_law_162 : decode cL_law 162 = .ok (.iaload, 1) := by decide +kernel
theorem dL_law_163 : decode cL_law 163 = .ok (.aload_n 0, 1) := by decide +kernel
theorem dL_law_164 : decode cL_law 164 = .ok (.iload_n 3, 1) := by decide +kernel
theorem dL_law_165 : decode cL_law 165 = .ok (.iconst 2, 1) := by decide +kernel
theorem dL_law_166 : decode cL_law 166 = .ok (.iadd, 1) := by decide +kernel
theorem dL_law_167 : decode cL_law 167 = .ok (.iaload, 1) := by decide +kernel
theorem dL_law_168 : decode cL_law 168 = .ok (.aload_n 0, 1) := by decide +kernel
theorem dL_law_169 : decode cL_law 169 = .ok (.iload_n 3, 1) := by decide +kernel
theorem dL_law_170 : decode cL_law 170 = .ok (.iconst 3, 1) := by decide +kernel
theorem dL_law_171 : decode cL_law 171 = .ok (.iadd, 1) := by decide +kernel
theorem dL_law_172 : decode cL_law 172 = .ok (.iaload, 1) := by decide +kernel
theorem dL_law_173 : decode cL_law 173 = .ok (.invokevirtual 18, 3) := by decide +kernel
theorem dL_law_176 : decode cL_law 176 = .ok (.aload_n 2, 1) := by decide +kernel
theorem dL_law_177 : decode cL_law 177 = .ok (.aload_n 0, 1) := by decide +kernel
theorem dL_law_178 : decode cL_law 178 = .ok (.iload_n 3, 1) := by decide +kernel
theorem dL_law_179 : decode cL_law 179 = .ok (.iconst 1, 1) := by decide +kernel
theorem dL_law_180 : decode cL_law 180 = .ok (.iadd, 1) := by decide +kernel
theorem dL_law_181 : decode cL_law 181 = .ok (.iaload, 1) := by decide +kernel
theorem dL_law_182 : decode cL_law 182 = .ok (.aload_n 0, 1) := by decide +kernel
theorem dL_law_183 : decode cL_law 183 = .ok (.iload_n 3, 1) := by decide +kernel
theorem dL_law_184 : decode cL_law 184 = .ok (.iconst 2, 1) := by decide +kernel
theorem dL_law_185 : decode cL_law 185 = .ok (.iadd, 1) := by decide +kernel
theorem dL_law_186 : decode cL_law 186 = .ok (.iaload, 1) := by decide +kernel
theorem dL_law_187 : decode cL_law 187 = .ok (.aload_n 0, 1) := by decide +kernel
theorem dL_law_188 : decode cL_law 188 = .ok (.iload_n 3, 1) := by decide +kernel
theorem dL_law_189 : decode cL_law 189 = .ok (.iconst 3, 1) := by decide +kernel
theorem dL_law_190 : decode cL_law 190 = .ok (.iadd, 1) := by decide +kernel
theorem dL_law_191 : decode cL_law 191 = .ok (.iaload, 1) := by decide +kernel
theorem dL_law_192 : decode cL_law 192 = .ok (.invokevirtual 22, 3) := by decide +kernel
theorem dL_law_195 : decode cL_law 195 = .ok (.if_icmp .eq 404, 3) := by decide +kernel
theorem dL_law_198 : decode cL_law 198 = .ok (.iconst 0, 1) := by decide +kernel
theorem dL_law_199 : decode cL_law 199 = .ok (.ireturn, 1) := by decide +kernel
theorem dL_law_200 : decode cL_law 200 = .ok (.aload_n 1, 1) := by decide +kernel
theorem dL_law_201 : decode cL_law 201 = .ok (.aload_n 0, 1) := by decide +kernel
theorem dL_law_202 : decode cL_law 202 = .ok (.iload_n 3, 1) := by decide +kernel
theorem dL_law_203 : decode cL_law 203 = .ok (.iconst 1, 1) := by decide +kernel
theorem dL_law_204 : decode cL_law 204 = .ok (.iadd, 1) := by decide +kernel
theorem dL_law_205 : decode cL_law 205 = .ok (.iaload, 1) := by decide +kernel
theorem dL_law_206 : decode cL_law 206 = .ok (.invokevirtual 23, 3) := by decide +kernel
theorem dL_law_209 : decode cL_law 209 = .ok (.aload_n 2, 1) := by decide +kernel
theorem dL_law_210 : decode cL_law 210 = .ok (.aload_n 0, 1) := by decide +kernel
theorem dL_law_211 : decode cL_law 211 = .ok (.iload_n 3, 1) := by decide +kernel
theorem dL_law_212 : decode cL_law 212 = .ok (.iconst 1, 1) := by decide +kernel
theorem dL_law_213 : decode cL_law 213 = .ok (.iadd, 1) := by decide +kernel
theorem dL_law_214 : decode cL_law 214 = .ok (.iaload, 1) := by decide +kernel
theorem dL_law_215 : decode cL_law 215 = .ok (.invokevirtual 27, 3) := by decide +kernel
theorem dL_law_218 : decode cL_law 218 = .ok (.if_icmp .eq 381, 3) := by decide +kernel
theorem dL_law_221 : decode cL_law 221 = .ok (.iconst 0, 1) := by decide +kernel
theorem dL_law_222 : decode cL_law 222 = .ok (.ireturn, 1) := by decide +kernel
theorem dL_law_223 : decode cL_law 223 = .ok (.aload_n 1, 1) := by decide +kernel
theorem dL_law_224 : decode cL_law 224 = .ok (.invokevirtual 28, 3) := by decide +kernel
theorem dL_law_227 : decode cL_law 227 = .ok (.aload_n 2, 1) := by decide +kernel
theorem dL_law_228 : decode cL_law 228 = .ok (.invokevirtual 32, 3) := by decide +kernel
theorem dL_law_231 : decode cL_law 231 = .ok (.if_icmp .eq 368, 3) := by decide +kernel
theorem dL_law_234 : decode cL_law 234 = .ok (.iconst 0, 1) := by decide +kernel
theorem dL_law_235 : decode cL_law 235 = .ok (.ireturn, 1) := by decide +kernel
theorem dL_law_236 : decode cL_law 236 = .ok (.aload_n 1, 1) := by decide +kernel
theorem dL_law_237 : decode cL_law 237 = .ok (.invokevirtual 33, 3) := by decide +kernel
theorem dL_law_240 : decode cL_law 240 = .ok (.aload_n 2, 1) := by decide +kernel
theorem dL_law_241 : decode cL_law 241 = .ok (.invokevirtual 36, 3) := by decide +kernel
theorem dL_law_244 : decode cL_law 244 = .ok (.if_icmp .eq 355, 3) := by decide +kernel
theorem dL_law_247 : decode cL_law 247 = .ok (.iconst 0, 1) := by decide +kernel
theorem dL_law_248 : decode cL_law 248 = .ok (.ireturn, 1) := by decide +kernel
theorem dL_law_249 : decode cL_law 249 = .ok (.aload_n 1, 1) := by decide +kernel
theorem dL_law_250 : decode cL_law 250 = .ok (.invokevirtual 37, 3) := by decide +kernel
theorem dL_law_253 : decode cL_law 253 = .ok (.aload_n 2, 1) := by decide +kernel
theorem dL_law_254 : decode cL_law 254 = .ok (.invokevirtual 40, 3) := by decide +kernel
theorem dL_law_257 : decode cL_law 257 = .ok (.if_icmp .eq 342, 3) := by decide +kernel
theorem dL_law_260 : decode cL_law 260 = .ok (.iconst 0, 1) := by decide +kernel
theorem dL_law_261 : decode cL_law 261 = .ok (.ireturn, 1) := by decide +kernel
theorem dL_law_262 : decode cL_law 262 = .ok (.aload_n 1, 1) := by decide +kernel
theorem dL_law_263 : decode cL_law 263 = .ok (.invokevirtual 41, 3) := by decide +kernel
theorem dL_law_266 : decode cL_law 266 = .ok (.aload_n 2, 1) := by decide +kernel
theorem dL_law_267 : decode cL_law 267 = .ok (.invokevirtual 44, 3) := by decide +kernel
theorem dL_law_270 : decode cL_law 270 = .ok (.goto 329, 3) := by decide +kernel
theorem dL_law_273 : decode cL_law 273 = .ok (.aload_n 1, 1) := by decide +kernel
theorem dL_law_274 : decode cL_law 274 = .ok (.aload_n 0, 1) := by decide +kernel
theorem dL_law_275 : decode cL_law 275 = .ok (.iload_n 3, 1) := by decide +kernel
theorem dL_law_276 : decode cL_law 276 = .ok (.iconst 1, 1) := by decide +kernel
theorem dL_law_277 : decode cL_law 277 = .ok (.iadd, 1) := by decide +kernel
theorem dL_law_278 : decode cL_law 278 = .ok (.iaload, 1) := by decide +kernel
theorem dL_law_279 : decode cL_law 279 = .ok (.invokevirtual 45, 3) := by decide +kernel
theorem dL_law_282 : decode cL_law 282 = .ok (.aload_n 2, 1) := by decide +kernel
theorem dL_law_283 : decode cL_law 283 = .ok (.aload_n 0, 1) := by decide +kernel
theorem dL_law_284 : decode cL_law 284 = .ok (.iload_n 3, 1) := by decide +kernel
theorem dL_law_285 : decode cL_law 285 = .ok (.iconst 1, 1) := by decide +kernel
theorem dL_law_286 : decode cL_law 286 = .ok (.iadd, 1) := by decide +kernel
theorem dL_law_287 : decode cL_law 287 = .ok (.iaload, 1) := by decide +kernel
theorem dL_law_288 : decode cL_law 288 = .ok (.invokevirtual 48, 3) := by decide +kernel
theorem dL_law_291 : decode cL_law 291 = .ok (.if_icmp .eq 308, 3) := by decide +kernel
theorem dL_law_294 : decode cL_law 294 = .ok (.iconst 0, 1) := by decide +kernel
theorem dL_law_295 : decode cL_law 295 = .ok (.ireturn, 1) := by decide +kernel
theorem dL_law_296 : decode cL_law 296 = .ok (.aload_n 1, 1) := by decide +kernel
theorem dL_law_297 : decode cL_law 297 = .ok (.aload_n 0, 1) := by decide +kernel
theorem dL_law_298 : decode cL_law 298 = .ok (.iload_n 3, 1) := by decide +kernel
theorem dL_law_299 : decode cL_law 299 = .ok (.iconst 1, 1) := by decide +kernel
theorem dL_law_300 : decode cL_law 300 = .ok (.iadd, 1) := by decide +kernel
theorem dL_law_301 : decode cL_law 301 = .ok (.iaload, 1) := by decide +kernel
theorem dL_law_302 : decode cL_law 302 = .ok (.invokevirtual 49, 3) := by decide +kernel
theorem dL_law_305 : decode cL_law 305 = .ok (.aload_n 2, 1) := by decide +kernel
theorem dL_law_306 : decode cL_law 306 = .ok (.aload_n 0, 1) := by decide +kernel
theorem dL_law_307 : decode cL_law 307 = .ok (.iload_n 3, 1) := by decide +kernel
theorem dL_law_308 : decode cL_law 308 = .ok (.iconst 1, 1) := by decide +kernel
theorem dL_law_309 : decode cL_law 309 = .ok (.iadd, 1) := by decide +kernel
theorem dL_law_310 : decode cL_law 310 = .ok (.iaload, 1) := by decide +kernel
theorem dL_law_311 : decode cL_law 311 = .ok (.invokevirtual 52, 3) := by decide +kernel
theorem dL_law_314 : decode cL_law 314 = .ok (.if_icmp .eq 285, 3) := by decide +kernel
theorem dL_law_317 : decode cL_law 317 = .ok (.iconst 0, 1) := by decide +kernel
theorem dL_law_318 : decode cL_law 318 = .ok (.ireturn, 1) := by decide +kernel
theorem dL_law_319 : decode cL_law 319 = .ok (.aload_n 1, 1) := by decide +kernel
theorem dL_law_320 : decode cL_law 320 = .ok (.aload_n 0, 1) := by decide +kernel
theorem dL_law_321 : decode cL_law 321 = .ok (.iload_n 3, 1) := by decide +kernel
theorem dL_law_322 : decode cL_law 322 = .ok (.iconst 1, 1) := by decide +kernel
theorem dL_law_323 : decode cL_law 323 = .ok (.iadd, 1) := by decide +kernel
theorem dL_law_324 : decode cL_law 324 = .ok (.iaload, 1) := by decide +kernel
theorem dL_law_325 : decode cL_law 325 = .ok (.aload_n 0, 1) := by decide +kernel
theorem dL_law_326 : decode cL_law 326 = .ok (.iload_n 3, 1) := by decide +kernel
theorem dL_law_327 : decode cL_law 327 = .ok (.iconst 2, 1) := by decide +kernel
theorem dL_law_328 : decode cL_law 328 = .ok (.iadd, 1) := by decide +kernel
theorem dL_law_329 : decode cL_law 329 = .ok (.iaload, 1) := by decide +kernel
theorem dL_law_330 : decode cL_law 330 = .ok (.invokevirtual 53, 3) := by decide +kernel
theorem dL_law_333 : decode cL_law 333 = .ok (.aload_n 2, 1) := by decide +kernel
theorem dL_law_334 : decode cL_law 334 = .ok (.aload_n 0, 1) := by decide +kernel
theorem dL_law_335 : decode cL_law 335 = .ok (.iload_n 3, 1) := by decide +kernel
theorem dL_law_336 : decode cL_law 336 = .ok (.iconst 1, 1) := by decide +kernel
theorem dL_law_337 : decode cL_law 337 = .ok (.iadd, 1) := by decide +kernel
theorem dL_law_338 : decode cL_law 338 = .ok (.iaload, 1) := by decide +kernel
theorem dL_law_339 : decode cL_law 339 = .ok (.aload_n 0, 1) := by decide +kernel
theorem dL_law_340 : decode cL_law 340 = .ok (.iload_n 3, 1) := by decide +kernel
theorem dL_law_341 : decode cL_law 341 = .ok (.iconst 2, 1) := by decide +kernel
theorem dL_law_342 : decode cL_law 342 = .ok (.iadd, 1) := by decide +kernel
theorem dL_law_343 : decode cL_law 343 = .ok (.iaload, 1) := by decide +kernel
theorem dL_law_344 : decode cL_law 344 = .ok (.invokevirtual 57, 3) := by decide +kernel
theorem dL_law_347 : decode cL_law 347 = .ok (.if_icmp .eq 252, 3) := by decide +kernel
theorem dL_law_350 : decode cL_law 350 = .ok (.iconst 0, 1) := by decide +kernel
theorem dL_law_351 : decode cL_law 351 = .ok (.ireturn, 1) := by decide +kernel
theorem dL_law_352 : decode cL_law 352 = .ok (.aload_n 1, 1) := by decide +kernel
theorem dL_law_353 : decode cL_law 353 = .ok (.invokevirtual 58, 3) := by decide +kernel
theorem dL_law_356 : decode cL_law 356 = .ok (.aload_n 2, 1) := by decide +kernel
theorem dL_law_357 : decode cL_law 357 = .ok (.invokevirtual 62, 3) := by decide +kernel
theorem dL_law_360 : decode cL_law 360 = .ok (.if_icmp .eq 239, 3) := by decide +kernel
theorem dL_law_363 : decode cL_law 363 = .ok (.iconst 0, 1) := by decide +kernel
theorem dL_law_364 : decode cL_law 364 = .ok (.ireturn, 1) := by decide +kernel
theorem dL_law_365 : decode cL_law 365 = .ok (.aload_n 1, 1) := by decide +kernel
theorem dL_law_366 : decode cL_law 366 = .ok (.aload_n 0, 1) := by decide +kernel
theorem dL_law_367 : decode cL_law 367 = .ok (.iload_n 3, 1) := by decide +kernel
theorem dL_law_368 : decode cL_law 368 = .ok (.iconst 1, 1) := by decide +kernel
theorem dL_law_369 : decode cL_law 369 = .ok (.iadd, 1) := by decide +kernel
theorem dL_law_370 : decode cL_law 370 = .ok (.iaload, 1) := by decide +kernel
theorem dL_law_371 : decode cL_law 371 = .ok (.invokevirtual 63, 3) := by decide +kernel
theorem dL_law_374 : decode cL_law 374 = .ok (.aload_n 2, 1) := by decide +kernel
theorem dL_law_375 : decode cL_law 375 = .ok (.aload_n 0, 1) := by decide +kernel
theorem dL_law_376 : decode cL_law 376 = .ok (.iload_n 3, 1) := by decide +kernel
theorem dL_law_377 : decode cL_law 377 = .ok (.iconst 1, 1) := by decide +kernel
theorem dL_law_378 : decode cL_law 378 = .ok (.iadd, 1) := by decide +kernel
theorem dL_law_379 : decode cL_law 379 = .ok (.iaload, 1) := by decide +kernel
theorem dL_law_380 : decode cL_law 380 = .ok (.invokevirtual 66, 3) := by decide +kernel
theorem dL_law_383 : decode cL_law 383 = .ok (.if_icmp .eq 216, 3) := by decide +kernel
theorem dL_law_386 : decode cL_law 386 = .ok (.iconst 0, 1) := by decide +kernel
theorem dL_law_387 : decode cL_law 387 = .ok (.ireturn, 1) := by decide +kernel
theorem dL_law_388 : decode cL_law 388 = .ok (.aload_n 1, 1) := by decide +kernel
theorem dL_law_389 : decode cL_law 389 = .ok (.aload_n 0, 1) := by decide +kernel
theorem dL_law_390 : decode cL_law 390 = .ok (.iload_n 3, 1) := by decide +kernel
theorem dL_law_391 : decode cL_law 391 = .ok (.iconst 1, 1) := by decide +kernel
theorem dL_law_392 : decode cL_law 392 = .ok (.iadd, 1) := by decide +kernel
theorem dL_law_393 : decode cL_law 393 = .ok (.iaload, 1) := by decide +kernel
theorem dL_law_394 : decode cL_law 394 = .ok (.invokevirtual 67, 3) := by decide +kernel
theorem dL_law_397 : decode cL_law 397 = .ok (.aload_n 2, 1) := by decide +kernel
theorem dL_law_398 : decode cL_law 398 = .ok (.aload_n 0, 1) := by decide +kernel
theorem dL_law_399 : decode cL_law 399 = .ok (.iload_n 3, 1) := by decide +kernel
theorem dL_law_400 : decode cL_law 400 = .ok (.iconst 1, 1) := by decide +kernel
theorem dL_law_401 : decode cL_law 401 = .ok (.iadd, 1) := by decide +kernel
theorem dL_law_402 : decode cL_law 402 = .ok (.iaload, 1) := by decide +kernel
theorem dL_law_403 : decode cL_law 403 = .ok (.invokevirtual 70, 3) := by decide +kernel
theorem dL_law_406 : decode cL_law 406 = .ok (.if_icmp .eq 193, 3) := by decide +kernel
theorem dL_law_409 : decode cL_law 409 = .ok (.iconst 0, 1) := by decide +kernel
theorem dL_law_410 : decode cL_law 410 = .ok (.ireturn, 1) := by decide +kernel
theorem dL_law_411 : decode cL_law 411 = .ok (.aload_n 1, 1) := by decide +kernel
theorem dL_law_412 : decode cL_law 412 = .ok (.aload_n 0, 1) := by decide +kernel
theorem dL_law_413 : decode cL_law 413 = .ok (.iload_n 3, 1) := by decide +kernel
theorem dL_law_414 : decode cL_law 414 = .ok (.iconst 1, 1) := by decide +kernel
theorem dL_law_415 : decode cL_law 415 = .ok (.iadd, 1) := by decide +kernel
theorem dL_law_416 : decode cL_law 416 = .ok (.iaload, 1) := by decide +kernel
theorem dL_law_417 : decode cL_law 417 = .ok (.aload_n 0, 1) := by decide +kernel
theorem dL_law_418 : decode cL_law 418 = .ok (.iload_n 3, 1) := by decide +kernel
theorem dL_law_419 : decode cL_law 419 = .ok (.iconst 2, 1) := by decide +kernel
theorem dL_law_420 : decode cL_law 420 = .ok (.iadd, 1) := by decide +kernel
theorem dL_law_421 : decode cL_law 421 = .ok (.iaload, 1) := by decide +kernel
theorem dL_law_422 : decode cL_law 422 = .ok (.invokevirtual 71, 3) := by decide +kernel
theorem dL_law_425 : decode cL_law 425 = .ok (.aload_n 2, 1) := by decide +kernel
theorem dL_law_426 : decode cL_law 426 = .ok (.aload_n 0, 1) := by decide +kernel
theorem dL_law_427 : decode cL_law 427 = .ok (.iload_n 3, 1) := by decide +kernel
theorem dL_law_428 : decode cL_law 428 = .ok (.iconst 1, 1) := by decide +kernel
