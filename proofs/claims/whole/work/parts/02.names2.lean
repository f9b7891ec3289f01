theorem dX4_jumps_0 : decode cX4_jumps 0 = .ok (.aload_n 0, 1) := by decide +kernel
theorem dX4_jumps_1 : decode cX4_jumps 1 = .ok (.iload_n 1, 1) := by decide +kernel
theorem dX4_jumps_2 : decode cX4_jumps 2 = .ok (.invokevirtual 43, 3) := by decide +kernel
theorem dX4_jumps_5 : decode cX4_jumps 5 = .ok (.astore_n 2, 1) := by decide +kernel
theorem dX4_jumps_6 : decode cX4_jumps 6 = .ok (.aload_n 2, 1) := by decide +kernel
theorem dX4_jumps_7 : decode cX4_jumps 7 = .ok (.ifnonnull 7, 3) := by decide +kernel
theorem dX4_jumps_10 : decode cX4_jumps 10 = .ok (.iconst (-1), 1) := by decide +kernel
theorem dX4_jumps_11 : decode cX4_jumps 11 = .ok (.goto 7, 3) := by decide +kernel
theorem dX4_jumps_14 : decode cX4_jumps 14 = .ok (.aload_n 2, 1) := by decide +kernel
theorem dX4_jumps_15 : decode cX4_jumps 15 = .ok (.invokevirtual 66, 3) := by decide +kernel
theorem dX4_jumps_18 : decode cX4_jumps 18 = .ok (.ireturn, 1) := by decide +kernel
set_option maxRecDepth 20000 in
theorem ggX4_where_X4_thingOf : GoodIn wsX4_where wsX4_thingOf := goodIn_r _ [5, 6, 7, 30, 31, 32, 33, 34, 35] (by decide +kernel) (by decide +kernel)
set_option maxRecDepth 20000 in
theorem gX4_where_X4_thingOf : GoodIn wsX4_where (wsV RX4 43 RX4 yX4_thingOf wsX4_thingOf) := goodIn_app (goodIn_of _ (by decide +kernel)) ggX4_where_X4_thingOf
set_option maxRecDepth 20000 in
theorem ggX4_where_X4_isTick : GoodIn wsX4_where wsX4_isTick := goodIn_r _ [10] (by decide +kernel) (by decide +kernel)
set_option maxRecDepth 20000 in
theorem gX4_where_X4_isTick : GoodIn wsX4_where (va_wsS RX4 47 yX4_isTick wsX4_isTick) := goodIn_app (goodIn_of _ (by decide +kernel)) ggX4_where_X4_isTick
set_option maxRecDepth 20000 in
theorem ggX4_where_X3_reachAt : GoodIn wsX4_where wsX3_reachAt := goodIn_r _ [15, 16, 36, 37, 38, 39, 40, 41, 42] (by decide +kernel) (by decide +kernel)
set_option maxRecDepth 20000 in
theorem gX4_where_X3_reachAt : GoodIn wsX4_where (wsV RX4 69 RX3 yX3_reachAt wsX3_reachAt) := goodIn_app (goodIn_of _ (by decide +kernel)) ggX4_where_X3_reachAt
set_option maxRecDepth 20000 in
theorem ggX4_where_X0_size : GoodIn wsX4_where wsX0_size := goodIn_r _ [21, 22, 23, 24, 25, 26, 27, 28, 29] (by decide +kernel) (by decide +kernel)
set_option maxRecDepth 20000 in
theorem gX4_where_X0_size : GoodIn wsX4_where (wsV RX4 87 RX0 yX0_size wsX0_size) := goodIn_app (goodIn_of _ (by decide +kernel)) ggX4_where_X0_size
theorem dX4_where_0 : decode cX4_where 0 = .ok (.aload_n 0, 1) := by decide +kernel
theorem dX4_where_1 : decode cX4_where 1 = .ok (.iload_n 1, 1) := by decide +kernel
theorem dX4_where_2 : decode cX4_where 2 = .ok (.invokevirtual 43, 3) := by decide +kernel
theorem dX4_where_5 : decode cX4_where 5 = .ok (.astore 4, 2) := by decide +kernel
theorem dX4_where_7 : decode cX4_where 7 = .ok (.aload 4, 2) := by decide +kernel
theorem dX4_where_9 : decode cX4_where 9 = .ok (.ifnull 10, 3) := by decide +kernel
theorem dX4_where_12 : decode cX4_where 12 = .ok (.iload_n 2, 1) := by decide +kernel
theorem dX4_where_13 : decode cX4_where 13 = .ok (.invokestatic 47, 3) := by decide +kernel
theorem dX4_where_16 : decode cX4_where 16 = .ok (.ifCond .ne 5, 3) := by decide +kernel
theorem dX4_where_19 : decode cX4_where 19 = .ok (.iconst (-1), 1) := by decide +kernel
theorem dX4_where_20 : decode cX4_where 20 = .ok (.ireturn, 1) := by decide +kernel
theorem dX4_where_21 : decode cX4_where 21 = .ok (.aload 4, 2) := by decide +kernel
theorem dX4_where_23 : decode cX4_where 23 = .ok (.iload_n 2, 1) := by decide +kernel
theorem dX4_where_24 : decode cX4_where 24 = .ok (.invokevirtual 69, 3) := by decide +kernel
theorem dX4_where_27 : decode cX4_where 27 = .ok (.astore 5, 2) := by decide +kernel
theorem dX4_where_29 : decode cX4_where 29 = .ok (.iload_n 3, 1) := by decide +kernel
theorem dX4_where_30 : decode cX4_where 30 = .ok (.tableswitch 64 0 4 #[34, 40, 46, 52, 58], 34) := by decide +kernel
theorem dX4_where_64 : decode cX4_where 64 = .ok (.aload 5, 2) := by decide +kernel
theorem dX4_where_66 : decode cX4_where 66 = .ok (.getfield 73, 3) := by decide +kernel
theorem dX4_where_69 : decode cX4_where 69 = .ok (.ireturn, 1) := by decide +kernel
theorem dX4_where_70 : decode cX4_where 70 = .ok (.aload 5, 2) := by decide +kernel
theorem dX4_where_72 : decode cX4_where 72 = .ok (.getfield 78, 3) := by decide +kernel
theorem dX4_where_75 : decode cX4_where 75 = .ok (.ireturn, 1) := by decide +kernel
theorem dX4_where_76 : decode cX4_where 76 = .ok (.aload 5, 2) := by decide +kernel
theorem dX4_where_78 : decode cX4_where 78 = .ok (.getfield 81, 3) := by decide +kernel
theorem dX4_where_81 : decode cX4_where 81 = .ok (.ireturn, 1) := by decide +kernel
theorem dX4_where_82 : decode cX4_where 82 = .ok (.aload 5, 2) := by decide +kernel
theorem dX4_where_84 : decode cX4_where 84 = .ok (.getfield 84, 3) := by decide +kernel
theorem dX4_where_87 : decode cX4_where 87 = .ok (.ireturn, 1) := by decide +kernel
theorem dX4_where_88 : decode cX4_where 88 = .ok (.aload 5, 2) := by decide +kernel
theorem dX4_where_90 : decode cX4_where 90 = .ok (.invokevirtual 87, 3) := by decide +kernel
theorem dX4_where_93 : decode cX4_where 93 = .ok (.ireturn, 1) := by decide +kernel
theorem dX4_where_94 : decode cX4_where 94 = .ok (.iconst (-1), 1) := by decide +kernel
theorem dX4_where_95 : decode cX4_where 95 = .ok (.ireturn, 1) := by decide +kernel
set_option maxRecDepth 20000 in
theorem ggX4_ground_X1_init : GoodIn wsX4_ground wsX1_init := goodIn_r _ [8, 9, 10, 11, 12, 13, 20] (by decide +kernel) (by decide +kernel)
set_option maxRecDepth 20000 in
theorem gX4_ground_X1_init : GoodIn wsX4_ground (wsX1_init) := ggX4_ground_X1_init
theorem dX4_ground_0 : decode cX4_ground 0 = .ok (.aload_n 0, 1) := by decide +kernel
theorem dX4_ground_1 : decode cX4_ground 1 = .ok (.getfield 37, 3) := by decide +kernel
theorem dX4_ground_4 : decode cX4_ground 4 = .ok (.iconst 4, 1) := by decide +kernel
theorem dX4_ground_5 : decode cX4_ground 5 = .ok (.if_icmp .lt 5, 3) := by decide +kernel
theorem dX4_ground_8 : decode cX4_ground 8 = .ok (.iconst (-1), 1) := by decide +kernel
theorem dX4_ground_9 : decode cX4_ground 9 = .ok (.ireturn, 1) := by decide +kernel
theorem dX4_ground_10 : decode cX4_ground 10 = .ok (.aload_n 0, 1) := by decide +kernel
theorem dX4_ground_11 : decode cX4_ground 11 = .ok (.getfield 17, 3) := by decide +kernel
theorem dX4_ground_14 : decode cX4_ground 14 = .ok (.aload_n 0, 1) := by decide +kernel
theorem dX4_ground_15 : decode cX4_ground 15 = .ok (.getfield 37, 3) := by decide +kernel
theorem dX4_ground_18 : decode cX4_ground 18 = .ok (.new 15, 3) := by decide +kernel
theorem dX4_ground_21 : decode cX4_ground 21 = .ok (.dup, 1) := by decide +kernel
theorem dX4_ground_22 : decode cX4_ground 22 = .ok (.invokespecial 21, 3) := by decide +kernel
theorem dX4_ground_25 : decode cX4_ground 25 = .ok (.aastore, 1) := by decide +kernel
theorem dX4_ground_26 : decode cX4_ground 26 = .ok (.aload_n 0, 1) := by decide +kernel
theorem dX4_ground_27 : decode cX4_ground 27 = .ok (.dup, 1) := by decide +kernel
theorem dX4_ground_28 : decode cX4_ground 28 = .ok (.getfield 37, 3) := by decide +kernel
theorem dX4_ground_31 : decode cX4_ground 31 = .ok (.iconst 1, 1) := by decide +kernel
theorem dX4_ground_32 : decode cX4_ground 32 = .ok (.iadd, 1) := by decide +kernel
theorem dX4_ground_33 : decode cX4_ground 33 = .ok (.putfield 37, 3) := by decide +kernel
theorem dX4_ground_36 : decode cX4_ground 36 = .ok (.aload_n 0, 1) := by decide +kernel
theorem dX4_ground_37 : decode cX4_ground 37 = .ok (.getfield 37, 3) := by decide +kernel
theorem dX4_ground_40 : decode cX4_ground 40 = .ok (.iconst 1, 1) := by decide +kernel
theorem dX4_ground_41 : decode cX4_ground 41 = .ok (.isub, 1) := by decide +kernel
theorem dX4_ground_42 : decode cX4_ground 42 = .ok (.ireturn, 1) := by decide +kernel
set_option maxRecDepth 20000 in
theorem ggX4_draw_X4_groundOf : GoodIn wsX4_draw wsX4_groundOf := goodIn_r _ [8, 9, 10, 65, 66, 67, 68, 69, 70] (by decide +kernel) (by decide +kernel)
set_option maxRecDepth 20000 in
theorem gX4_draw_X4_groundOf : GoodIn wsX4_draw (wsV RX4 90 RX4 yX4_groundOf wsX4_groundOf) := goodIn_app (goodIn_of _ (by decide +kernel)) ggX4_draw_X4_groundOf
set_option maxRecDepth 20000 in
theorem ggX4_draw_X4_isPlace : GoodIn wsX4_draw wsX4_isPlace := goodIn_r _ [13] (by decide +kernel) (by decide +kernel)
set_option maxRecDepth 20000 in
theorem gX4_draw_X4_isPlace : GoodIn wsX4_draw (va_wsS RX4 51 yX4_isPlace wsX4_isPlace) := goodIn_app (goodIn_of _ (by decide +kernel)) ggX4_draw_X4_isPlace
set_option maxRecDepth 20000 in
theorem ggX4_draw_X4_xOf : GoodIn wsX4_draw wsX4_xOf := goodIn_r _ [16] (by decide +kernel) (by decide +kernel)
set_option maxRecDepth 20000 in
theorem gX4_draw_X4_xOf : GoodIn wsX4_draw (va_wsS RX4 94 yX4_xOf wsX4_xOf) := goodIn_app (goodIn_of _ (by decide +kernel)) ggX4_draw_X4_xOf
set_option maxRecDepth 20000 in
theorem ggX4_draw_X4_yOf : GoodIn wsX4_draw wsX4_yOf := goodIn_r _ [19] (by decide +kernel) (by decide +kernel)
set_option maxRecDepth 20000 in
theorem gX4_draw_X4_yOf : GoodIn wsX4_draw (va_wsS RX4 98 yX4_yOf wsX4_yOf) := goodIn_app (goodIn_of _ (by decide +kernel)) ggX4_draw_X4_yOf
set_option maxRecDepth 20000 in
theorem ggX4_draw_X0_init : GoodIn wsX4_draw wsX0_init := goodIn_r _ [22, 23, 24, 25, 26, 27, 28, 29, 61, 62, 63, 64] (by decide +kernel) (by decide +kernel)
set_option maxRecDepth 20000 in
theorem gX4_draw_X0_init : GoodIn wsX4_draw (wsX0_init) := ggX4_draw_X0_init
set_option maxRecDepth 20000 in
theorem ggX4_draw_X0_isEmpty : GoodIn wsX4_draw wsX0_isEmpty := goodIn_r _ [33, 26, 27, 28, 29, 61, 62, 63, 64] (by decide +kernel) (by decide +kernel)
set_option maxRecDepth 20000 in
theorem gX4_draw_X0_isEmpty : GoodIn wsX4_draw (wsV RX4 104 RX0 yX0_isEmpty wsX0_isEmpty) := goodIn_app (goodIn_of _ (by decide +kernel)) ggX4_draw_X0_isEmpty
set_option maxRecDepth 20000 in
theorem ggX4_draw_X1_add : GoodIn wsX4_draw wsX1_add := goodIn_r _ [38, 39, 40, 41, 42, 3, 43, 44, 29, 28, 61, 62, 63, 64, 71] (by decide +kernel) (by decide +kernel)
set_option maxRecDepth 20000 in
theorem gX4_draw_X1_add : GoodIn wsX4_draw (wsV RX4 107 RX1 yX1_add wsX1_add) := goodIn_app (goodIn_of _ (by decide +kernel)) ggX4_draw_X1_add
set_option maxRecDepth 20000 in
theorem ggX4_draw_X1_remove : GoodIn wsX4_draw wsX1_remove := goodIn_r _ [48, 39, 49, 40, 41, 42, 3, 43, 44, 29, 28, 61, 62, 63, 64, 71] (by decide +kernel) (by decide +kernel)
set_option maxRecDepth 20000 in
theorem gX4_draw_X1_remove : GoodIn wsX4_draw (wsV RX4 111 RX1 yX1_remove wsX1_remove) := goodIn_app (goodIn_of _ (by decide +kernel)) ggX4_draw_X1_remove
set_option maxRecDepth 20000 in
theorem ggX4_draw_X1_size : GoodIn wsX4_draw wsX1_size := goodIn_r _ [53, 39, 54, 55, 56, 57, 58, 59, 60, 71] (by decide +kernel) (by decide +kernel)
set_option maxRecDepth 20000 in
theorem gX4_draw_X1_size : GoodIn wsX4_draw (wsV RX4 114 RX1 yX1_size wsX1_size) := goodIn_app (goodIn_of _ (by decide +kernel)) ggX4_draw_X1_size
theorem dX4_draw_0 : decode cX4_draw 0 = .ok (.aload_n 0, 1) := by decide +kernel
theorem dX4_draw_1 : decode cX4_draw 1 = .ok (.iload_n 1, 1) := by decide +kernel
theorem dX4_draw_2 : decode cX4_draw 2 = .ok (.invokevirtual 90, 3) := by decide +kernel
theorem dX4_draw_5 : decode cX4_draw 5 = .ok (.astore 5, 2) := by decide +kernel
theorem dX4_draw_7 : decode cX4_draw 7 = .ok (.aload 5, 2) := by decide +kernel
theorem dX4_draw_9 : decode cX4_draw 9 = .ok (.ifnull 17, 3) := by decide +kernel
theorem dX4_draw_12 : decode cX4_draw 12 = .ok (.iload_n 2, 1) := by decide +kernel
theorem dX4_draw_13 : decode cX4_draw 13 = .ok (.invokestatic 51, 3) := by decide +kernel
theorem dX4_draw_16 : decode cX4_draw 16 = .ok (.ifCond .eq 10, 3) := by decide +kernel
theorem dX4_draw_19 : decode cX4_draw 19 = .ok (.iload_n 3, 1) := by decide +kernel
theorem dX4_draw_20 : decode cX4_draw 20 = .ok (.invokestatic 51, 3) := by decide +kernel
theorem dX4_draw_23 : decode cX4_draw 23 = .ok (.ifCond .ne 5, 3) := by decide +kernel
theorem dX4_draw_26 : decode cX4_draw 26 = .ok (.iconst (-1), 1) := by decide +kernel
theorem dX4_draw_27 : decode cX4_draw 27 = .ok (.ireturn, 1) := by decide +kernel
theorem dX4_draw_28 : decode cX4_draw 28 = .ok (.new 74, 3) := by decide +kernel
theorem dX4_draw_31 : decode cX4_draw 31 = .ok (.dup, 1) := by decide +kernel
theorem dX4_draw_32 : decode cX4_draw 32 = .ok (.iload_n 2, 1) := by decide +kernel
theorem dX4_draw_33 : decode cX4_draw 33 = .ok (.invokestatic 94, 3) := by decide +kernel
theorem dX4_draw_36 : decode cX4_draw 36 = .ok (.iload_n 3, 1) := by decide +kernel
theorem dX4_draw_37 : decode cX4_draw 37 = .ok (.invokestatic 94, 3) := by decide +kernel
theorem dX4_draw_40 : decode cX4_draw 40 = .ok (.iload_n 2, 1) := by decide +kernel
theorem dX4_draw_41 : decode cX4_draw 41 = .ok (.invokestatic 98, 3) := by decide +kernel
theorem dX4_draw_44 : decode cX4_draw 44 = .ok (.iload_n 3, 1) := by decide +kernel
theorem dX4_draw_45 : decode cX4_draw 45 = .ok (.invokestatic 98, 3) := by decide +kernel
theorem dX4_draw_48 : decode cX4_draw 48 = .ok (.invokespecial 101, 3) := by decide +kernel
theorem dX4_draw_51 : decode cX4_draw 51 = .ok (.astore 6, 2) := by decide +kernel
theorem dX4_draw_53 : decode cX4_draw 53 = .ok (.aload 6, 2) := by decide +kernel
theorem dX4_draw_55 : decode cX4_draw 55 = .ok (.invokevirtual 104, 3) := by decide +kernel
theorem dX4_draw_58 : decode cX4_draw 58 = .ok (.ifCond .eq 5, 3) := by decide +kernel
theorem dX4_draw_61 : decode cX4_draw 61 = .ok (.iconst (-1), 1) := by decide +kernel
theorem dX4_draw_62 : decode cX4_draw 62 = .ok (.ireturn, 1) := by decide +kernel
theorem dX4_draw_63 : decode cX4_draw 63 = .ok (.iload 4, 2) := by decide +kernel
theorem dX4_draw_65 : decode cX4_draw 65 = .ok (.ifCond .eq 13, 3) := by decide +kernel
theorem dX4_draw_68 : decode cX4_draw 68 = .ok (.aload 5, 2) := by decide +kernel
theorem dX4_draw_70 : decode cX4_draw 70 = .ok (.aload 6, 2) := by decide +kernel
theorem dX4_draw_72 : decode cX4_draw 72 = .ok (.invokevirtual 107, 3) := by decide +kernel
theorem dX4_draw_75 : decode cX4_draw 75 = .ok (.goto 10, 3) := by decide +kernel
theorem dX4_draw_78 : decode cX4_draw 78 = .ok (.aload 5, 2) := by decide +kernel
theorem dX4_draw_80 : decode cX4_draw 80 = .ok (.aload 6, 2) := by decide +kernel
theorem dX4_draw_82 : decode cX4_draw 82 = .ok (.invokevirtual 111, 3) := by decide +kernel
theorem dX4_draw_85 : decode cX4_draw 85 = .ok (.aload 5, 2) := by decide +kernel
theorem dX4_draw_87 : decode cX4_draw 87 = .ok (.invokevirtual 114, 3) := by decide +kernel
theorem dX4_draw_90 : decode cX4_draw 90 = .ok (.ireturn, 1) := by decide +kernel
set_option maxRecDepth 20000 in
theorem ggX4_has_X4_groundOf : GoodIn wsX4_has wsX4_groundOf := goodIn_r _ [5, 6, 7, 23, 24, 25, 26, 27, 28] (by decide +kernel) (by decide +kernel)
set_option maxRecDepth 20000 in
theorem gX4_has_X4_groundOf : GoodIn wsX4_has (wsV RX4 90 RX4 yX4_groundOf wsX4_groundOf) := goodIn_app (goodIn_of _ (by decide +kernel)) ggX4_has_X4_groundOf
set_option maxRecDepth 20000 in
theorem ggX4_has_X4_isPlace : GoodIn wsX4_has wsX4_isPlace := goodIn_r _ [10] (by decide +kernel) (by decide +kernel)
set_option maxRecDepth 20000 in
theorem gX4_has_X4_isPlace : GoodIn wsX4_has (va_wsS RX4 51 yX4_isPlace wsX4_isPlace) := goodIn_app (goodIn_of _ (by decide +kernel)) ggX4_has_X4_isPlace
set_option maxRecDepth 20000 in
theorem ggX4_has_X4_xOf : GoodIn wsX4_has wsX4_xOf := goodIn_r _ [13] (by decide +kernel) (by decide +kernel)
set_option maxRecDepth 20000 in
theorem gX4_has_X4_xOf : GoodIn wsX4_has (va_wsS RX4 94 yX4_xOf wsX4_xOf) := goodIn_app (goodIn_of _ (by decide +kernel)) ggX4_has_X4_xOf
set_option maxRecDepth 20000 in
theorem ggX4_has_X4_yOf : GoodIn wsX4_has wsX4_yOf := goodIn_r _ [16] (by decide +kernel) (by decide +kernel)
set_option maxRecDepth 20000 in
theorem gX4_has_X4_yOf : GoodIn wsX4_has (va_wsS RX4 98 yX4_yOf wsX4_yOf) := goodIn_app (goodIn_of _ (by decide +kernel)) ggX4_has_X4_yOf
set_option maxRecDepth 20000 in
theorem ggX4_has_X1_holds : GoodIn wsX4_has wsX1_holds := goodIn_r _ [21, 22, 29] (by decide +kernel) (by decide +kernel)
set_option maxRecDepth 20000 in
theorem gX4_has_X1_holds : GoodIn wsX4_has (wsV RX4 115 RX1 yX1_holds wsX1_holds) := goodIn_app (goodIn_of _ (by decide +kernel)) ggX4_has_X1_holds
theorem dX4_has_0 : decode cX4_has 0 = .ok (.aload_n 0, 1) := by decide +kernel
theorem dX4_has_1 : decode cX4_has 1 = .ok (.iload_n 1, 1) := by decide +kernel
theorem dX4_has_2 : decode cX4_has 2 = .ok (.invokevirtual 90, 3) := by decide +kernel
theorem dX4_has_5 : decode cX4_has 5 = .ok (.astore_n 3, 1) := by decide +kernel
theorem dX4_has_6 : decode cX4_has 6 = .ok (.aload_n 3, 1) := by decide +kernel
theorem dX4_has_7 : decode cX4_has 7 = .ok (.ifnull 29, 3) := by decide +kernel
theorem dX4_has_10 : decode cX4_has 10 = .ok (.iload_n 2, 1) := by decide +kernel
theorem dX4_has_11 : decode cX4_has 11 = .ok (.invokestatic 51, 3) := by decide +kernel
theorem dX4_has_14 : decode cX4_has 14 = .ok (.ifCond .eq 22, 3) := by decide +kernel
theorem dX4_has_17 : decode cX4_has 17 = .ok (.aload_n 3, 1) := by decide +kernel
theorem dX4_has_18 : decode cX4_has 18 = .ok (.iload_n 2, 1) := by decide +kernel
theorem dX4_has_19 : decode cX4_has 19 = .ok (.invokestatic 94, 3) := by decide +kernel
theorem dX4_has_22 : decode cX4_has 22 = .ok (.iload_n 2, 1) := by decide +kernel
theorem dX4_has_23 : decode cX4_has 23 = .ok (.invokestatic 98, 3) := by decide +kernel
theorem dX4_has_26 : decode cX4_has 26 = .ok (.invokevirtual 115, 3) := by decide +kernel
theorem dX4_has_29 : decode cX4_has 29 = .ok (.ifCond .eq 7, 3) := by decide +kernel
theorem dX4_has_32 : decode cX4_has 32 = .ok (.iconst 1, 1) := by decide +kernel
theorem dX4_has_33 : decode cX4_has 33 = .ok (.goto 4, 3) := by decide +kernel
theorem dX4_has_36 : decode cX4_has 36 = .ok (.iconst 0, 1) := by decide +kernel
theorem dX4_has_37 : decode cX4_has 37 = .ok (.ireturn, 1) := by decide +kernel
set_option maxRecDepth 20000 in
theorem ggX4_state_X4_thingOf : GoodIn wsX4_state wsX4_thingOf := goodIn_r _ [5, 6, 7, 44, 45, 46, 47, 48, 49] (by decide +kernel) (by decide +kernel)
set_option maxRecDepth 20000 in
theorem gX4_state_X4_thingOf : GoodIn wsX4_state (wsV RX4 43 RX4 yX4_thingOf wsX4_thingOf) := goodIn_app (goodIn_of _ (by decide +kernel)) ggX4_state_X4_thingOf
set_option maxRecDepth 20000 in
theorem ggX4_state_X4_groundOf : GoodIn wsX4_state wsX4_groundOf := goodIn_r _ [11, 12, 13, 44, 45, 46, 47, 48, 49] (by decide +kernel) (by decide +kernel)
set_option maxRecDepth 20000 in
theorem gX4_state_X4_groundOf : GoodIn wsX4_state (wsV RX4 90 RX4 yX4_groundOf wsX4_groundOf) := goodIn_app (goodIn_of _ (by decide +kernel)) ggX4_state_X4_groundOf
set_option maxRecDepth 20000 in
theorem ggX4_state_X4_isTick : GoodIn wsX4_state wsX4_isTick := goodIn_r _ [16] (by decide +kernel) (by decide +kernel)
set_option maxRecDepth 20000 in
theorem gX4_state_X4_isTick : GoodIn wsX4_state (va_wsS RX4 47 yX4_isTick wsX4_isTick) := goodIn_app (goodIn_of _ (by decide +kernel)) ggX4_state_X4_isTick
set_option maxRecDepth 20000 in
theorem ggX4_state_X4_stateOf : GoodIn wsX4_state wsX4_stateOf := goodIn_r _ [19, 20, 21, 22, 23, 24, 25, 26, 27, 28, 29, 30, 31, 32, 33, 34, 35, 36, 37, 38, 39, 40, 41, 42, 43, 50, 51, 52, 53, 54, 55, 56, 57, 58, 59, 60, 61] (by decide +kernel) (by decide +kernel)
set_option maxRecDepth 20000 in
theorem gX4_state_X4_stateOf : GoodIn wsX4_state (va_wsS RX4 119 yX4_stateOf wsX4_stateOf) := goodIn_app (goodIn_of _ (by decide +kernel)) ggX4_state_X4_stateOf
theorem dX4_state_0 : decode cX4_state 0 = .ok (.aload_n 0, 1) := by decide +kernel
theorem dX4_state_1 : decode cX4_state 1 = .ok (.iload_n 1, 1) := by decide +kernel
theorem dX4_state_2 : decode cX4_state 2 = .ok (.invokevirtual 43, 3) := by decide +kernel
theorem dX4_state_5 : decode cX4_state 5 = .ok (.astore 4, 2) := by decide +kernel
theorem dX4_state_7 : decode cX4_state 7 = .ok (.aload_n 0, 1) := by decide +kernel
theorem dX4_state_8 : decode cX4_state 8 = .ok (.iload_n 2, 1) := by decide +kernel
theorem dX4_state_9 : decode cX4_state 9 = .ok (.invokevirtual 90, 3) := by decide +kernel
theorem dX4_state_12 : decode cX4_state 12 = .ok (.astore 5, 2) := by decide +kernel
theorem dX4_state_14 : decode cX4_state 14 = .ok (.aload 4, 2) := by decide +kernel
theorem dX4_state_16 : decode cX4_state 16 = .ok (.ifnull 15, 3) := by decide +kernel
theorem dX4_state_19 : decode cX4_state 19 = .ok (.aload 5, 2) := by decide +kernel
theorem dX4_state_21 : decode cX4_state 21 = .ok (.ifnull 10, 3) := by decide +kernel
theorem dX4_state_24 : decode cX4_state 24 = .ok (.iload_n 3, 1) := by decide +kernel
theorem dX4_state_25 : decode cX4_state 25 = .ok (.invokestatic 47, 3) := by decide +kernel
theorem dX4_state_28 : decode cX4_state 28 = .ok (.ifCond .ne 5, 3) := by decide +kernel
theorem dX4_state_31 : decode cX4_state 31 = .ok (.iconst (-1), 1) := by decide +kernel
theorem dX4_state_32 : decode cX4_state 32 = .ok (.ireturn, 1) := by decide +kernel
theorem dX4_state_33 : decode cX4_state 33 = .ok (.aload 4, 2) := by decide +kernel
theorem dX4_state_35 : decode cX4_state 35 = .ok (.aload 5, 2) := by decide +kernel
theorem dX4_state_37 : decode cX4_state 37 = .ok (.iload_n 3, 1) := by decide +kernel
theorem dX4_state_38 : decode cX4_state 38 = .ok (.invokestatic 119, 3) := by decide +kernel
theorem dX4_state_41 : decode cX4_state 41 = .ok (.ireturn, 1) := by decide +kernel
set_option maxRecDepth 20000 in
theorem ggX4_entered_X4_thingOf : GoodIn wsX4_entered wsX4_thingOf := goodIn_r _ [6, 7, 8, 71, 72, 73, 74, 75, 76] (by decide +kernel) (by decide +kernel)
set_option maxRecDepth 20000 in
theorem gX4_entered_X4_thingOf : GoodIn wsX4_entered (wsV RX4 43 RX4 yX4_thingOf wsX4_thingOf) := goodIn_app (goodIn_of _ (by decide +kernel)) ggX4_entered_X4_thingOf
set_option maxRecDepth 20000 in
theorem ggX4_entered_X4_groundOf : GoodIn wsX4_entered wsX4_groundOf := goodIn_r _ [12, 13, 14, 71, 72, 73, 74, 75, 76] (by decide +kernel) (by decide +kernel)
set_option maxRecDepth 20000 in
theorem gX4_entered_X4_groundOf : GoodIn wsX4_entered (wsV RX4 90 RX4 yX4_groundOf wsX4_groundOf) := goodIn_app (goodIn_of _ (by decide +kernel)) ggX4_entered_X4_groundOf
set_option maxRecDepth 20000 in
theorem ggX4_entered_X4_isStretch : GoodIn wsX4_entered wsX4_isStretch := goodIn_r _ [17, 18, 19, 5, 20] (by decide +kernel) (by decide +kernel)
set_option maxRecDepth 20000 in
theorem gX4_entered_X4_isStretch : GoodIn wsX4_entered (va_wsS RX4 123 yX4_isStretch wsX4_isStretch) := goodIn_app (goodIn_of _ (by decide +kernel)) ggX4_entered_X4_isStretch
set_option maxRecDepth 20000 in
theorem ggX4_entered_X3_reachAt : GoodIn wsX4_entered wsX3_reachAt := goodIn_r _ [25, 26, 77, 78, 79, 80, 81, 82, 83] (by decide +kernel) (by decide +kernel)
set_option maxRecDepth 20000 in
theorem gX4_entered_X3_reachAt : GoodIn wsX4_entered (wsV RX4 69 RX3 yX3_reachAt wsX3_reachAt) := goodIn_app (goodIn_of _ (by decide +kernel)) ggX4_entered_X3_reachAt
set_option maxRecDepth 20000 in
theorem ggX4_entered_X1_setTo : GoodIn wsX4_entered wsX1_setTo := goodIn_r _ [31, 32, 33, 34, 35, 36, 37, 38, 39, 40, 84, 85, 86, 87, 88] (by decide +kernel) (by decide +kernel)
set_option maxRecDepth 20000 in
theorem gX4_entered_X1_setTo : GoodIn wsX4_entered (wsV RX4 126 RX1 yX1_setTo wsX1_setTo) := goodIn_app (goodIn_of _ (by decide +kernel)) ggX4_entered_X1_setTo
set_option maxRecDepth 20000 in
theorem ggX4_entered_X1_drop : GoodIn wsX4_entered wsX1_drop := goodIn_r _ [44, 32, 45, 84] (by decide +kernel) (by decide +kernel)
set_option maxRecDepth 20000 in
theorem gX4_entered_X1_drop : GoodIn wsX4_entered (wsV RX4 129 RX1 yX1_drop wsX1_drop) := goodIn_app (goodIn_of _ (by decide +kernel)) ggX4_entered_X1_drop
set_option maxRecDepth 20000 in
theorem ggX4_entered_X1_isEmpty : GoodIn wsX4_entered wsX1_isEmpty := goodIn_r _ [49, 32, 84] (by decide +kernel) (by decide +kernel)
set_option maxRecDepth 20000 in
theorem gX4_entered_X1_isEmpty : GoodIn wsX4_entered (wsV RX4 133 RX1 yX1_isEmpty wsX1_isEmpty) := goodIn_app (goodIn_of _ (by decide +kernel)) ggX4_entered_X1_isEmpty
set_option maxRecDepth 20000 in
theorem ggX4_entered_X3_advance : GoodIn wsX4_entered wsX3_advance := goodIn_r _ [53, 54, 26, 55, 56, 57, 30, 58, 59, 60, 61, 62, 63, 64, 65, 66, 32, 67, 68, 69, 70, 33, 34, 35, 36, 37, 38, 39, 40, 77, 78, 79, 80, 81, 82, 83, 84, 85, 86, 87, 88] (by decide +kernel) (by decide +kernel)
set_option maxRecDepth 20000 in
theorem gX4_entered_X3_advance : GoodIn wsX4_entered (wsV RX4 134 RX3 yX3_advance wsX3_advance) := goodIn_app (goodIn_of _ (by decide +kernel)) ggX4_entered_X3_advance
theorem dX4_entered_0 : decode cX4_entered 0 = .ok (.aload_n 0, 1) := by decide +kernel
theorem dX4_entered_1 : decode cX4_entered 1 = .ok (.iload_n 1, 1) := by decide +kernel
theorem dX4_entered_2 : decode cX4_entered 2 = .ok (.invokevirtual 43, 3) := by decide +kernel
theorem dX4_entered_5 : decode cX4_entered 5 = .ok (.astore 5, 2) := by decide +kernel
theorem dX4_entered_7 : decode cX4_entered 7 = .ok (.aload_n 0, 1) := by decide +kernel
theorem dX4_entered_8 : decode cX4_entered 8 = .ok (.iload_n 2, 1) := by decide +kernel
theorem dX4_entered_9 : decode cX4_entered 9 = .ok (.invokevirtual 90, 3) := by decide +kernel
theorem dX4_entered_12 : decode cX4_entered 12 = .ok (.astore 6, 2) := by decide +kernel
theorem dX4_entered_14 : decode cX4_entered 14 = .ok (.aload 5, 2) := by decide +kernel
theorem dX4_entered_16 : decode cX4_entered 16 = .ok (.ifnull 17, 3) := by decide +kernel
theorem dX4_entered_19 : decode cX4_entered 19 = .ok (.aload 6, 2) := by decide +kernel
theorem dX4_entered_21 : decode cX4_entered 21 = .ok (.ifnull 12, 3) := by decide +kernel
theorem dX4_entered_24 : decode cX4_entered 24 = .ok (.iload_n 3, 1) := by decide +kernel
theorem dX4_entered_25 : decode cX4_entered 25 = .ok (.iload 4, 2) := by decide +kernel
theorem dX4_entered_27 : decode cX4_entered 27 = .ok (.invokestatic 123, 3) := by decide +kernel
theorem dX4_entered_30 : decode cX4_entered 30 = .ok (.ifCond .ne 5, 3) := by decide +kernel
theorem dX4_entered_33 : decode cX4_entered 33 = .ok (.iconst (-1), 1) := by decide +kernel
theorem dX4_entered_34 : decode cX4_entered 34 = .ok (.ireturn, 1) := by decide +kernel
theorem dX4_entered_35 : decode cX4_entered 35 = .ok (.aload_n 0, 1) := by decide +kernel
theorem dX4_entered_36 : decode cX4_entered 36 = .ok (.getfield 22, 3) := by decide +kernel
theorem dX4_entered_39 : decode cX4_entered 39 = .ok (.aload 5, 2) := by decide +kernel
theorem dX4_entered_41 : decode cX4_entered 41 = .ok (.iload_n 3, 1) := by decide +kernel
theorem dX4_entered_42 : decode cX4_entered 42 = .ok (.invokevirtual 69, 3) := by decide +kernel
theorem dX4_entered_45 : decode cX4_entered 45 = .ok (.invokevirtual 126, 3) := by decide +kernel
theorem dX4_entered_48 : decode cX4_entered 48 = .ok (.aload_n 0, 1) := by decide +kernel
theorem dX4_entered_49 : decode cX4_entered 49 = .ok (.getfield 22, 3) := by decide +kernel
theorem dX4_entered_52 : decode cX4_entered 52 = .ok (.aload 6, 2) := by decide +kernel
theorem dX4_entered_54 : decode cX4_entered 54 = .ok (.invokevirtual 129, 3) := by decide +kernel
theorem dX4_entered_57 : decode cX4_entered 57 = .ok (.iload_n 3, 1) := by decide +kernel
theorem dX4_entered_58 : decode cX4_entered 58 = .ok (.istore 7, 2) := by decide +kernel
theorem dX4_entered_60 : decode cX4_entered 60 = .ok (.iload 7, 2) := by decide +kernel
theorem dX4_entered_62 : decode cX4_entered 62 = .ok (.iload 4, 2) := by decide +kernel
theorem dX4_entered_64 : decode cX4_entered 64 = .ok (.if_icmp .ge 39, 3) := by decide +kernel
theorem dX4_entered_67 : decode cX4_entered 67 = .ok (.aload_n 0, 1) := by decide +kernel
theorem dX4_entered_68 : decode cX4_entered 68 = .ok (.getfield 22, 3) := by decide +kernel
theorem dX4_entered_71 : decode cX4_entered 71 = .ok (.invokevirtual 133, 3) := by decide +kernel
theorem dX4_entered_74 : decode cX4_entered 74 = .ok (.ifCond .ne 29, 3) := by decide +kernel
theorem dX4_entered_77 : decode cX4_entered 77 = .ok (.iinc 7 1, 3) := by decide +kernel
theorem dX4_entered_80 : decode cX4_entered 80 = .ok (.aload 5, 2) := by decide +kernel
theorem dX4_entered_82 : decode cX4_entered 82 = .ok (.aload_n 0, 1) := by decide +kernel
theorem dX4_entered_83 : decode cX4_entered 83 = .ok (.getfield 22, 3) := by decide +kernel
theorem dX4_entered_86 : decode cX4_entered 86 = .ok (.iload 7, 2) := by decide +kernel
theorem dX4_entered_88 : decode cX4_entered 88 = .ok (.invokevirtual 134, 3) := by decide +kernel
theorem dX4_entered_91 : decode cX4_entered 91 = .ok (.aload_n 0, 1) := by decide +kernel
theorem dX4_entered_92 : decode cX4_entered 92 = .ok (.getfield 22, 3) := by decide +kernel
theorem dX4_entered_95 : decode cX4_entered 95 = .ok (.aload 6, 2) := by decide +kernel
theorem dX4_entered_97 : decode cX4_entered 97 = .ok (.invokevirtual 129, 3) := by decide +kernel
theorem dX4_entered_100 : decode cX4_entered 100 = .ok (.goto (-40), 3) := by decide +kernel
theorem dX4_entered_103 : decode cX4_entered 103 = .ok (.aload_n 0, 1) := by decide +kernel
theorem dX4_entered_104 : decode cX4_entered 104 = .ok (.getfield 22, 3) := by decide +kernel
theorem dX4_entered_107 : decode cX4_entered 107 = .ok (.invokevirtual 133, 3) := by decide +kernel
theorem dX4_entered_110 : decode cX4_entered 110 = .ok (.ifCond .eq 8, 3) := by decide +kernel
theorem dX4_entered_113 : decode cX4_entered 113 = .ok (.iload 7, 2) := by decide +kernel
theorem dX4_entered_115 : decode cX4_entered 115 = .ok (.goto 4, 3) := by decide +kernel
theorem dX4_entered_118 : decode cX4_entered 118 = .ok (.iconst (-1), 1) := by decide +kernel
theorem dX4_entered_119 : decode cX4_entered 119 = .ok (.ireturn, 1) := by decide +kernel
set_option maxRecDepth 20000 in
theorem ggX4_stay_X4_thingOf : GoodIn wsX4_stay wsX4_thingOf := goodIn_r _ [7, 8, 9, 104, 105, 106, 107, 108, 109] (by decide +kernel) (by decide +kernel)
set_option maxRecDepth 20000 in
theorem gX4_stay_X4_thingOf : GoodIn wsX4_stay (wsV RX4 43 RX4 yX4_thingOf wsX4_thingOf) := goodIn_app (goodIn_of _ (by decide +kernel)) ggX4_stay_X4_thingOf
set_option maxRecDepth 20000 in
theorem ggX4_stay_X4_groundOf : GoodIn wsX4_stay wsX4_groundOf := goodIn_r _ [13, 14, 15, 104, 105, 106, 107, 108, 109] (by decide +kernel) (by decide +kernel)
set_option maxRecDepth 20000 in
theorem gX4_stay_X4_groundOf : GoodIn wsX4_stay (wsV RX4 90 RX4 yX4_groundOf wsX4_groundOf) := goodIn_app (goodIn_of _ (by decide +kernel)) ggX4_stay_X4_groundOf
set_option maxRecDepth 20000 in
theorem ggX4_stay_X4_isStretch : GoodIn wsX4_stay wsX4_isStretch := goodIn_r _ [18, 19, 20, 6, 21] (by decide +kernel) (by decide +kernel)
set_option maxRecDepth 20000 in
theorem gX4_stay_X4_isStretch : GoodIn wsX4_stay (va_wsS RX4 123 yX4_isStretch wsX4_isStretch) := goodIn_app (goodIn_of _ (by decide +kernel)) ggX4_stay_X4_isStretch
set_option maxRecDepth 20000 in
theorem ggX4_stay_X2_fewest : GoodIn wsX4_stay wsX2_fewest := goodIn_r _ [26, 27, 28, 29, 30, 31, 25, 32, 33, 34, 35, 36, 37, 38, 39, 40, 41, 42, 43, 44, 45, 46, 47, 48, 49, 50, 51, 52, 53, 54, 55, 56, 57, 58, 59, 60, 61, 62, 63, 64, 65, 66, 67, 68, 69, 70, 71, 72, 73, 74, 75, 76, 77, 78, 79, 80, 81, 82, 83, 84, 85, 86, 87, 88, 89, 90, 91, 92, 93, 94, 95, 96, 97, 98, 99, 110, 111, 112, 113, 114, 115, 116, 117, 118, 119, 120, 121, 122, 123, 124] (by decide +kernel) (by decide +kernel)
set_option maxRecDepth 20000 in
theorem gX4_stay_X2_fewest : GoodIn wsX4_stay (wsV RX4 138 RX2 yX2_fewest wsX2_fewest) := goodIn_app (goodIn_of _ (by decide +kernel)) ggX4_stay_X2_fewest
set_option maxRecDepth 20000 in
theorem ggX4_stay_X1_setToAllBut : GoodIn wsX4_stay wsX1_setToAllBut := goodIn_r _ [103, 54, 83, 120] (by decide +kernel) (by decide +kernel)
set_option maxRecDepth 20000 in
theorem gX4_stay_X1_setToAllBut : GoodIn wsX4_stay (wsV RX4 142 RX1 yX1_setToAllBut wsX1_setToAllBut) := goodIn_app (goodIn_of _ (by decide +kernel)) ggX4_stay_X1_setToAllBut
theorem dX4_stay_0 : decode cX4_stay 0 = .ok (.aload_n 0, 1) := by decide +kernel
theorem dX4_stay_1 : decode cX4_stay 1 = .ok (.iload_n 1, 1) := by decide +kernel
theorem dX4_stay_2 : decode cX4_stay 2 = .ok (.invokevirtual 43, 3) := by decide +kernel
theorem dX4_stay_5 : decode cX4_stay 5 = .ok (.astore 6, 2) := by decide +kernel
theorem dX4_stay_7 : decode cX4_stay 7 = .ok (.aload_n 0, 1) := by decide +kernel
theorem dX4_stay_8 : decode cX4_stay 8 = .ok (.iload_n 2, 1) := by decide +kernel
theorem dX4_stay_9 : decode cX4_stay 9 = .ok (.invokevirtual 90, 3) := by decide +kernel
theorem dX4_stay_12 : decode cX4_stay 12 = .ok (.astore 7, 2) := by decide +kernel
theorem dX4_stay_14 : decode cX4_stay 14 = .ok (.aload 6, 2) := by decide +kernel
theorem dX4_stay_16 : decode cX4_stay 16 = .ok (.ifnull 17, 3) := by decide +kernel
theorem dX4_stay_19 : decode cX4_stay 19 = .ok (.aload 7, 2) := by decide +kernel
theorem dX4_stay_21 : decode cX4_stay 21 = .ok (.ifnull 12, 3) := by decide +kernel
theorem dX4_stay_24 : decode cX4_stay 24 = .ok (.iload_n 3, 1) := by decide +kernel
theorem dX4_stay_25 : decode cX4_stay 25 = .ok (.iload 4, 2) := by decide +kernel
theorem dX4_stay_27 : decode cX4_stay 27 = .ok (.invokestatic 123, 3) := by decide +kernel
theorem dX4_stay_30 : decode cX4_stay 30 = .ok (.ifCond .ne 5, 3) := by decide +kernel
theorem dX4_stay_33 : decode cX4_stay 33 = .ok (.iconst (-1), 1) := by decide +kernel
theorem dX4_stay_34 : decode cX4_stay 34 = .ok (.ireturn, 1) := by decide +kernel
theorem dX4_stay_35 : decode cX4_stay 35 = .ok (.iload 5, 2) := by decide +kernel
theorem dX4_stay_37 : decode cX4_stay 37 = .ok (.lookupswitch 75 #[(0, 27), (1, 42)], 27) := by decide +kernel
theorem dX4_stay_64 : decode cX4_stay 64 = .ok (.aload_n 0, 1) := by decide +kernel
theorem dX4_stay_65 : decode cX4_stay 65 = .ok (.getfield 29, 3) := by decide +kernel
theorem dX4_stay_68 : decode cX4_stay 68 = .ok (.aload 6, 2) := by decide +kernel
theorem dX4_stay_70 : decode cX4_stay 70 = .ok (.aload 7, 2) := by decide +kernel
theorem dX4_stay_72 : decode cX4_stay 72 = .ok (.iload_n 3, 1) := by decide +kernel
theorem dX4_stay_73 : decode cX4_stay 73 = .ok (.iload 4, 2) := by decide +kernel
theorem dX4_stay_75 : decode cX4_stay 75 = .ok (.invokevirtual 138, 3) := by decide +kernel
theorem dX4_stay_78 : decode cX4_stay 78 = .ok (.ireturn, 1) := by decide +kernel
theorem dX4_stay_79 : decode cX4_stay 79 = .ok (.aload_n 0, 1) := by decide +kernel
theorem dX4_stay_80 : decode cX4_stay 80 = .ok (.getfield 22, 3) := by decide +kernel
theorem dX4_stay_83 : decode cX4_stay 83 = .ok (.aload 7, 2) := by decide +kernel
theorem dX4_stay_85 : decode cX4_stay 85 = .ok (.invokevirtual 142, 3) := by decide +kernel
theorem dX4_stay_88 : decode cX4_stay 88 = .ok (.iload 4, 2) := by decide +kernel
theorem dX4_stay_90 : decode cX4_stay 90 = .ok (.iload_n 3, 1) := by decide +kernel
theorem dX4_stay_91 : decode cX4_stay 91 = .ok (.isub, 1) := by decide +kernel
theorem dX4_stay_92 : decode cX4_stay 92 = .ok (.iconst 1, 1) := by decide +kernel
theorem dX4_stay_93 : decode cX4_stay 93 = .ok (.iadd, 1) := by decide +kernel
theorem dX4_stay_94 : decode cX4_stay 94 = .ok (.aload_n 0, 1) := by decide +kernel
theorem dX4_stay_95 : decode cX4_stay 95 = .ok (.getfield 29, 3) := by decide +kernel
theorem dX4_stay_98 : decode cX4_stay 98 = .ok (.aload 6, 2) := by decide +kernel
theorem dX4_stay_100 : decode cX4_stay 100 = .ok (.aload_n 0, 1) := by decide +kernel
theorem dX4_stay_101 : decode cX4_stay 101 = .ok (.getfield 22, 3) := by decide +kernel
theorem dX4_stay_104 : decode cX4_stay 104 = .ok (.iload_n 3, 1) := by decide +kernel
theorem dX4_stay_105 : decode cX4_stay 105 = .ok (.iload 4, 2) := by decide +kernel
theorem dX4_stay_107 : decode cX4_stay 107 = .ok (.invokevirtual 138, 3) := by decide +kernel
theorem dX4_stay_110 : decode cX4_stay 110 = .ok (.isub, 1) := by decide +kernel
theorem dX4_stay_111 : decode cX4_stay 111 = .ok (.ireturn, 1) := by decide +kernel
theorem dX4_stay_112 : decode cX4_stay 112 = .ok (.iconst (-1), 1) := by decide +kernel
theorem dX4_stay_113 : decode cX4_stay 113 = .ok (.ireturn, 1) := by decide +kernel
set_option maxRecDepth 20000 in
theorem ggX4_look_X4_thingOf : GoodIn wsX4_look wsX4_thingOf := goodIn_r _ [9, 10, 11, 48, 49, 50, 51, 52, 53] (by decide +kernel) (by decide +kernel)
set_option maxRecDepth 20000 in
theorem gX4_look_X4_thingOf : GoodIn wsX4_look (wsV RX4 43 RX4 yX4_thingOf wsX4_thingOf) := goodIn_app (goodIn_of _ (by decide +kernel)) ggX4_look_X4_thingOf
set_option maxRecDepth 20000 in
theorem ggX4_look_X4_groundOf : GoodIn wsX4_look wsX4_groundOf := goodIn_r _ [15, 16, 17, 48, 49, 50, 51, 52, 53] (by decide +kernel) (by decide +kernel)
set_option maxRecDepth 20000 in
theorem gX4_look_X4_groundOf : GoodIn wsX4_look (wsV RX4 90 RX4 yX4_groundOf wsX4_groundOf) := goodIn_app (goodIn_of _ (by decide +kernel)) ggX4_look_X4_groundOf
set_option maxRecDepth 20000 in
theorem ggX4_look_X4_isTick : GoodIn wsX4_look wsX4_isTick := goodIn_r _ [20] (by decide +kernel) (by decide +kernel)
set_option maxRecDepth 20000 in
theorem gX4_look_X4_isTick : GoodIn wsX4_look (va_wsS RX4 47 yX4_isTick wsX4_isTick) := goodIn_app (goodIn_of _ (by decide +kernel)) ggX4_look_X4_isTick
set_option maxRecDepth 20000 in
theorem ggX4_look_X4_stateOf : GoodIn wsX4_look wsX4_stateOf := goodIn_r _ [23, 24, 25, 26, 27, 28, 29, 30, 31, 32, 33, 34, 35, 36, 37, 38, 39, 40, 41, 42, 43, 44, 45, 46, 47, 54, 55, 56, 57, 58, 59, 60, 61, 62, 63, 64, 65] (by decide +kernel) (by decide +kernel)
set_option maxRecDepth 20000 in
theorem gX4_look_X4_stateOf : GoodIn wsX4_look (va_wsS RX4 119 yX4_stateOf wsX4_stateOf) := goodIn_app (goodIn_of _ (by decide +kernel)) ggX4_look_X4_stateOf
theorem dX4_look_0 : decode cX4_look 0 = .ok (.aload_n 0, 1) := by decide +kernel
theorem dX4_look_1 : decode cX4_look 1 = .ok (.iload_n 1, 1) := by decide +kernel
theorem dX4_look_2 : decode cX4_look 2 = .ok (.invokevirtual 43, 3) := by decide +kernel
theorem dX4_look_5 : decode cX4_look 5 = .ok (.astore 5, 2) := by decide +kernel
theorem dX4_look_7 : decode cX4_look 7 = .ok (.aload_n 0, 1) := by decide +kernel
theorem dX4_look_8 : decode cX4_look 8 = .ok (.iload_n 2, 1) := by decide +kernel
theorem dX4_look_9 : decode cX4_look 9 = .ok (.invokevirtual 90, 3) := by decide +kernel
theorem dX4_look_12 : decode cX4_look 12 = .ok (.astore 6, 2) := by decide +kernel
theorem dX4_look_14 : decode cX4_look 14 = .ok (.aload 5, 2) := by decide +kernel
theorem dX4_look_16 : decode cX4_look 16 = .ok (.ifnull 15, 3) := by decide +kernel
theorem dX4_look_19 : decode cX4_look 19 = .ok (.aload 6, 2) := by decide +kernel
theorem dX4_look_21 : decode cX4_look 21 = .ok (.ifnull 10, 3) := by decide +kernel
theorem dX4_look_24 : decode cX4_look 24 = .ok (.iload_n 3, 1) := by decide +kernel
theorem dX4_look_25 : decode cX4_look 25 = .ok (.invokestatic 47, 3) := by decide +kernel
theorem dX4_look_28 : decode cX4_look 28 = .ok (.ifCond .ne 5, 3) := by decide +kernel
theorem dX4_look_31 : decode cX4_look 31 = .ok (.iconst (-1), 1) := by decide +kernel
theorem dX4_look_32 : decode cX4_look 32 = .ok (.ireturn, 1) := by decide +kernel
theorem dX4_look_33 : decode cX4_look 33 = .ok (.iload 4, 2) := by decide +kernel
theorem dX4_look_35 : decode cX4_look 35 = .ok (.ifCond .lt 21, 3) := by decide +kernel
theorem dX4_look_38 : decode cX4_look 38 = .ok (.iload 4, 2) := by decide +kernel
theorem dX4_look_40 : decode cX4_look 40 = .ok (.bipush 79, 2) := by decide +kernel
theorem dX4_look_42 : decode cX4_look 42 = .ok (.if_icmp .gt 14, 3) := by decide +kernel
theorem dX4_look_45 : decode cX4_look 45 = .ok (.aload 5, 2) := by decide +kernel
theorem dX4_look_47 : decode cX4_look 47 = .ok (.aload 6, 2) := by decide +kernel
theorem dX4_look_49 : decode cX4_look 49 = .ok (.iload_n 3, 1) := by decide +kernel
theorem dX4_look_50 : decode cX4_look 50 = .ok (.invokestatic 119, 3) := by decide +kernel
theorem dX4_look_53 : decode cX4_look 53 = .ok (.ifCond .eq 5, 3) := by decide +kernel
theorem dX4_look_56 : decode cX4_look 56 = .ok (.iconst (-1), 1) := by decide +kernel
theorem dX4_look_57 : decode cX4_look 57 = .ok (.ireturn, 1) := by decide +kernel
theorem dX4_look_58 : decode cX4_look 58 = .ok (.iload_n 3, 1) := by decide +kernel
theorem dX4_look_59 : decode cX4_look 59 = .ok (.iconst 1, 1) := by decide +kernel
theorem dX4_look_60 : decode cX4_look 60 = .ok (.iadd, 1) := by decide +kernel
theorem dX4_look_61 : decode cX4_look 61 = .ok (.istore 7, 2) := by decide +kernel
theorem dX4_look_63 : decode cX4_look 63 = .ok (.iload 7, 2) := by decide +kernel
theorem dX4_look_65 : decode cX4_look 65 = .ok (.bipush 80, 2) := by decide +kernel
theorem dX4_look_67 : decode cX4_look 67 = .ok (.if_icmp .ge 32, 3) := by decide +kernel
theorem dX4_look_70 : decode cX4_look 70 = .ok (.aload 5, 2) := by decide +kernel
theorem dX4_look_72 : decode cX4_look 72 = .ok (.aload 6, 2) := by decide +kernel
theorem dX4_look_74 : decode cX4_look 74 = .ok (.iload 7, 2) := by decide +kernel
theorem dX4_look_76 : decode cX4_look 76 = .ok (.invokestatic 119, 3) := by decide +kernel
theorem dX4_look_79 : decode cX4_look 79 = .ok (.ifCond .eq 14, 3) := by decide +kernel
theorem dX4_look_82 : decode cX4_look 82 = .ok (.iload 7, 2) := by decide +kernel
theorem dX4_look_84 : decode cX4_look 84 = .ok (.iload 4, 2) := by decide +kernel
theorem dX4_look_86 : decode cX4_look 86 = .ok (.iadd, 1) := by decide +kernel
theorem dX4_look_87 : decode cX4_look 87 = .ok (.bipush 79, 2) := by decide +kernel
theorem dX4_look_89 : decode cX4_look 89 = .ok (.invokestatic 145, 3) := by decide +kernel
theorem dX4_look_92 : decode cX4_look 92 = .ok (.ireturn, 1) := by decide +kernel
theorem dX4_look_93 : decode cX4_look 93 = .ok (.iinc 7 1, 3) := by decide +kernel
theorem dX4_look_96 : decode cX4_look 96 = .ok (.goto (-33), 3) := by decide +kernel
theorem dX4_look_99 : decode cX4_look 99 = .ok (.bipush 79, 2) := by decide +kernel
theorem dX4_look_101 : decode cX4_look 101 = .ok (.ireturn, 1) := by decide +kernel
set_option maxRecDepth 20000 in
theorem ggX4_apart_X4_thingOf : GoodIn wsX4_apart wsX4_thingOf := goodIn_r _ [5, 6, 7, 34, 35, 36, 37, 38, 39] (by decide +kernel) (by decide +kernel)
set_option maxRecDepth 20000 in
theorem gX4_apart_X4_thingOf : GoodIn wsX4_apart (wsV RX4 43 RX4 yX4_thingOf wsX4_thingOf) := goodIn_app (goodIn_of _ (by decide +kernel)) ggX4_apart_X4_thingOf
set_option maxRecDepth 20000 in
theorem ggX4_apart_X4_isTick : GoodIn wsX4_apart wsX4_isTick := goodIn_r _ [10] (by decide +kernel) (by decide +kernel)
set_option maxRecDepth 20000 in
theorem gX4_apart_X4_isTick : GoodIn wsX4_apart (va_wsS RX4 47 yX4_isTick wsX4_isTick) := goodIn_app (goodIn_of _ (by decide +kernel)) ggX4_apart_X4_isTick
set_option maxRecDepth 20000 in
theorem ggX4_apart_X3_reachAt : GoodIn wsX4_apart wsX3_reachAt := goodIn_r _ [15, 16, 40, 41, 42, 43, 44, 45, 46] (by decide +kernel) (by decide +kernel)
set_option maxRecDepth 20000 in
theorem gX4_apart_X3_reachAt : GoodIn wsX4_apart (wsV RX4 69 RX3 yX3_reachAt wsX3_reachAt) := goodIn_app (goodIn_of _ (by decide +kernel)) ggX4_apart_X3_reachAt
set_option maxRecDepth 20000 in
theorem ggX4_apart_X0_leastApart : GoodIn wsX4_apart wsX0_leastApart := goodIn_r _ [21, 22, 23, 24, 25, 26, 27, 28, 29, 47, 48, 49, 50] (by decide +kernel) (by decide +kernel)
set_option maxRecDepth 20000 in
theorem gX4_apart_X0_leastApart : GoodIn wsX4_apart (wsV RX4 151 RX0 yX0_leastApart wsX0_leastApart) := goodIn_app (goodIn_of _ (by decide +kernel)) ggX4_apart_X0_leastApart
set_option maxRecDepth 20000 in
theorem ggX4_apart_X0_mostApart : GoodIn wsX4_apart wsX0_mostApart := goodIn_r _ [33, 23, 22, 24, 25, 26, 27, 29, 28, 47, 48, 49, 50] (by decide +kernel) (by decide +kernel)
set_option maxRecDepth 20000 in
theorem gX4_apart_X0_mostApart : GoodIn wsX4_apart (wsV RX4 155 RX0 yX0_mostApart wsX0_mostApart) := goodIn_app (goodIn_of _ (by decide +kernel)) ggX4_apart_X0_mostApart
theorem dX4_apart_0 : decode cX4_apart 0 = .ok (.aload_n 0, 1) := by decide +kernel
theorem dX4_apart_1 : decode cX4_apart 1 = .ok (.iload_n 1, 1) := by decide +kernel
theorem dX4_apart_2 : decode cX4_apart 2 = .ok (.invokevirtual 43, 3) := by decide +kernel
theorem dX4_apart_5 : decode cX4_apart 5 = .ok (.astore 5, 2) := by decide +kernel
theorem dX4_apart_7 : decode cX4_apart 7 = .ok (.aload_n 0, 1) := by decide +kernel
theorem dX4_apart_8 : decode cX4_apart 8 = .ok (.iload_n 2, 1) := by decide +kernel
theorem dX4_apart_9 : decode cX4_apart 9 = .ok (.invokevirtual 43, 3) := by decide +kernel
theorem dX4_apart_12 : decode cX4_apart 12 = .ok (.astore 6, 2) := by decide +kernel
theorem dX4_apart_14 : decode cX4_apart 14 = .ok (.aload 5, 2) := by decide +kernel
theorem dX4_apart_16 : decode cX4_apart 16 = .ok (.ifnull 20, 3) := by decide +kernel
theorem dX4_apart_19 : decode cX4_apart 19 = .ok (.aload 6, 2) := by decide +kernel
theorem dX4_apart_21 : decode cX4_apart 21 = .ok (.ifnull 15, 3) := by decide +kernel
theorem dX4_apart_24 : decode cX4_apart 24 = .ok (.iload_n 1, 1) := by decide +kernel
theorem dX4_apart_25 : decode cX4_apart 25 = .ok (.iload_n 2, 1) := by decide +kernel
theorem dX4_apart_26 : decode cX4_apart 26 = .ok (.if_icmp .eq 10, 3) := by decide +kernel
theorem dX4_apart_29 : decode cX4_apart 29 = .ok (.iload_n 3, 1) := by decide +kernel
theorem dX4_apart_30 : decode cX4_apart 30 = .ok (.invokestatic 47, 3) := by decide +kernel
theorem dX4_apart_33 : decode cX4_apart 33 = .ok (.ifCond .ne 5, 3) := by decide +kernel
theorem dX4_apart_36 : decode cX4_apart 36 = .ok (.iconst (-1), 1) := by decide +kernel
theorem dX4_apart_37 : decode cX4_apart 37 = .ok (.ireturn, 1) := by decide +kernel
theorem dX4_apart_38 : decode cX4_apart 38 = .ok (.aload 5, 2) := by decide +kernel
theorem dX4_apart_40 : decode cX4_apart 40 = .ok (.iload_n 3, 1) := by decide +kernel
theorem dX4_apart_41 : decode cX4_apart 41 = .ok (.invokevirtual 69, 3) := by decide +kernel
theorem dX4_apart_44 : decode cX4_apart 44 = .ok (.astore 7, 2) := by decide +kernel
theorem dX4_apart_46 : decode cX4_apart 46 = .ok (.aload 6, 2) := by decide +kernel
theorem dX4_apart_48 : decode cX4_apart 48 = .ok (.iload_n 3, 1) := by decide +kernel
theorem dX4_apart_49 : decode cX4_apart 49 = .ok (.invokevirtual 69, 3) := by decide +kernel
theorem dX4_apart_52 : decode cX4_apart 52 = .ok (.astore 8, 2) := by decide +kernel
theorem dX4_apart_54 : decode cX4_apart 54 = .ok (.iload 4, 2) := by decide +kernel
theorem dX4_apart_56 : decode cX4_apart 56 = .ok (.lookupswitch 44 #[(0, 28), (1, 36)], 28) := by decide +kernel
theorem dX4_apart_84 : decode cX4_apart 84 = .ok (.aload 7, 2) := by decide +kernel
theorem dX4_apart_86 : decode cX4_apart 86 = .ok (.aload 8, 2) := by decide +kernel
theorem dX4_apart_88 : decode cX4_apart 88 = .ok (.invokevirtual 151, 3) := by decide +kernel
theorem dX4_apart_91 : decode cX4_apart 91 = .ok (.ireturn, 1) := by decide +kernel
theorem dX4_apart_92 : decode cX4_apart 92 = .ok (.aload 7, 2) := by decide +kernel
theorem dX4_apart_94 : decode cX4_apart 94 = .ok (.aload 8, 2) := by decide +kernel
theorem dX4_apart_96 : decode cX4_apart 96 = .ok (.invokevirtual 155, 3) := by decide +kernel
theorem dX4_apart_99 : decode cX4_apart 99 = .ok (.ireturn, 1) := by decide +kernel
theorem dX4_apart_100 : decode cX4_apart 100 = .ok (.iconst (-1), 1) := by decide +kernel
theorem dX4_apart_101 : decode cX4_apart 101 = .ok (.ireturn, 1) := by decide +kernel
set_option maxRecDepth 20000 in
theorem ggX4_count_X4_sightsOfAll : GoodIn wsX4_count wsX4_sightsOfAll := goodIn_r _ [7, 8, 9, 10, 11, 12, 13, 14, 15, 16, 17, 18, 19, 20, 21, 22, 23, 24, 25, 26, 27] (by decide +kernel) (by decide +kernel)
set_option maxRecDepth 20000 in
theorem gX4_count_X4_sightsOfAll : GoodIn wsX4_count (wsV RX4 158 RX4 yX4_sightsOfAll wsX4_sightsOfAll) := goodIn_app (goodIn_of _ (by decide +kernel)) ggX4_count_X4_sightsOfAll
theorem dX4_count_0 : decode cX4_count 0 = .ok (.iload_n 1, 1) := by decide +kernel
theorem dX4_count_1 : decode cX4_count 1 = .ok (.tableswitch 42 0 2 #[27, 32, 37], 27) := by decide +kernel
theorem dX4_count_28 : decode cX4_count 28 = .ok (.aload_n 0, 1) := by decide +kernel
theorem dX4_count_29 : decode cX4_count 29 = .ok (.getfield 33, 3) := by decide +kernel
theorem dX4_count_32 : decode cX4_count 32 = .ok (.ireturn, 1) := by decide +kernel
theorem dX4_count_33 : decode cX4_count 33 = .ok (.aload_n 0, 1) := by decide +kernel
theorem dX4_count_34 : decode cX4_count 34 = .ok (.invokevirtual 158, 3) := by decide +kernel
theorem dX4_count_37 : decode cX4_count 37 = .ok (.ireturn, 1) := by decide +kernel
theorem dX4_count_38 : decode cX4_count 38 = .ok (.aload_n 0, 1) := by decide +kernel
theorem dX4_count_39 : decode cX4_count 39 = .ok (.getfield 37, 3) := by decide +kernel
theorem dX4_count_42 : decode cX4_count 42 = .ok (.ireturn, 1) := by decide +kernel
theorem dX4_count_43 : decode cX4_count 43 = .ok (.iconst (-1), 1) := by decide +kernel
theorem dX4_count_44 : decode cX4_count 44 = .ok (.ireturn, 1) := by decide +kernel
set_option maxRecDepth 20000 in
theorem ggX4_sightsOfAll_X3_sights : GoodIn wsX4_sightsOfAll wsX3_sights := goodIn_r _ [6, 7, 14, 15, 16, 17, 18, 19, 20] (by decide +kernel) (by decide +kernel)
set_option maxRecDepth 20000 in
theorem gX4_sightsOfAll_X3_sights : GoodIn wsX4_sightsOfAll (wsV RX4 58 RX3 yX3_sights wsX3_sights) := goodIn_app (goodIn_of _ (by decide +kernel)) ggX4_sightsOfAll_X3_sights
theorem dX4_sightsOfAll_0 : decode cX4_sightsOfAll 0 = .ok (.iconst 0, 1) := by decide +kernel
theorem dX4_sightsOfAll_1 : decode cX4_sightsOfAll 1 = .ok (.istore_n 1, 1) := by decide +kernel
theorem dX4_sightsOfAll_2 : decode cX4_sightsOfAll 2 = .ok (.aload_n 0, 1) := by decide +kernel
theorem dX4_sightsOfAll_3 : decode cX4_sightsOfAll 3 = .ok (.getfield 11, 3) := by decide +kernel
theorem dX4_sightsOfAll_6 : decode cX4_sightsOfAll 6 = .ok (.astore_n 2, 1) := by decide +kernel
theorem dX4_sightsOfAll_7 : decode cX4_sightsOfAll 7 = .ok (.aload_n 2, 1) := by decide +kernel
theorem dX4_sightsOfAll_8 : decode cX4_sightsOfAll 8 = .ok (.arraylength, 1) := by decide +kernel
theorem dX4_sightsOfAll_9 : decode cX4_sightsOfAll 9 = .ok (.istore_n 3, 1) := by decide +kernel
theorem dX4_sightsOfAll_10 : decode cX4_sightsOfAll 10 = .ok (.iconst 0, 1) := by decide +kernel
theorem dX4_sightsOfAll_11 : decode cX4_sightsOfAll 11 = .ok (.istore 4, 2) := by decide +kernel
theorem dX4_sightsOfAll_13 : decode cX4_sightsOfAll 13 = .ok (.iload 4, 2) := by decide +kernel
theorem dX4_sightsOfAll_15 : decode cX4_sightsOfAll 15 = .ok (.iload_n 3, 1) := by decide +kernel
theorem dX4_sightsOfAll_16 : decode cX4_sightsOfAll 16 = .ok (.if_icmp .ge 28, 3) := by decide +kernel
theorem dX4_sightsOfAll_19 : decode cX4_sightsOfAll 19 = .ok (.aload_n 2, 1) := by decide +kernel
theorem dX4_sightsOfAll_20 : decode cX4_sightsOfAll 20 = .ok (.iload 4, 2) := by decide +kernel
theorem dX4_sightsOfAll_22 : decode cX4_sightsOfAll 22 = .ok (.aaload, 1) := by decide +kernel
theorem dX4_sightsOfAll_23 : decode cX4_sightsOfAll 23 = .ok (.astore 5, 2) := by decide +kernel
theorem dX4_sightsOfAll_25 : decode cX4_sightsOfAll 25 = .ok (.aload 5, 2) := by decide +kernel
theorem dX4_sightsOfAll_27 : decode cX4_sightsOfAll 27 = .ok (.ifnull 11, 3) := by decide +kernel
theorem dX4_sightsOfAll_30 : decode cX4_sightsOfAll 30 = .ok (.iload_n 1, 1) := by decide +kernel
theorem dX4_sightsOfAll_31 : decode cX4_sightsOfAll 31 = .ok (.aload 5, 2) := by decide +kernel
theorem dX4_sightsOfAll_33 : decode cX4_sightsOfAll 33 = .ok (.invokevirtual 58, 3) := by decide +kernel
theorem dX4_sightsOfAll_36 : decode cX4_sightsOfAll 36 = .ok (.iadd, 1) := by decide +kernel
theorem dX4_sightsOfAll_37 : decode cX4_sightsOfAll 37 = .ok (.istore_n 1, 1) := by decide +kernel
theorem dX4_sightsOfAll_38 : decode cX4_sightsOfAll 38 = .ok (.iinc 4 1, 3) := by decide +kernel
theorem dX4_sightsOfAll_41 : decode cX4_sightsOfAll 41 = .ok (.goto (-28), 3) := by decide +kernel
theorem dX4_sightsOfAll_44 : decode cX4_sightsOfAll 44 = .ok (.iload_n 1, 1) := by decide +kernel
theorem dX4_sightsOfAll_45 : decode cX4_sightsOfAll 45 = .ok (.ireturn, 1) := by decide +kernel
theorem dX4_thingOf_0 : decode cX4_thingOf 0 = .ok (.iload_n 1, 1) := by decide +kernel
theorem dX4_thingOf_1 : decode cX4_thingOf 1 = .ok (.ifCond .lt 20, 3) := by decide +kernel
theorem dX4_thingOf_4 : decode cX4_thingOf 4 = .ok (.iload_n 1, 1) := by decide +kernel
theorem dX4_thingOf_5 : decode cX4_thingOf 5 = .ok (.aload_n 0, 1) := by decide +kernel
theorem dX4_thingOf_6 : decode cX4_thingOf 6 = .ok (.getfield 33, 3) := by decide +kernel
theorem dX4_thingOf_9 : decode cX4_thingOf 9 = .ok (.if_icmp .ge 12, 3) := by decide +kernel
theorem dX4_thingOf_12 : decode cX4_thingOf 12 = .ok (.aload_n 0, 1) := by decide +kernel
theorem dX4_thingOf_13 : decode cX4_thingOf 13 = .ok (.getfield 11, 3) := by decide +kernel
theorem dX4_thingOf_16 : decode cX4_thingOf 16 = .ok (.iload_n 1, 1) := by decide +kernel
theorem dX4_thingOf_17 : decode cX4_thingOf 17 = .ok (.aaload, 1) := by decide +kernel
theorem dX4_thingOf_18 : decode cX4_thingOf 18 = .ok (.goto 4, 3) := by decide +kernel
theorem dX4_thingOf_21 : decode cX4_thingOf 21 = .ok (.aconst_null, 1) := by decide +kernel
theorem dX4_thingOf_22 : decode cX4_thingOf 22 = .ok (.areturn, 1) := by decide +kernel
theorem dX4_groundOf_0 : decode cX4_groundOf 0 = .ok (.iload_n 1, 1) := by decide +kernel
theorem dX4_groundOf_1 : decode cX4_groundOf 1 = .ok (.ifCond .lt 20, 3) := by decide +kernel
theorem dX4_groundOf_4 : decode cX4_groundOf 4 = .ok (.iload_n 1, 1) := by decide +kernel
theorem dX4_groundOf_5 : decode cX4_groundOf 5 = .ok (.aload_n 0, 1) := by decide +kernel
theorem dX4_groundOf_6 : decode cX4_groundOf 6 = .ok (.getfield 37, 3) := by decide +kernel
theorem dX4_groundOf_9 : decode cX4_groundOf 9 = .ok (.if_icmp .ge 12, 3) := by decide +kernel
theorem dX4_groundOf_12 : decode cX4_groundOf 12 = .ok (.aload_n 0, 1) := by decide +kernel
theorem dX4_groundOf_13 : decode cX4_groundOf 13 = .ok (.getfield 17, 3) := by decide +kernel
theorem dX4_groundOf_16 : decode cX4_groundOf 16 = .ok (.iload_n 1, 1) := by decide +kernel
theorem dX4_groundOf_17 : decode cX4_groundOf 17 = .ok (.aaload, 1) := by decide +kernel
theorem dX4_groundOf_18 : decode cX4_groundOf 18 = .ok (.goto 4, 3) := by decide +kernel
theorem dX4_groundOf_21 : decode cX4_groundOf 21 = .ok (.aconst_null, 1) := by decide +kernel
theorem dX4_groundOf_22 : decode cX4_groundOf 22 = .ok (.areturn, 1) := by decide +kernel
set_option maxRecDepth 20000 in
theorem ggX4_stateOf_X3_reachAt : GoodIn wsX4_stateOf wsX3_reachAt := goodIn_r _ [5, 6, 25, 26, 27, 28, 29, 30, 31] (by decide +kernel) (by decide +kernel)
set_option maxRecDepth 20000 in
theorem gX4_stateOf_X3_reachAt : GoodIn wsX4_stateOf (wsV RX4 69 RX3 yX3_reachAt wsX3_reachAt) := goodIn_app (goodIn_of _ (by decide +kernel)) ggX4_stateOf_X3_reachAt
set_option maxRecDepth 20000 in
theorem ggX4_stateOf_X1_meets : GoodIn wsX4_stateOf wsX1_meets := goodIn_r _ [11, 12, 13, 14, 15, 16, 17, 18, 19, 20, 32, 33, 34, 35, 36] (by decide +kernel) (by decide +kernel)
set_option maxRecDepth 20000 in
theorem gX4_stateOf_X1_meets : GoodIn wsX4_stateOf (wsV RX4 161 RX1 yX1_meets wsX1_meets) := goodIn_app (goodIn_of _ (by decide +kernel)) ggX4_stateOf_X1_meets
set_option maxRecDepth 20000 in
theorem ggX4_stateOf_X1_covers : GoodIn wsX4_stateOf wsX1_covers := goodIn_r _ [24, 12, 13, 14, 15, 16, 17, 18, 19, 20, 32, 33, 34, 35, 36] (by decide +kernel) (by decide +kernel)
set_option maxRecDepth 20000 in
theorem gX4_stateOf_X1_covers : GoodIn wsX4_stateOf (wsV RX4 165 RX1 yX1_covers wsX1_covers) := goodIn_app (goodIn_of _ (by decide +kernel)) ggX4_stateOf_X1_covers
theorem dX4_stateOf_0 : decode cX4_stateOf 0 = .ok (.aload_n 0, 1) := by decide +kernel
theorem dX4_stateOf_1 : decode cX4_stateOf 1 = .ok (.iload_n 2, 1) := by decide +kernel
theorem dX4_stateOf_2 : decode cX4_stateOf 2 = .ok (.invokevirtual 69, 3) := by decide +kernel
theorem dX4_stateOf_5 : decode cX4_stateOf 5 = .ok (.astore_n 3, 1) := by decide +kernel
theorem dX4_stateOf_6 : decode cX4_stateOf 6 = .ok (.aload_n 1, 1) := by decide +kernel
theorem dX4_stateOf_7 : decode cX4_stateOf 7 = .ok (.aload_n 3, 1) := by decide +kernel
theorem dX4_stateOf_8 : decode cX4_stateOf 8 = .ok (.invokevirtual 161, 3) := by decide +kernel
theorem dX4_stateOf_11 : decode cX4_stateOf 11 = .ok (.ifCond .ne 5, 3) := by decide +kernel
theorem dX4_stateOf_14 : decode cX4_stateOf 14 = .ok (.iconst 0, 1) := by decide +kernel
theorem dX4_stateOf_15 : decode cX4_stateOf 15 = .ok (.ireturn, 1) := by decide +kernel
theorem dX4_stateOf_16 : decode cX4_stateOf 16 = .ok (.aload_n 1, 1) := by decide +kernel
theorem dX4_stateOf_17 : decode cX4_stateOf 17 = .ok (.aload_n 3, 1) := by decide +kernel
theorem dX4_stateOf_18 : decode cX4_stateOf 18 = .ok (.invokevirtual 165, 3) := by decide +kernel
theorem dX4_stateOf_21 : decode cX4_stateOf 21 = .ok (.ifCond .eq 7, 3) := by decide +kernel
theorem dX4_stateOf_24 : decode cX4_stateOf 24 = .ok (.iconst 2, 1) := by decide +kernel
theorem dX4_stateOf_25 : decode cX4_stateOf 25 = .ok (.goto 4, 3) := by decide +kernel
theorem dX4_stateOf_28 : decode cX4_stateOf 28 = .ok (.iconst 1, 1) := by decide +kernel
theorem dX4_stateOf_29 : decode cX4_stateOf 29 = .ok (.ireturn, 1) := by decide +kernel
theorem dX4_isTick_0 : decode cX4_isTick 0 = .ok (.iload_n 0, 1) := by decide +kernel
theorem dX4_isTick_1 : decode cX4_isTick 1 = .ok (.ifCond .lt 13, 3) := by decide +kernel
theorem dX4_isTick_4 : decode cX4_isTick 4 = .ok (.iload_n 0, 1) := by decide +kernel
theorem dX4_isTick_5 : decode cX4_isTick 5 = .ok (.bipush 80, 2) := by decide +kernel
theorem dX4_isTick_7 : decode cX4_isTick 7 = .ok (.if_icmp .ge 7, 3) := by decide +kernel
theorem dX4_isTick_10 : decode cX4_isTick 10 = .ok (.iconst 1, 1) := by decide +kernel
theorem dX4_isTick_11 : decode cX4_isTick 11 = .ok (.goto 4, 3) := by decide +kernel
theorem dX4_isTick_14 : decode cX4_isTick 14 = .ok (.iconst 0, 1) := by decide +kernel
theorem dX4_isTick_15 : decode cX4_isTick 15 = .ok (.ireturn, 1) := by decide +kernel
set_option maxRecDepth 20000 in
theorem ggX4_isStretch_X4_isTick : GoodIn wsX4_isStretch wsX4_isTick := goodIn_r _ [4] (by decide +kernel) (by decide +kernel)
set_option maxRecDepth 20000 in
theorem gX4_isStretch_X4_isTick : GoodIn wsX4_isStretch (va_wsS RX4 47 yX4_isTick wsX4_isTick) := goodIn_app (goodIn_of _ (by decide +kernel)) ggX4_isStretch_X4_isTick
theorem dX4_isStretch_0 : decode cX4_isStretch 0 = .ok (.iload_n 0, 1) := by decide +kernel
theorem dX4_isStretch_1 : decode cX4_isStretch 1 = .ok (.invokestatic 47, 3) := by decide +kernel
theorem dX4_isStretch_4 : decode cX4_isStretch 4 = .ok (.ifCond .eq 19, 3) := by decide +kernel
theorem dX4_isStretch_7 : decode cX4_isStretch 7 = .ok (.iload_n 1, 1) := by decide +kernel
theorem dX4_isStretch_8 : decode cX4_isStretch 8 = .ok (.invokestatic 47, 3) := by decide +kernel
theorem dX4_isStretch_11 : decode cX4_isStretch 11 = .ok (.ifCond .eq 12, 3) := by decide +kernel
theorem dX4_isStretch_14 : decode cX4_isStretch 14 = .ok (.iload_n 0, 1) := by decide +kernel
theorem dX4_isStretch_15 : decode cX4_isStretch 15 = .ok (.iload_n 1, 1) := by decide +kernel
theorem dX4_isStretch_16 : decode cX4_isStretch 16 = .ok (.if_icmp .gt 7, 3) := by decide +kernel
theorem dX4_isStretch_19 : decode cX4_isStretch 19 = .ok (.iconst 1, 1) := by decide +kernel
theorem dX4_isStretch_20 : decode cX4_isStretch 20 = .ok (.goto 4, 3) := by decide +kernel
theorem dX4_isStretch_23 : decode cX4_isStretch 23 = .ok (.iconst 0, 1) := by decide +kernel
theorem dX4_isStretch_24 : decode cX4_isStretch 24 = .ok (.ireturn, 1) := by decide +kernel
theorem dX4_isPlace_0 : decode cX4_isPlace 0 = .ok (.iload_n 0, 1) := by decide +kernel
theorem dX4_isPlace_1 : decode cX4_isPlace 1 = .ok (.ifCond .lt 14, 3) := by decide +kernel
theorem dX4_isPlace_4 : decode cX4_isPlace 4 = .ok (.iload_n 0, 1) := by decide +kernel
theorem dX4_isPlace_5 : decode cX4_isPlace 5 = .ok (.sipush 4096, 3) := by decide +kernel
theorem dX4_isPlace_8 : decode cX4_isPlace 8 = .ok (.if_icmp .ge 7, 3) := by decide +kernel
theorem dX4_isPlace_11 : decode cX4_isPlace 11 = .ok (.iconst 1, 1) := by decide +kernel
theorem dX4_isPlace_12 : decode cX4_isPlace 12 = .ok (.goto 4, 3) := by decide +kernel
theorem dX4_isPlace_15 : decode cX4_isPlace 15 = .ok (.iconst 0, 1) := by decide +kernel
theorem dX4_isPlace_16 : decode cX4_isPlace 16 = .ok (.ireturn, 1) := by decide +kernel
theorem dX4_xOf_0 : decode cX4_xOf 0 = .ok (.iload_n 0, 1) := by decide +kernel
theorem dX4_xOf_1 : decode cX4_xOf 1 = .ok (.bipush 64, 2) := by decide +kernel
theorem dX4_xOf_3 : decode cX4_xOf 3 = .ok (.idiv, 1) := by decide +kernel
theorem dX4_xOf_4 : decode cX4_xOf 4 = .ok (.ireturn, 1) := by decide +kernel
theorem dX4_yOf_0 : decode cX4_yOf 0 = .ok (.iload_n 0, 1) := by decide +kernel
theorem dX4_yOf_1 : decode cX4_yOf 1 = .ok (.bipush 64, 2) := by decide +kernel
theorem dX4_yOf_3 : decode cX4_yOf 3 = .ok (.irem, 1) := by decide +kernel
theorem dX4_yOf_4 : decode cX4_yOf 4 = .ok (.ireturn, 1) := by decide +kernel
theorem dX5_init_0 : decode cX5_init 0 = .ok (.aload_n 0, 1) := by decide +kernel
theorem dX5_init_1 : decode cX5_init 1 = .ok (.invokespecial 1, 3) := by decide +kernel
theorem dX5_init_4 : decode cX5_init 4 = .ok (.aload_n 0, 1) := by decide +kernel
theorem dX5_init_5 : decode cX5_init 5 = .ok (.bipush 6, 2) := by decide +kernel
theorem dX5_init_7 : decode cX5_init 7 = .ok (.newarray .int, 2) := by decide +kernel
theorem dX5_init_9 : decode cX5_init 9 = .ok (.putfield 9, 3) := by decide +kernel
theorem dX5_init_12 : decode cX5_init 12 = .ok (.aload_n 0, 1) := by decide +kernel
theorem dX5_init_13 : decode cX5_init 13 = .ok (.bipush 6, 2) := by decide +kernel
theorem dX5_init_15 : decode cX5_init 15 = .ok (.newarray .int, 2) := by decide +kernel
theorem dX5_init_17 : decode cX5_init 17 = .ok (.putfield 13, 3) := by decide +kernel
theorem dX5_init_20 : decode cX5_init 20 = .ok (.aload_n 0, 1) := by decide +kernel
theorem dX5_init_21 : decode cX5_init 21 = .ok (.bipush 6, 2) := by decide +kernel
theorem dX5_init_23 : decode cX5_init 23 = .ok (.newarray .int, 2) := by decide +kernel
theorem dX5_init_25 : decode cX5_init 25 = .ok (.putfield 16, 3) := by decide +kernel
theorem dX5_init_28 : decode cX5_init 28 = .ok (.aload_n 0, 1) := by decide +kernel
theorem dX5_init_29 : decode cX5_init 29 = .ok (.bipush 72, 2) := by decide +kernel
theorem dX5_init_31 : decode cX5_init 31 = .ok (.newarray .int, 2) := by decide +kernel
theorem dX5_init_33 : decode cX5_init 33 = .ok (.putfield 19, 3) := by decide +kernel
theorem dX5_init_36 : decode cX5_init 36 = .ok (.aload_n 0, 1) := by decide +kernel
theorem dX5_init_37 : decode cX5_init 37 = .ok (.bipush 72, 2) := by decide +kernel
theorem dX5_init_39 : decode cX5_init 39 = .ok (.newarray .int, 2) := by decide +kernel
theorem dX5_init_41 : decode cX5_init 41 = .ok (.putfield 22, 3) := by decide +kernel
theorem dX5_init_44 : decode cX5_init 44 = .ok (.aload_n 0, 1) := by decide +kernel
theorem dX5_init_45 : decode cX5_init 45 = .ok (.bipush 72, 2) := by decide +kernel
theorem dX5_init_47 : decode cX5_init 47 = .ok (.newarray .int, 2) := by decide +kernel
theorem dX5_init_49 : decode cX5_init 49 = .ok (.putfield 25, 3) := by decide +kernel
theorem dX5_init_52 : decode cX5_init 52 = .ok (.aload_n 0, 1) := by decide +kernel
theorem dX5_init_53 : decode cX5_init 53 = .ok (.bipush 72, 2) := by decide +kernel
theorem dX5_init_55 : decode cX5_init 55 = .ok (.newarray .int, 2) := by decide +kernel
theorem dX5_init_57 : decode cX5_init 57 = .ok (.putfield 28, 3) := by decide +kernel
theorem dX5_init_60 : decode cX5_init 60 = .ok (.aload_n 0, 1) := by decide +kernel
theorem dX5_init_61 : decode cX5_init 61 = .ok (.sipush 16384, 3) := by decide +kernel
theorem dX5_init_64 : decode cX5_init 64 = .ok (.newarray .boolean, 2) := by decide +kernel
theorem dX5_init_66 : decode cX5_init 66 = .ok (.putfield 31, 3) := by decide +kernel
theorem dX5_init_69 : decode cX5_init 69 = .ok (.aload_n 0, 1) := by decide +kernel
theorem dX5_init_70 : decode cX5_init 70 = .ok (.sipush 4096, 3) := by decide +kernel
theorem dX5_init_73 : decode cX5_init 73 = .ok (.newarray .int, 2) := by decide +kernel
theorem dX5_init_75 : decode cX5_init 75 = .ok (.putfield 35, 3) := by decide +kernel
theorem dX5_init_78 : decode cX5_init 78 = .ok (.aload_n 0, 1) := by decide +kernel
theorem dX5_init_79 : decode cX5_init 79 = .ok (.sipush 4096, 3) := by decide +kernel
theorem dX5_init_82 : decode cX5_init 82 = .ok (.newarray .int, 2) := by decide +kernel
theorem dX5_init_84 : decode cX5_init 84 = .ok (.putfield 38, 3) := by decide +kernel
theorem dX5_init_87 : decode cX5_init 87 = .ok (.return_, 1) := by decide +kernel
theorem dX5_in_0 : decode cX5_in 0 = .ok (.iload_n 0, 1) := by decide +kernel
theorem dX5_in_1 : decode cX5_in 1 = .ok (.iload_n 1, 1) := by decide +kernel
theorem dX5_in_2 : decode cX5_in 2 = .ok (.if_icmp .lt 12, 3) := by decide +kernel
theorem dX5_in_5 : decode cX5_in 5 = .ok (.iload_n 0, 1) := by decide +kernel
theorem dX5_in_6 : decode cX5_in 6 = .ok (.iload_n 2, 1) := by decide +kernel
theorem dX5_in_7 : decode cX5_in 7 = .ok (.if_icmp .gt 7, 3) := by decide +kernel
theorem dX5_in_10 : decode cX5_in 10 = .ok (.iconst 1, 1) := by decide +kernel
theorem dX5_in_11 : decode cX5_in 11 = .ok (.goto 4, 3) := by decide +kernel
theorem dX5_in_14 : decode cX5_in 14 = .ok (.iconst 0, 1) := by decide +kernel
theorem dX5_in_15 : decode cX5_in 15 = .ok (.ireturn, 1) := by decide +kernel
set_option maxRecDepth 20000 in
theorem ggX5_isThing_X5_in : GoodIn wsX5_isThing wsX5_in := goodIn_r _ [5] (by decide +kernel) (by decide +kernel)
set_option maxRecDepth 20000 in
theorem gX5_isThing_X5_in : GoodIn wsX5_isThing (va_wsS RX5 45 yX5_in wsX5_in) := goodIn_app (goodIn_of _ (by decide +kernel)) ggX5_isThing_X5_in
theorem dX5_isThing_0 : decode cX5_isThing 0 = .ok (.iload_n 1, 1) := by decide +kernel
theorem dX5_isThing_1 : decode cX5_isThing 1 = .ok (.iconst 0, 1) := by decide +kernel
theorem dX5_isThing_2 : decode cX5_isThing 2 = .ok (.aload_n 0, 1) := by decide +kernel
theorem dX5_isThing_3 : decode cX5_isThing 3 = .ok (.getfield 41, 3) := by decide +kernel
theorem dX5_isThing_6 : decode cX5_isThing 6 = .ok (.iconst 1, 1) := by decide +kernel
theorem dX5_isThing_7 : decode cX5_isThing 7 = .ok (.isub, 1) := by decide +kernel
theorem dX5_isThing_8 : decode cX5_isThing 8 = .ok (.invokestatic 45, 3) := by decide +kernel
theorem dX5_isThing_11 : decode cX5_isThing 11 = .ok (.ireturn, 1) := by decide +kernel
set_option maxRecDepth 20000 in
theorem ggX5_isGround_X5_in : GoodIn wsX5_isGround wsX5_in := goodIn_r _ [5] (by decide +kernel) (by decide +kernel)
set_option maxRecDepth 20000 in
theorem gX5_isGround_X5_in : GoodIn wsX5_isGround (va_wsS RX5 45 yX5_in wsX5_in) := goodIn_app (goodIn_of _ (by decide +kernel)) ggX5_isGround_X5_in
theorem dX5_isGround_0 : decode cX5_isGround 0 = .ok (.iload_n 1, 1) := by decide +kernel
theorem dX5_isGround_1 : decode cX5_isGround 1 = .ok (.iconst 0, 1) := by decide +kernel
theorem dX5_isGround_2 : decode cX5_isGround 2 = .ok (.aload_n 0, 1) := by decide +kernel
theorem dX5_isGround_3 : decode cX5_isGround 3 = .ok (.getfield 49, 3) := by decide +kernel
theorem dX5_isGround_6 : decode cX5_isGround 6 = .ok (.iconst 1, 1) := by decide +kernel
theorem dX5_isGround_7 : decode cX5_isGround 7 = .ok (.isub, 1) := by decide +kernel
theorem dX5_isGround_8 : decode cX5_isGround 8 = .ok (.invokestatic 45, 3) := by decide +kernel
theorem dX5_isGround_11 : decode cX5_isGround 11 = .ok (.ireturn, 1) := by decide +kernel
set_option maxRecDepth 20000 in
theorem ggX5_isTick_X5_in : GoodIn wsX5_isTick wsX5_in := goodIn_r _ [4] (by decide +kernel) (by decide +kernel)
set_option maxRecDepth 20000 in
theorem gX5_isTick_X5_in : GoodIn wsX5_isTick (va_wsS RX5 45 yX5_in wsX5_in) := goodIn_app (goodIn_of _ (by decide +kernel)) ggX5_isTick_X5_in
theorem dX5_isTick_0 : decode cX5_isTick 0 = .ok (.iload_n 0, 1) := by decide +kernel
theorem dX5_isTick_1 : decode cX5_isTick 1 = .ok (.iconst 0, 1) := by decide +kernel
theorem dX5_isTick_2 : decode cX5_isTick 2 = .ok (.bipush 79, 2) := by decide +kernel
theorem dX5_isTick_4 : decode cX5_isTick 4 = .ok (.invokestatic 45, 3) := by decide +kernel
theorem dX5_isTick_7 : decode cX5_isTick 7 = .ok (.ireturn, 1) := by decide +kernel
set_option maxRecDepth 20000 in
theorem ggX5_thing_X5_in : GoodIn wsX5_thing wsX5_in := goodIn_r _ [6] (by decide +kernel) (by decide +kernel)
set_option maxRecDepth 20000 in
theorem gX5_thing_X5_in : GoodIn wsX5_thing (va_wsS RX5 45 yX5_in wsX5_in) := goodIn_app (goodIn_of _ (by decide +kernel)) ggX5_thing_X5_in
theorem dX5_thing_0 : decode cX5_thing 0 = .ok (.iload_n 1, 1) := by decide +kernel
theorem dX5_thing_1 : decode cX5_thing 1 = .ok (.iconst 0, 1) := by decide +kernel
theorem dX5_thing_2 : decode cX5_thing 2 = .ok (.bipush 7, 2) := by decide +kernel
theorem dX5_thing_4 : decode cX5_thing 4 = .ok (.invokestatic 45, 3) := by decide +kernel
theorem dX5_thing_7 : decode cX5_thing 7 = .ok (.ifCond .eq 12, 3) := by decide +kernel
theorem dX5_thing_10 : decode cX5_thing 10 = .ok (.aload_n 0, 1) := by decide +kernel
theorem dX5_thing_11 : decode cX5_thing 11 = .ok (.getfield 41, 3) := by decide +kernel
theorem dX5_thing_14 : decode cX5_thing 14 = .ok (.bipush 6, 2) := by decide +kernel
theorem dX5_thing_16 : decode cX5_thing 16 = .ok (.if_icmp .ne 5, 3) := by decide +kernel
theorem dX5_thing_19 : decode cX5_thing 19 = .ok (.iconst (-1), 1) := by decide +kernel
theorem dX5_thing_20 : decode cX5_thing 20 = .ok (.ireturn, 1) := by decide +kernel
theorem dX5_thing_21 : decode cX5_thing 21 = .ok (.aload_n 0, 1) := by decide +kernel
theorem dX5_thing_22 : decode cX5_thing 22 = .ok (.getfield 9, 3) := by decide +kernel
theorem dX5_thing_25 : decode cX5_thing 25 = .ok (.aload_n 0, 1) := by decide +kernel
theorem dX5_thing_26 : decode cX5_thing 26 = .ok (.getfield 41, 3) := by decide +kernel
theorem dX5_thing_29 : decode cX5_thing 29 = .ok (.iload_n 1, 1) := by decide +kernel
theorem dX5_thing_30 : decode cX5_thing 30 = .ok (.iastore, 1) := by decide +kernel
theorem dX5_thing_31 : decode cX5_thing 31 = .ok (.aload_n 0, 1) := by decide +kernel
theorem dX5_thing_32 : decode cX5_thing 32 = .ok (.dup, 1) := by decide +kernel
theorem dX5_thing_33 : decode cX5_thing 33 = .ok (.getfield 41, 3) := by decide +kernel
theorem dX5_thing_36 : decode cX5_thing 36 = .ok (.iconst 1, 1) := by decide +kernel
theorem dX5_thing_37 : decode cX5_thing 37 = .ok (.iadd, 1) := by decide +kernel
theorem dX5_thing_38 : decode cX5_thing 38 = .ok (.putfield 41, 3) := by decide +kernel
theorem dX5_thing_41 : decode cX5_thing 41 = .ok (.aload_n 0, 1) := by decide +kernel
theorem dX5_thing_42 : decode cX5_thing 42 = .ok (.getfield 41, 3) := by decide +kernel
theorem dX5_thing_45 : decode cX5_thing 45 = .ok (.iconst 1, 1) := by decide +kernel
theorem dX5_thing_46 : decode cX5_thing 46 = .ok (.isub, 1) := by decide +kernel
theorem dX5_thing_47 : decode cX5_thing 47 = .ok (.ireturn, 1) := by decide +kernel
theorem dX5_low_0 : decode cX5_low 0 = .ok (.iconst 0, 1) := by decide +kernel
theorem dX5_low_1 : decode cX5_low 1 = .ok (.istore 4, 2) := by decide +kernel
theorem dX5_low_3 : decode cX5_low 3 = .ok (.bipush 12, 2) := by decide +kernel
theorem dX5_low_5 : decode cX5_low 5 = .ok (.iload_n 1, 1) := by decide +kernel
theorem dX5_low_6 : decode cX5_low 6 = .ok (.imul, 1) := by decide +kernel
theorem dX5_low_7 : decode cX5_low 7 = .ok (.istore 5, 2) := by decide +kernel
theorem dX5_low_9 : decode cX5_low 9 = .ok (.iload 5, 2) := by decide +kernel
theorem dX5_low_11 : decode cX5_low 11 = .ok (.bipush 12, 2) := by decide +kernel
theorem dX5_low_13 : decode cX5_low 13 = .ok (.iload_n 1, 1) := by decide +kernel
theorem dX5_low_14 : decode cX5_low 14 = .ok (.imul, 1) := by decide +kernel
theorem dX5_low_15 : decode cX5_low 15 = .ok (.aload_n 0, 1) := by decide +kernel
theorem dX5_low_16 : decode cX5_low 16 = .ok (.getfield 13, 3) := by decide +kernel
theorem dX5_low_19 : decode cX5_low 19 = .ok (.iload_n 1, 1) := by decide +kernel
theorem dX5_low_20 : decode cX5_low 20 = .ok (.iaload, 1) := by decide +kernel
theorem dX5_low_21 : decode cX5_low 21 = .ok (.iadd, 1) := by decide +kernel
theorem dX5_low_22 : decode cX5_low 22 = .ok (.if_icmp .ge 95, 3) := by decide +kernel
theorem dX5_low_25 : decode cX5_low 25 = .ok (.iload_n 2, 1) := by decide +kernel
theorem dX5_low_26 : decode cX5_low 26 = .ok (.aload_n 0, 1) := by decide +kernel
theorem dX5_low_27 : decode cX5_low 27 = .ok (.getfield 19, 3) := by decide +kernel
theorem dX5_low_30 : decode cX5_low 30 = .ok (.iload 5, 2) := by decide +kernel
theorem dX5_low_32 : decode cX5_low 32 = .ok (.iaload, 1) := by decide +kernel
theorem dX5_low_33 : decode cX5_low 33 = .ok (.if_icmp .ge 15, 3) := by decide +kernel
theorem dX5_low_36 : decode cX5_low 36 = .ok (.aload_n 0, 1) := by decide +kernel
theorem dX5_low_37 : decode cX5_low 37 = .ok (.getfield 19, 3) := by decide +kernel
theorem dX5_low_40 : decode cX5_low 40 = .ok (.iload 5, 2) := by decide +kernel
theorem dX5_low_42 : decode cX5_low 42 = .ok (.iaload, 1) := by decide +kernel
theorem dX5_low_43 : decode cX5_low 43 = .ok (.iload_n 2, 1) := by decide +kernel
theorem dX5_low_44 : decode cX5_low 44 = .ok (.isub, 1) := by decide +kernel
theorem dX5_low_45 : decode cX5_low 45 = .ok (.goto 12, 3) := by decide +kernel
theorem dX5_low_48 : decode cX5_low 48 = .ok (.iload_n 2, 1) := by decide +kernel
theorem dX5_low_49 : decode cX5_low 49 = .ok (.aload_n 0, 1) := by decide +kernel
theorem dX5_low_50 : decode cX5_low 50 = .ok (.getfield 19, 3) := by decide +kernel
theorem dX5_low_53 : decode cX5_low 53 = .ok (.iload 5, 2) := by decide +kernel
theorem dX5_low_55 : decode cX5_low 55 = .ok (.iaload, 1) := by decide +kernel
theorem dX5_low_56 : decode cX5_low 56 = .ok (.isub, 1) := by decide +kernel
theorem dX5_low_57 : decode cX5_low 57 = .ok (.istore 6, 2) := by decide +kernel
theorem dX5_low_59 : decode cX5_low 59 = .ok (.iload_n 3, 1) := by decide +kernel
theorem dX5_low_60 : decode cX5_low 60 = .ok (.ifCond .eq 13, 3) := by decide +kernel
theorem dX5_low_63 : decode cX5_low 63 = .ok (.aload_n 0, 1) := by decide +kernel
theorem dX5_low_64 : decode cX5_low 64 = .ok (.getfield 22, 3) := by decide +kernel
theorem dX5_low_67 : decode cX5_low 67 = .ok (.iload 5, 2) := by decide +kernel
theorem dX5_low_69 : decode cX5_low 69 = .ok (.iaload, 1) := by decide +kernel
theorem dX5_low_70 : decode cX5_low 70 = .ok (.goto 10, 3) := by decide +kernel
theorem dX5_low_73 : decode cX5_low 73 = .ok (.aload_n 0, 1) := by decide +kernel
theorem dX5_low_74 : decode cX5_low 74 = .ok (.getfield 25, 3) := by decide +kernel
theorem dX5_low_77 : decode cX5_low 77 = .ok (.iload 5, 2) := by decide +kernel
theorem dX5_low_79 : decode cX5_low 79 = .ok (.iaload, 1) := by decide +kernel
theorem dX5_low_80 : decode cX5_low 80 = .ok (.aload_n 0, 1) := by decide +kernel
theorem dX5_low_81 : decode cX5_low 81 = .ok (.getfield 28, 3) := by decide +kernel
theorem dX5_low_84 : decode cX5_low 84 = .ok (.iload 5, 2) := by decide +kernel
theorem dX5_low_86 : decode cX5_low 86 = .ok (.iaload, 1) := by decide +kernel
theorem dX5_low_87 : decode cX5_low 87 = .ok (.isub, 1) := by decide +kernel
theorem dX5_low_88 : decode cX5_low 88 = .ok (.aload_n 0, 1) := by decide +kernel
theorem dX5_low_89 : decode cX5_low 89 = .ok (.getfield 9, 3) := by decide +kernel
theorem dX5_low_92 : decode cX5_low 92 = .ok (.iload_n 1, 1) := by decide +kernel
theorem dX5_low_93 : decode cX5_low 93 = .ok (.iaload, 1) := by decide +kernel
theorem dX5_low_94 : decode cX5_low 94 = .ok (.iload 6, 2) := by decide +kernel
theorem dX5_low_96 : decode cX5_low 96 = .ok (.imul, 1) := by decide +kernel
theorem dX5_low_97 : decode cX5_low 97 = .ok (.isub, 1) := by decide +kernel
theorem dX5_low_98 : decode cX5_low 98 = .ok (.istore 7, 2) := by decide +kernel
theorem dX5_low_100 : decode cX5_low 100 = .ok (.iload 7, 2) := by decide +kernel
theorem dX5_low_102 : decode cX5_low 102 = .ok (.iload 4, 2) := by decide +kernel
theorem dX5_low_104 : decode cX5_low 104 = .ok (.if_icmp .le 7, 3) := by decide +kernel
theorem dX5_low_107 : decode cX5_low 107 = .ok (.iload 7, 2) := by decide +kernel
theorem dX5_low_109 : decode cX5_low 109 = .ok (.istore 4, 2) := by decide +kernel
theorem dX5_low_111 : decode cX5_low 111 = .ok (.iinc 5 1, 3) := by decide +kernel
theorem dX5_low_114 : decode cX5_low 114 = .ok (.goto (-105), 3) := by decide +kernel
theorem dX5_low_117 : decode cX5_low 117 = .ok (.iload 4, 2) := by decide +kernel
theorem dX5_low_119 : decode cX5_low 119 = .ok (.ireturn, 1) := by decide +kernel
theorem dX5_high_0 : decode cX5_high 0 = .ok (.bipush 63, 2) := by decide +kernel
theorem dX5_high_2 : decode cX5_high 2 = .ok (.istore 4, 2) := by decide +kernel
theorem dX5_high_4 : decode cX5_high 4 = .ok (.bipush 12, 2) := by decide +kernel
theorem dX5_high_6 : decode cX5_high 6 = .ok (.iload_n 1, 1) := by decide +kernel
theorem dX5_high_7 : decode cX5_high 7 = .ok (.imul, 1) := by decide +kernel
theorem dX5_high_8 : decode cX5_high 8 = .ok (.istore 5, 2) := by decide +kernel
theorem dX5_high_10 : decode cX5_high 10 = .ok (.iload 5, 2) := by decide +kernel
theorem dX5_high_12 : decode cX5_high 12 = .ok (.bipush 12, 2) := by decide +kernel
theorem dX5_high_14 : decode cX5_high 14 = .ok (.iload_n 1, 1) := by decide +kernel
theorem dX5_high_15 : decode cX5_high 15 = .ok (.imul, 1) := by decide +kernel
theorem dX5_high_16 : decode cX5_high 16 = .ok (.aload_n 0, 1) := by decide +kernel
theorem dX5_high_17 : decode cX5_high 17 = .ok (.getfield 13, 3) := by decide +kernel
theorem dX5_high_20 : decode cX5_high 20 = .ok (.iload_n 1, 1) := by decide +kernel
theorem dX5_high_21 : decode cX5_high 21 = .ok (.iaload, 1) := by decide +kernel
theorem dX5_high_22 : decode cX5_high 22 = .ok (.iadd, 1) := by decide +kernel
theorem dX5_high_23 : decode cX5_high 23 = .ok (.if_icmp .ge 95, 3) := by decide +kernel
theorem dX5_high_26 : decode cX5_high 26 = .ok (.iload_n 2, 1) := by decide +kernel
theorem dX5_high_27 : decode cX5_high 27 = .ok (.aload_n 0, 1) := by decide +kernel
theorem dX5_high_28 : decode cX5_high 28 = .ok (.getfield 19, 3) := by decide +kernel
theorem dX5_high_31 : decode cX5_high 31 = .ok (.iload 5, 2) := by decide +kernel
theorem dX5_high_33 : decode cX5_high 33 = .ok (.iaload, 1) := by decide +kernel
theorem dX5_high_34 : decode cX5_high 34 = .ok (.if_icmp .ge 15, 3) := by decide +kernel
theorem dX5_high_37 : decode cX5_high 37 = .ok (.aload_n 0, 1) := by decide +kernel
theorem dX5_high_38 : decode cX5_high 38 = .ok (.getfield 19, 3) := by decide +kernel
theorem dX5_high_41 : decode cX5_high 41 = .ok (.iload 5, 2) := by decide +kernel
theorem dX5_high_43 : decode cX5_high 43 = .ok (.iaload, 1) := by decide +kernel
theorem dX5_high_44 : decode cX5_high 44 = .ok (.iload_n 2, 1) := by decide +kernel
theorem dX5_high_45 : decode cX5_high 45 = .ok (.isub, 1) := by decide +kernel
theorem dX5_high_46 : decode cX5_high 46 = .ok (.goto 12, 3) := by decide +kernel
theorem dX5_high_49 : decode cX5_high 49 = .ok (.iload_n 2, 1) := by decide +kernel
theorem dX5_high_50 : decode cX5_high 50 = .ok (.aload_n 0, 1) := by decide +kernel
theorem dX5_high_51 : decode cX5_high 51 = .ok (.getfield 19, 3) := by decide +kernel
theorem dX5_high_54 : decode cX5_high 54 = .ok (.iload 5, 2) := by decide +kernel
theorem dX5_high_56 : decode cX5_high 56 = .ok (.iaload, 1) := by decide +kernel
theorem dX5_high_57 : decode cX5_high 57 = .ok (.isub, 1) := by decide +kernel
theorem dX5_high_58 : decode cX5_high 58 = .ok (.istore 6, 2) := by decide +kernel
theorem dX5_high_60 : decode cX5_high 60 = .ok (.iload_n 3, 1) := by decide +kernel
theorem dX5_high_61 : decode cX5_high 61 = .ok (.ifCond .eq 13, 3) := by decide +kernel
theorem dX5_high_64 : decode cX5_high 64 = .ok (.aload_n 0, 1) := by decide +kernel
theorem dX5_high_65 : decode cX5_high 65 = .ok (.getfield 22, 3) := by decide +kernel
theorem dX5_high_68 : decode cX5_high 68 = .ok (.iload 5, 2) := by decide +kernel
theorem dX5_high_70 : decode cX5_high 70 = .ok (.iaload, 1) := by decide +kernel
theorem dX5_high_71 : decode cX5_high 71 = .ok (.goto 10, 3) := by decide +kernel
theorem dX5_high_74 : decode cX5_high 74 = .ok (.aload_n 0, 1) := by decide +kernel
theorem dX5_high_75 : decode cX5_high 75 = .ok (.getfield 25, 3) := by decide +kernel
theorem dX5_high_78 : decode cX5_high 78 = .ok (.iload 5, 2) := by decide +kernel
theorem dX5_high_80 : decode cX5_high 80 = .ok (.iaload, 1) := by decide +kernel
theorem dX5_high_81 : decode cX5_high 81 = .ok (.aload_n 0, 1) := by decide +kernel
theorem dX5_high_82 : decode cX5_high 82 = .ok (.getfield 28, 3) := by decide +kernel
theorem dX5_high_85 : decode cX5_high 85 = .ok (.iload 5, 2) := by decide +kernel
theorem dX5_high_87 : decode cX5_high 87 = .ok (.iaload, 1) := by decide +kernel
theorem dX5_high_88 : decode cX5_high 88 = .ok (.iadd, 1) := by decide +kernel
theorem dX5_high_89 : decode cX5_high 89 = .ok (.aload_n 0, 1) := by decide +kernel
theorem dX5_high_90 : decode cX5_high 90 = .ok (.getfield 9, 3) := by decide +kernel
theorem dX5_high_93 : decode cX5_high 93 = .ok (.iload_n 1, 1) := by decide +kernel
theorem dX5_high_94 : decode cX5_high 94 = .ok (.iaload, 1) := by decide +kernel
theorem dX5_high_95 : decode cX5_high 95 = .ok (.iload 6, 2) := by decide +kernel
theorem dX5_high_97 : decode cX5_high 97 = .ok (.imul, 1) := by decide +kernel
theorem dX5_high_98 : decode cX5_high 98 = .ok (.iadd, 1) := by decide +kernel
theorem dX5_high_99 : decode cX5_high 99 = .ok (.istore 7, 2) := by decide +kernel
theorem dX5_high_101 : decode cX5_high 101 = .ok (.iload 7, 2) := by decide +kernel
theorem dX5_high_103 : decode cX5_high 103 = .ok (.iload 4, 2) := by decide +kernel
theorem dX5_high_105 : decode cX5_high 105 = .ok (.if_icmp .ge 7, 3) := by decide +kernel
theorem dX5_high_108 : decode cX5_high 108 = .ok (.iload 7, 2) := by decide +kernel
theorem dX5_high_110 : decode cX5_high 110 = .ok (.istore 4, 2) := by decide +kernel
theorem dX5_high_112 : decode cX5_high 112 = .ok (.iinc 5 1, 3) := by decide +kernel
theorem dX5_high_115 : decode cX5_high 115 = .ok (.goto (-105), 3) := by decide +kernel
theorem dX5_high_118 : decode cX5_high 118 = .ok (.iload 4, 2) := by decide +kernel
theorem dX5_high_120 : decode cX5_high 120 = .ok (.ireturn, 1) := by decide +kernel
set_option maxRecDepth 20000 in
theorem ggX5_see_X5_isThing : GoodIn wsX5_see wsX5_isThing := goodIn_r _ [11, 12, 13, 14, 10, 15, 28, 29, 30, 31, 32, 33, 34, 35, 36, 37, 38, 39] (by decide +kernel) (by decide +kernel)
set_option maxRecDepth 20000 in
theorem gX5_see_X5_isThing : GoodIn wsX5_see (wsV RX5 52 RX5 yX5_isThing wsX5_isThing) := goodIn_app (goodIn_of _ (by decide +kernel)) ggX5_see_X5_isThing
set_option maxRecDepth 20000 in
theorem ggX5_see_X5_isTick : GoodIn wsX5_see wsX5_isTick := goodIn_r _ [18, 13, 14, 10, 15] (by decide +kernel) (by decide +kernel)
set_option maxRecDepth 20000 in
theorem gX5_see_X5_isTick : GoodIn wsX5_see (va_wsS RX5 56 yX5_isTick wsX5_isTick) := goodIn_app (goodIn_of _ (by decide +kernel)) ggX5_see_X5_isTick
set_option maxRecDepth 20000 in
theorem ggX5_see_X5_in : GoodIn wsX5_see wsX5_in := goodIn_r _ [15] (by decide +kernel) (by decide +kernel)
set_option maxRecDepth 20000 in
theorem gX5_see_X5_in : GoodIn wsX5_see (va_wsS RX5 45 yX5_in wsX5_in) := goodIn_app (goodIn_of _ (by decide +kernel)) ggX5_see_X5_in
set_option maxRecDepth 20000 in
theorem ggX5_see_X5_low : GoodIn wsX5_see wsX5_low := goodIn_r _ [22, 1, 2, 3, 4, 5, 23, 28, 29, 30, 31, 32, 33, 34, 35, 36, 37, 38, 39] (by decide +kernel) (by decide +kernel)
set_option maxRecDepth 20000 in
theorem gX5_see_X5_low : GoodIn wsX5_see (wsV RX5 59 RX5 yX5_low wsX5_low) := goodIn_app (goodIn_of _ (by decide +kernel)) ggX5_see_X5_low
set_option maxRecDepth 20000 in
theorem ggX5_see_X5_high : GoodIn wsX5_see wsX5_high := goodIn_r _ [27, 1, 2, 3, 4, 5, 23, 28, 29, 30, 31, 32, 33, 34, 35, 36, 37, 38, 39] (by decide +kernel) (by decide +kernel)
set_option maxRecDepth 20000 in
theorem gX5_see_X5_high : GoodIn wsX5_see (wsV RX5 63 RX5 yX5_high wsX5_high) := goodIn_app (goodIn_of _ (by decide +kernel)) ggX5_see_X5_high
theorem dX5_see_0 : decode cX5_see 0 = .ok (.aload_n 0, 1) := by decide +kernel
theorem dX5_see_1 : decode cX5_see 1 = .ok (.iload_n 1, 1) := by decide +kernel
theorem dX5_see_2 : decode cX5_see 2 = .ok (.invokevirtual 52, 3) := by decide +kernel
theorem dX5_see_5 : decode cX5_see 5 = .ok (.ifCond .eq 43, 3) := by decide +kernel
theorem dX5_see_8 : decode cX5_see 8 = .ok (.iload_n 2, 1) := by decide +kernel
theorem dX5_see_9 : decode cX5_see 9 = .ok (.invokestatic 56, 3) := by decide +kernel
theorem dX5_see_12 : decode cX5_see 12 = .ok (.ifCond .eq 36, 3) := by decide +kernel
theorem dX5_see_15 : decode cX5_see 15 = .ok (.iload_n 3, 1) := by decide +kernel
theorem dX5_see_16 : decode cX5_see 16 = .ok (.iconst 0, 1) := by decide +kernel
theorem dX5_see_17 : decode cX5_see 17 = .ok (.sipush 4095, 3) := by decide +kernel
theorem dX5_see_20 : decode cX5_see 20 = .ok (.invokestatic 45, 3) := by decide +kernel
theorem dX5_see_23 : decode cX5_see 23 = .ok (.ifCond .eq 25, 3) := by decide +kernel
theorem dX5_see_26 : decode cX5_see 26 = .ok (.iload 4, 2) := by decide +kernel
theorem dX5_see_28 : decode cX5_see 28 = .ok (.iconst 0, 1) := by decide +kernel
theorem dX5_see_29 : decode cX5_see 29 = .ok (.bipush 63, 2) := by decide +kernel
theorem dX5_see_31 : decode cX5_see 31 = .ok (.invokestatic 45, 3) := by decide +kernel
theorem dX5_see_34 : decode cX5_see 34 = .ok (.ifCond .eq 14, 3) := by decide +kernel
theorem dX5_see_37 : decode cX5_see 37 = .ok (.aload_n 0, 1) := by decide +kernel
theorem dX5_see_38 : decode cX5_see 38 = .ok (.getfield 13, 3) := by decide +kernel
theorem dX5_see_41 : decode cX5_see 41 = .ok (.iload_n 1, 1) := by decide +kernel
theorem dX5_see_42 : decode cX5_see 42 = .ok (.iaload, 1) := by decide +kernel
theorem dX5_see_43 : decode cX5_see 43 = .ok (.bipush 12, 2) := by decide +kernel
theorem dX5_see_45 : decode cX5_see 45 = .ok (.if_icmp .ne 5, 3) := by decide +kernel
theorem dX5_see_48 : decode cX5_see 48 = .ok (.iconst (-1), 1) := by decide +kernel
theorem dX5_see_49 : decode cX5_see 49 = .ok (.ireturn, 1) := by decide +kernel
theorem dX5_see_50 : decode cX5_see 50 = .ok (.bipush 12, 2) := by decide +kernel
theorem dX5_see_52 : decode cX5_see 52 = .ok (.iload_n 1, 1) := by decide +kernel
theorem dX5_see_53 : decode cX5_see 53 = .ok (.imul, 1) := by decide +kernel
theorem dX5_see_54 : decode cX5_see 54 = .ok (.aload_n 0, 1) := by decide +kernel
theorem dX5_see_55 : decode cX5_see 55 = .ok (.getfield 13, 3) := by decide +kernel
theorem dX5_see_58 : decode cX5_see 58 = .ok (.iload_n 1, 1) := by decide +kernel
theorem dX5_see_59 : decode cX5_see 59 = .ok (.iaload, 1) := by decide +kernel
theorem dX5_see_60 : decode cX5_see 60 = .ok (.iadd, 1) := by decide +kernel
theorem dX5_see_61 : decode cX5_see 61 = .ok (.istore 5, 2) := by decide +kernel
theorem dX5_see_63 : decode cX5_see 63 = .ok (.aload_n 0, 1) := by decide +kernel
theorem dX5_see_64 : decode cX5_see 64 = .ok (.getfield 19, 3) := by decide +kernel
theorem dX5_see_67 : decode cX5_see 67 = .ok (.iload 5, 2) := by decide +kernel
theorem dX5_see_69 : decode cX5_see 69 = .ok (.iload_n 2, 1) := by decide +kernel
theorem dX5_see_70 : decode cX5_see 70 = .ok (.iastore, 1) := by decide +kernel
theorem dX5_see_71 : decode cX5_see 71 = .ok (.aload_n 0, 1) := by decide +kernel
theorem dX5_see_72 : decode cX5_see 72 = .ok (.getfield 22, 3) := by decide +kernel
theorem dX5_see_75 : decode cX5_see 75 = .ok (.iload 5, 2) := by decide +kernel
theorem dX5_see_77 : decode cX5_see 77 = .ok (.iload_n 3, 1) := by decide +kernel
theorem dX5_see_78 : decode cX5_see 78 = .ok (.bipush 64, 2) := by decide +kernel
theorem dX5_see_80 : decode cX5_see 80 = .ok (.idiv, 1) := by decide +kernel
theorem dX5_see_81 : decode cX5_see 81 = .ok (.iastore, 1) := by decide +kernel
theorem dX5_see_82 : decode cX5_see 82 = .ok (.aload_n 0, 1) := by decide +kernel
theorem dX5_see_83 : decode cX5_see 83 = .ok (.getfield 25, 3) := by decide +kernel
theorem dX5_see_86 : decode cX5_see 86 = .ok (.iload 5, 2) := by decide +kernel
theorem dX5_see_88 : decode cX5_see 88 = .ok (.iload_n 3, 1) := by decide +kernel
theorem dX5_see_89 : decode cX5_see 89 = .ok (.bipush 64, 2) := by decide +kernel
theorem dX5_see_91 : decode cX5_see 91 = .ok (.irem, 1) := by decide +kernel
theorem dX5_see_92 : decode cX5_see 92 = .ok (.iastore, 1) := by decide +kernel
theorem dX5_see_93 : decode cX5_see 93 = .ok (.aload_n 0, 1) := by decide +kernel
theorem dX5_see_94 : decode cX5_see 94 = .ok (.getfield 28, 3) := by decide +kernel
theorem dX5_see_97 : decode cX5_see 97 = .ok (.iload 5, 2) := by decide +kernel
theorem dX5_see_99 : decode cX5_see 99 = .ok (.iload 4, 2) := by decide +kernel
theorem dX5_see_101 : decode cX5_see 101 = .ok (.iastore, 1) := by decide +kernel
theorem dX5_see_102 : decode cX5_see 102 = .ok (.aload_n 0, 1) := by decide +kernel
theorem dX5_see_103 : decode cX5_see 103 = .ok (.getfield 13, 3) := by decide +kernel
theorem dX5_see_106 : decode cX5_see 106 = .ok (.iload_n 1, 1) := by decide +kernel
theorem dX5_see_107 : decode cX5_see 107 = .ok (.dup2, 1) := by decide +kernel
theorem dX5_see_108 : decode cX5_see 108 = .ok (.iaload, 1) := by decide +kernel
theorem dX5_see_109 : decode cX5_see 109 = .ok (.iconst 1, 1) := by decide +kernel
theorem dX5_see_110 : decode cX5_see 110 = .ok (.iadd, 1) := by decide +kernel
theorem dX5_see_111 : decode cX5_see 111 = .ok (.iastore, 1) := by decide +kernel
theorem dX5_see_112 : decode cX5_see 112 = .ok (.iconst 0, 1) := by decide +kernel
theorem dX5_see_113 : decode cX5_see 113 = .ok (.istore 6, 2) := by decide +kernel
theorem dX5_see_115 : decode cX5_see 115 = .ok (.iload 6, 2) := by decide +kernel
theorem dX5_see_117 : decode cX5_see 117 = .ok (.bipush 80, 2) := by decide +kernel
theorem dX5_see_119 : decode cX5_see 119 = .ok (.if_icmp .ge 72, 3) := by decide +kernel
theorem dX5_see_122 : decode cX5_see 122 = .ok (.aload_n 0, 1) := by decide +kernel
theorem dX5_see_123 : decode cX5_see 123 = .ok (.iload_n 1, 1) := by decide +kernel
theorem dX5_see_124 : decode cX5_see 124 = .ok (.iload 6, 2) := by decide +kernel
theorem dX5_see_126 : decode cX5_see 126 = .ok (.iconst 1, 1) := by decide +kernel
theorem dX5_see_127 : decode cX5_see 127 = .ok (.invokevirtual 59, 3) := by decide +kernel
theorem dX5_see_130 : decode cX5_see 130 = .ok (.aload_n 0, 1) := by decide +kernel
theorem dX5_see_131 : decode cX5_see 131 = .ok (.iload_n 1, 1) := by decide +kernel
theorem dX5_see_132 : decode cX5_see 132 = .ok (.iload 6, 2) := by decide +kernel
theorem dX5_see_134 : decode cX5_see 134 = .ok (.iconst 1, 1) := by decide +kernel
theorem dX5_see_135 : decode cX5_see 135 = .ok (.invokevirtual 63, 3) := by decide +kernel
theorem dX5_see_138 : decode cX5_see 138 = .ok (.if_icmp .gt 25, 3) := by decide +kernel
theorem dX5_see_141 : decode cX5_see 141 = .ok (.aload_n 0, 1) := by decide +kernel
theorem dX5_see_142 : decode cX5_see 142 = .ok (.iload_n 1, 1) := by decide +kernel
theorem dX5_see_143 : decode cX5_see 143 = .ok (.iload 6, 2) := by decide +kernel
theorem dX5_see_145 : decode cX5_see 145 = .ok (.iconst 0, 1) := by decide +kernel
theorem dX5_see_146 : decode cX5_see 146 = .ok (.invokevirtual 59, 3) := by decide +kernel
theorem dX5_see_149 : decode cX5_see 149 = .ok (.aload_n 0, 1) := by decide +kernel
theorem dX5_see_150 : decode cX5_see 150 = .ok (.iload_n 1, 1) := by decide +kernel
theorem dX5_see_151 : decode cX5_see 151 = .ok (.iload 6, 2) := by decide +kernel
theorem dX5_see_153 : decode cX5_see 153 = .ok (.iconst 0, 1) := by decide +kernel
theorem dX5_see_154 : decode cX5_see 154 = .ok (.invokevirtual 63, 3) := by decide +kernel
theorem dX5_see_157 : decode cX5_see 157 = .ok (.if_icmp .gt 6, 3) := by decide +kernel
theorem dX5_see_160 : decode cX5_see 160 = .ok (.goto 25, 3) := by decide +kernel
theorem dX5_see_163 : decode cX5_see 163 = .ok (.aload_n 0, 1) := by decide +kernel
theorem dX5_see_164 : decode cX5_see 164 = .ok (.getfield 13, 3) := by decide +kernel
theorem dX5_see_167 : decode cX5_see 167 = .ok (.iload_n 1, 1) := by decide +kernel
theorem dX5_see_168 : decode cX5_see 168 = .ok (.dup2, 1) := by decide +kernel
theorem dX5_see_169 : decode cX5_see 169 = .ok (.iaload, 1) := by decide +kernel
theorem dX5_see_170 : decode cX5_see 170 = .ok (.iconst 1, 1) := by decide +kernel
theorem dX5_see_171 : decode cX5_see 171 = .ok (.isub, 1) := by decide +kernel
theorem dX5_see_172 : decode cX5_see 172 = .ok (.iastore, 1) := by decide +kernel
theorem dX5_see_173 : decode cX5_see 173 = .ok (.aload_n 0, 1) := by decide +kernel
theorem dX5_see_174 : decode cX5_see 174 = .ok (.getfield 16, 3) := by decide +kernel
theorem dX5_see_177 : decode cX5_see 177 = .ok (.iload_n 1, 1) := by decide +kernel
theorem dX5_see_178 : decode cX5_see 178 = .ok (.dup2, 1) := by decide +kernel
theorem dX5_see_179 : decode cX5_see 179 = .ok (.iaload, 1) := by decide +kernel
theorem dX5_see_180 : decode cX5_see 180 = .ok (.iconst 1, 1) := by decide +kernel
theorem dX5_see_181 : decode cX5_see 181 = .ok (.iadd, 1) := by decide +kernel
theorem dX5_see_182 : decode cX5_see 182 = .ok (.iastore, 1) := by decide +kernel
theorem dX5_see_183 : decode cX5_see 183 = .ok (.iconst (-1), 1) := by decide +kernel
theorem dX5_see_184 : decode cX5_see 184 = .ok (.ireturn, 1) := by decide +kernel
theorem dX5_see_185 : decode cX5_see 185 = .ok (.iinc 6 1, 3) := by decide +kernel
theorem dX5_see_188 : decode cX5_see 188 = .ok (.goto (-73), 3) := by decide +kernel
theorem dX5_see_191 : decode cX5_see 191 = .ok (.aload_n 0, 1) := by decide +kernel
theorem dX5_see_192 : decode cX5_see 192 = .ok (.getfield 13, 3) := by decide +kernel
theorem dX5_see_195 : decode cX5_see 195 = .ok (.iload_n 1, 1) := by decide +kernel
theorem dX5_see_196 : decode cX5_see 196 = .ok (.iaload, 1) := by decide +kernel
theorem dX5_see_197 : decode cX5_see 197 = .ok (.ireturn, 1) := by decide +kernel
set_option maxRecDepth 20000 in
theorem ggX5_back_X5_isThing : GoodIn wsX5_back wsX5_isThing := goodIn_r _ [6, 7, 8, 9, 5, 10, 11, 12, 13, 14, 15, 16, 17, 18, 19, 20, 21, 22] (by decide +kernel) (by decide +kernel)
set_option maxRecDepth 20000 in
theorem gX5_back_X5_isThing : GoodIn wsX5_back (wsV RX5 52 RX5 yX5_isThing wsX5_isThing) := goodIn_app (goodIn_of _ (by decide +kernel)) ggX5_back_X5_isThing
theorem dX5_back_0 : decode cX5_back 0 = .ok (.aload_n 0, 1) := by decide +kernel
theorem dX5_back_1 : decode cX5_back 1 = .ok (.iload_n 1, 1) := by decide +kernel
theorem dX5_back_2 : decode cX5_back 2 = .ok (.invokevirtual 52, 3) := by decide +kernel
theorem dX5_back_5 : decode cX5_back 5 = .ok (.ifCond .eq 12, 3) := by decide +kernel
theorem dX5_back_8 : decode cX5_back 8 = .ok (.aload_n 0, 1) := by decide +kernel
theorem dX5_back_9 : decode cX5_back 9 = .ok (.getfield 13, 3) := by decide +kernel
theorem dX5_back_12 : decode cX5_back 12 = .ok (.iload_n 1, 1) := by decide +kernel
theorem dX5_back_13 : decode cX5_back 13 = .ok (.iaload, 1) := by decide +kernel
theorem dX5_back_14 : decode cX5_back 14 = .ok (.ifCond .ne 5, 3) := by decide +kernel
theorem dX5_back_17 : decode cX5_back 17 = .ok (.iconst 0, 1) := by decide +kernel
theorem dX5_back_18 : decode cX5_back 18 = .ok (.ireturn, 1) := by decide +kernel
theorem dX5_back_19 : decode cX5_back 19 = .ok (.aload_n 0, 1) := by decide +kernel
theorem dX5_back_20 : decode cX5_back 20 = .ok (.getfield 13, 3) := by decide +kernel
theorem dX5_back_23 : decode cX5_back 23 = .ok (.iload_n 1, 1) := by decide +kernel
theorem dX5_back_24 : decode cX5_back 24 = .ok (.dup2, 1) := by decide +kernel
theorem dX5_back_25 : decode cX5_back 25 = .ok (.iaload, 1) := by decide +kernel
theorem dX5_back_26 : decode cX5_back 26 = .ok (.iconst 1, 1) := by decide +kernel
theorem dX5_back_27 : decode cX5_back 27 = .ok (.isub, 1) := by decide +kernel
theorem dX5_back_28 : decode cX5_back 28 = .ok (.iastore, 1) := by decide +kernel
theorem dX5_back_29 : decode cX5_back 29 = .ok (.iconst 1, 1) := by decide +kernel
theorem dX5_back_30 : decode cX5_back 30 = .ok (.ireturn, 1) := by decide +kernel
set_option maxRecDepth 20000 in
theorem ggX5_jumps_X5_isThing : GoodIn wsX5_jumps wsX5_isThing := goodIn_r _ [6, 7, 8, 9, 5, 10, 11, 12, 13, 14, 15, 16, 17, 18, 19, 20, 21, 22] (by decide +kernel) (by decide +kernel)
set_option maxRecDepth 20000 in
theorem gX5_jumps_X5_isThing : GoodIn wsX5_jumps (wsV RX5 52 RX5 yX5_isThing wsX5_isThing) := goodIn_app (goodIn_of _ (by decide +kernel)) ggX5_jumps_X5_isThing
theorem dX5_jumps_0 : decode cX5_jumps 0 = .ok (.aload_n 0, 1) := by decide +kernel
theorem dX5_jumps_1 : decode cX5_jumps 1 = .ok (.iload_n 1, 1) := by decide +kernel
theorem dX5_jumps_2 : decode cX5_jumps 2 = .ok (.invokevirtual 52, 3) := by decide +kernel
theorem dX5_jumps_5 : decode cX5_jumps 5 = .ok (.ifCond .eq 12, 3) := by decide +kernel
theorem dX5_jumps_8 : decode cX5_jumps 8 = .ok (.aload_n 0, 1) := by decide +kernel
theorem dX5_jumps_9 : decode cX5_jumps 9 = .ok (.getfield 16, 3) := by decide +kernel
theorem dX5_jumps_12 : decode cX5_jumps 12 = .ok (.iload_n 1, 1) := by decide +kernel
theorem dX5_jumps_13 : decode cX5_jumps 13 = .ok (.iaload, 1) := by decide +kernel
theorem dX5_jumps_14 : decode cX5_jumps 14 = .ok (.goto 4, 3) := by decide +kernel
theorem dX5_jumps_17 : decode cX5_jumps 17 = .ok (.iconst (-1), 1) := by decide +kernel
theorem dX5_jumps_18 : decode cX5_jumps 18 = .ok (.ireturn, 1) := by decide +kernel
set_option maxRecDepth 20000 in
theorem ggX5_where_X5_isThing : GoodIn wsX5_where wsX5_isThing := goodIn_r _ [5, 6, 7, 8, 4, 9, 27, 28, 29, 30, 31, 32, 33, 34, 35, 36, 37, 38] (by decide +kernel) (by decide +kernel)
set_option maxRecDepth 20000 in
theorem gX5_where_X5_isThing : GoodIn wsX5_where (wsV RX5 52 RX5 yX5_isThing wsX5_isThing) := goodIn_app (goodIn_of _ (by decide +kernel)) ggX5_where_X5_isThing
set_option maxRecDepth 20000 in
theorem ggX5_where_X5_isTick : GoodIn wsX5_where wsX5_isTick := goodIn_r _ [12, 7, 8, 4, 9] (by decide +kernel) (by decide +kernel)
set_option maxRecDepth 20000 in
theorem gX5_where_X5_isTick : GoodIn wsX5_where (va_wsS RX5 56 yX5_isTick wsX5_isTick) := goodIn_app (goodIn_of _ (by decide +kernel)) ggX5_where_X5_isTick
set_option maxRecDepth 20000 in
theorem ggX5_where_X5_low : GoodIn wsX5_where wsX5_low := goodIn_r _ [16, 17, 18, 19, 20, 21, 22, 27, 28, 29, 30, 31, 32, 33, 34, 35, 36, 37, 38] (by decide +kernel) (by decide +kernel)
set_option maxRecDepth 20000 in
theorem gX5_where_X5_low : GoodIn wsX5_where (wsV RX5 59 RX5 yX5_low wsX5_low) := goodIn_app (goodIn_of _ (by decide +kernel)) ggX5_where_X5_low
set_option maxRecDepth 20000 in
theorem ggX5_where_X5_high : GoodIn wsX5_where wsX5_high := goodIn_r _ [26, 17, 18, 19, 20, 21, 22, 27, 28, 29, 30, 31, 32, 33, 34, 35, 36, 37, 38] (by decide +kernel) (by decide +kernel)
set_option maxRecDepth 20000 in
theorem gX5_where_X5_high : GoodIn wsX5_where (wsV RX5 63 RX5 yX5_high wsX5_high) := goodIn_app (goodIn_of _ (by decide +kernel)) ggX5_where_X5_high
theorem dX5_where_0 : decode cX5_where 0 = .ok (.aload_n 0, 1) := by decide +kernel
theorem dX5_where_1 : decode cX5_where 1 = .ok (.iload_n 1, 1) := by decide +kernel
theorem dX5_where_2 : decode cX5_where 2 = .ok (.invokevirtual 52, 3) := by decide +kernel
theorem dX5_where_5 : decode cX5_where 5 = .ok (.ifCond .eq 10, 3) := by decide +kernel
theorem dX5_where_8 : decode cX5_where 8 = .ok (.iload_n 2, 1) := by decide +kernel
theorem dX5_where_9 : decode cX5_where 9 = .ok (.invokestatic 56, 3) := by decide +kernel
theorem dX5_where_12 : decode cX5_where 12 = .ok (.ifCond .ne 5, 3) := by decide +kernel
theorem dX5_where_15 : decode cX5_where 15 = .ok (.iconst (-1), 1) := by decide +kernel
theorem dX5_where_16 : decode cX5_where 16 = .ok (.ireturn, 1) := by decide +kernel
theorem dX5_where_17 : decode cX5_where 17 = .ok (.aload_n 0, 1) := by decide +kernel
theorem dX5_where_18 : decode cX5_where 18 = .ok (.iload_n 1, 1) := by decide +kernel
theorem dX5_where_19 : decode cX5_where 19 = .ok (.iload_n 2, 1) := by decide +kernel
theorem dX5_where_20 : decode cX5_where 20 = .ok (.iconst 1, 1) := by decide +kernel
theorem dX5_where_21 : decode cX5_where 21 = .ok (.invokevirtual 59, 3) := by decide +kernel
theorem dX5_where_24 : decode cX5_where 24 = .ok (.istore 4, 2) := by decide +kernel
theorem dX5_where_26 : decode cX5_where 26 = .ok (.aload_n 0, 1) := by decide +kernel
theorem dX5_where_27 : decode cX5_where 27 = .ok (.iload_n 1, 1) := by decide +kernel
theorem dX5_where_28 : decode cX5_where 28 = .ok (.iload_n 2, 1) := by decide +kernel
theorem dX5_where_29 : decode cX5_where 29 = .ok (.iconst 1, 1) := by decide +kernel
theorem dX5_where_30 : decode cX5_where 30 = .ok (.invokevirtual 63, 3) := by decide +kernel
theorem dX5_where_33 : decode cX5_where 33 = .ok (.istore 5, 2) := by decide +kernel
theorem dX5_where_35 : decode cX5_where 35 = .ok (.aload_n 0, 1) := by decide +kernel
theorem dX5_where_36 : decode cX5_where 36 = .ok (.iload_n 1, 1) := by decide +kernel
theorem dX5_where_37 : decode cX5_where 37 = .ok (.iload_n 2, 1) := by decide +kernel
theorem dX5_where_38 : decode cX5_where 38 = .ok (.iconst 0, 1) := by decide +kernel
theorem dX5_where_39 : decode cX5_where 39 = .ok (.invokevirtual 59, 3) := by decide +kernel
theorem dX5_where_42 : decode cX5_where 42 = .ok (.istore 6, 2) := by decide +kernel
theorem dX5_where_44 : decode cX5_where 44 = .ok (.aload_n 0, 1) := by decide +kernel
theorem dX5_where_45 : decode cX5_where 45 = .ok (.iload_n 1, 1) := by decide +kernel
theorem dX5_where_46 : decode cX5_where 46 = .ok (.iload_n 2, 1) := by decide +kernel
theorem dX5_where_47 : decode cX5_where 47 = .ok (.iconst 0, 1) := by decide +kernel
theorem dX5_where_48 : decode cX5_where 48 = .ok (.invokevirtual 63, 3) := by decide +kernel
theorem dX5_where_51 : decode cX5_where 51 = .ok (.istore 7, 2) := by decide +kernel
theorem dX5_where_53 : decode cX5_where 53 = .ok (.iload_n 3, 1) := by decide +kernel
theorem dX5_where_54 : decode cX5_where 54 = .ok (.tableswitch 62 0 4 #[34, 37, 40, 43, 46], 34) := by decide +kernel
theorem dX5_where_88 : decode cX5_where 88 = .ok (.iload 4, 2) := by decide +kernel
theorem dX5_where_90 : decode cX5_where 90 = .ok (.ireturn, 1) := by decide +kernel
theorem dX5_where_91 : decode cX5_where 91 = .ok (.iload 5, 2) := by decide +kernel
theorem dX5_where_93 : decode cX5_where 93 = .ok (.ireturn, 1) := by decide +kernel
theorem dX5_where_94 : decode cX5_where 94 = .ok (.iload 6, 2) := by decide +kernel
theorem dX5_where_96 : decode cX5_where 96 = .ok (.ireturn, 1) := by decide +kernel
theorem dX5_where_97 : decode cX5_where 97 = .ok (.iload 7, 2) := by decide +kernel
theorem dX5_where_99 : decode cX5_where 99 = .ok (.ireturn, 1) := by decide +kernel
theorem dX5_where_100 : decode cX5_where 100 = .ok (.iload 5, 2) := by decide +kernel
theorem dX5_where_102 : decode cX5_where 102 = .ok (.iload 4, 2) := by decide +kernel
theorem dX5_where_104 : decode cX5_where 104 = .ok (.isub, 1) := by decide +kernel
theorem dX5_where_105 : decode cX5_where 105 = .ok (.iconst 1, 1) := by decide +kernel
theorem dX5_where_106 : decode cX5_where 106 = .ok (.iadd, 1) := by decide +kernel
theorem dX5_where_107 : decode cX5_where 107 = .ok (.iload 7, 2) := by decide +kernel
theorem dX5_where_109 : decode cX5_where 109 = .ok (.iload 6, 2) := by decide +kernel
theorem dX5_where_111 : decode cX5_where 111 = .ok (.isub, 1) := by decide +kernel
theorem dX5_where_112 : decode cX5_where 112 = .ok (.iconst 1, 1) := by decide +kernel
theorem dX5_where_113 : decode cX5_where 113 = .ok (.iadd, 1) := by decide +kernel
theorem dX5_where_114 : decode cX5_where 114 = .ok (.imul, 1) := by decide +kernel
theorem dX5_where_115 : decode cX5_where 115 = .ok (.ireturn, 1) := by decide +kernel
theorem dX5_where_116 : decode cX5_where 116 = .ok (.iconst (-1), 1) := by decide +kernel
theorem dX5_where_117 : decode cX5_where 117 = .ok (.ireturn, 1) := by decide +kernel
theorem dX5_ground_0 : decode cX5_ground 0 = .ok (.aload_n 0, 1) := by decide +kernel
theorem dX5_ground_1 : decode cX5_ground 1 = .ok (.getfield 49, 3) := by decide +kernel
theorem dX5_ground_4 : decode cX5_ground 4 = .ok (.iconst 4, 1) := by decide +kernel
theorem dX5_ground_5 : decode cX5_ground 5 = .ok (.if_icmp .ne 5, 3) := by decide +kernel
theorem dX5_ground_8 : decode cX5_ground 8 = .ok (.iconst (-1), 1) := by decide +kernel
theorem dX5_ground_9 : decode cX5_ground 9 = .ok (.ireturn, 1) := by decide +kernel
theorem dX5_ground_10 : decode cX5_ground 10 = .ok (.aload_n 0, 1) := by decide +kernel
theorem dX5_ground_11 : decode cX5_ground 11 = .ok (.dup, 1) := by decide +kernel
theorem dX5_ground_12 : decode cX5_ground 12 = .ok (.getfield 49, 3) := by decide +kernel
theorem dX5_ground_15 : decode cX5_ground 15 = .ok (.iconst 1, 1) := by decide +kernel
theorem dX5_ground_16 : decode cX5_ground 16 = .ok (.iadd, 1) := by decide +kernel
theorem dX5_ground_17 : decode cX5_ground 17 = .ok (.putfield 49, 3) := by decide +kernel
theorem dX5_ground_20 : decode cX5_ground 20 = .ok (.aload_n 0, 1) := by decide +kernel
theorem dX5_ground_21 : decode cX5_ground 21 = .ok (.getfield 49, 3) := by decide +kernel
theorem dX5_ground_24 : decode cX5_ground 24 = .ok (.iconst 1, 1) := by decide +kernel
theorem dX5_ground_25 : decode cX5_ground 25 = .ok (.isub, 1) := by decide +kernel
theorem dX5_ground_26 : decode cX5_ground 26 = .ok (.ireturn, 1) := by decide +kernel
set_option maxRecDepth 20000 in
theorem ggX5_draw_X5_isGround : GoodIn wsX5_draw wsX5_isGround := goodIn_r _ [6, 7, 8, 9, 5, 10, 11, 12, 13, 14, 15, 16, 17, 18, 19, 20, 21, 22] (by decide +kernel) (by decide +kernel)
set_option maxRecDepth 20000 in
theorem gX5_draw_X5_isGround : GoodIn wsX5_draw (wsV RX5 66 RX5 yX5_isGround wsX5_isGround) := goodIn_app (goodIn_of _ (by decide +kernel)) ggX5_draw_X5_isGround
set_option maxRecDepth 20000 in
theorem ggX5_draw_X5_in : GoodIn wsX5_draw wsX5_in := goodIn_r _ [10] (by decide +kernel) (by decide +kernel)
set_option maxRecDepth 20000 in
theorem gX5_draw_X5_in : GoodIn wsX5_draw (va_wsS RX5 45 yX5_in wsX5_in) := goodIn_app (goodIn_of _ (by decide +kernel)) ggX5_draw_X5_in
theorem dX5_draw_0 : decode cX5_draw 0 = .ok (.aload_n 0, 1) := by decide +kernel
theorem dX5_draw_1 : decode cX5_draw 1 = .ok (.iload_n 1, 1) := by decide +kernel
theorem dX5_draw_2 : decode cX5_draw 2 = .ok (.invokevirtual 66, 3) := by decide +kernel
theorem dX5_draw_5 : decode cX5_draw 5 = .ok (.ifCond .eq 25, 3) := by decide +kernel
theorem dX5_draw_8 : decode cX5_draw 8 = .ok (.iload_n 2, 1) := by decide +kernel
theorem dX5_draw_9 : decode cX5_draw 9 = .ok (.iconst 0, 1) := by decide +kernel
theorem dX5_draw_10 : decode cX5_draw 10 = .ok (.sipush 4095, 3) := by decide +kernel
theorem dX5_draw_13 : decode cX5_draw 13 = .ok (.invokestatic 45, 3) := by decide +kernel
theorem dX5_draw_16 : decode cX5_draw 16 = .ok (.ifCond .eq 14, 3) := by decide +kernel
theorem dX5_draw_19 : decode cX5_draw 19 = .ok (.iload_n 3, 1) := by decide +kernel
theorem dX5_draw_20 : decode cX5_draw 20 = .ok (.iconst 0, 1) := by decide +kernel
theorem dX5_draw_21 : decode cX5_draw 21 = .ok (.sipush 4095, 3) := by decide +kernel
theorem dX5_draw_24 : decode cX5_draw 24 = .ok (.invokestatic 45, 3) := by decide +kernel
theorem dX5_draw_27 : decode cX5_draw 27 = .ok (.ifCond .ne 5, 3) := by decide +kernel
theorem dX5_draw_30 : decode cX5_draw 30 = .ok (.iconst (-1), 1) := by decide +kernel
theorem dX5_draw_31 : decode cX5_draw 31 = .ok (.ireturn, 1) := by decide +kernel
theorem dX5_draw_32 : decode cX5_draw 32 = .ok (.iload_n 3, 1) := by decide +kernel
theorem dX5_draw_33 : decode cX5_draw 33 = .ok (.bipush 64, 2) := by decide +kernel
theorem dX5_draw_35 : decode cX5_draw 35 = .ok (.idiv, 1) := by decide +kernel
theorem dX5_draw_36 : decode cX5_draw 36 = .ok (.iload_n 2, 1) := by decide +kernel
theorem dX5_draw_37 : decode cX5_draw 37 = .ok (.bipush 64, 2) := by decide +kernel
theorem dX5_draw_39 : decode cX5_draw 39 = .ok (.idiv, 1) := by decide +kernel
theorem dX5_draw_40 : decode cX5_draw 40 = .ok (.if_icmp .lt 14, 3) := by decide +kernel
theorem dX5_draw_43 : decode cX5_draw 43 = .ok (.iload_n 3, 1) := by decide +kernel
theorem dX5_draw_44 : decode cX5_draw 44 = .ok (.bipush 64, 2) := by decide +kernel
theorem dX5_draw_46 : decode cX5_draw 46 = .ok (.irem, 1) := by decide +kernel
theorem dX5_draw_47 : decode cX5_draw 47 = .ok (.iload_n 2, 1) := by decide +kernel
theorem dX5_draw_48 : decode cX5_draw 48 = .ok (.bipush 64, 2) := by decide +kernel
theorem dX5_draw_50 : decode cX5_draw 50 = .ok (.irem, 1) := by decide +kernel
theorem dX5_draw_51 : decode cX5_draw 51 = .ok (.if_icmp .ge 5, 3) := by decide +kernel
theorem dX5_draw_54 : decode cX5_draw 54 = .ok (.iconst (-1), 1) := by decide +kernel
theorem dX5_draw_55 : decode cX5_draw 55 = .ok (.ireturn, 1) := by decide +kernel
theorem dX5_draw_56 : decode cX5_draw 56 = .ok (.iconst 0, 1) := by decide +kernel
theorem dX5_draw_57 : decode cX5_draw 57 = .ok (.istore 5, 2) := by decide +kernel
theorem dX5_draw_59 : decode cX5_draw 59 = .ok (.iconst 0, 1) := by decide +kernel
theorem dX5_draw_60 : decode cX5_draw 60 = .ok (.istore 6, 2) := by decide +kernel
theorem dX5_draw_62 : decode cX5_draw 62 = .ok (.iload 6, 2) := by decide +kernel
theorem dX5_draw_64 : decode cX5_draw 64 = .ok (.sipush 4096, 3) := by decide +kernel
theorem dX5_draw_67 : decode cX5_draw 67 = .ok (.if_icmp .ge 100, 3) := by decide +kernel
theorem dX5_draw_70 : decode cX5_draw 70 = .ok (.iload 6, 2) := by decide +kernel
theorem dX5_draw_72 : decode cX5_draw 72 = .ok (.bipush 64, 2) := by decide +kernel
theorem dX5_draw_74 : decode cX5_draw 74 = .ok (.idiv, 1) := by decide +kernel
theorem dX5_draw_75 : decode cX5_draw 75 = .ok (.iload_n 2, 1) := by decide +kernel
theorem dX5_draw_76 : decode cX5_draw 76 = .ok (.bipush 64, 2) := by decide +kernel
theorem dX5_draw_78 : decode cX5_draw 78 = .ok (.idiv, 1) := by decide +kernel
theorem dX5_draw_79 : decode cX5_draw 79 = .ok (.iload_n 3, 1) := by decide +kernel
theorem dX5_draw_80 : decode cX5_draw 80 = .ok (.bipush 64, 2) := by decide +kernel
theorem dX5_draw_82 : decode cX5_draw 82 = .ok (.idiv, 1) := by decide +kernel
theorem dX5_draw_83 : decode cX5_draw 83 = .ok (.invokestatic 45, 3) := by decide +kernel
theorem dX5_draw_86 : decode cX5_draw 86 = .ok (.ifCond .eq 26, 3) := by decide +kernel
theorem dX5_draw_89 : decode cX5_draw 89 = .ok (.iload 6, 2) := by decide +kernel
theorem dX5_draw_91 : decode cX5_draw 91 = .ok (.bipush 64, 2) := by decide +kernel
theorem dX5_draw_93 : decode cX5_draw 93 = .ok (.irem, 1) := by decide +kernel
theorem dX5_draw_94 : decode cX5_draw 94 = .ok (.iload_n 2, 1) := by decide +kernel
theorem dX5_draw_95 : decode cX5_draw 95 = .ok (.bipush 64, 2) := by decide +kernel
theorem dX5_draw_97 : decode cX5_draw 97 = .ok (.irem, 1) := by decide +kernel
theorem dX5_draw_98 : decode cX5_draw 98 = .ok (.iload_n 3, 1) := by decide +kernel
theorem dX5_draw_99 : decode cX5_draw 99 = .ok (.bipush 64, 2) := by decide +kernel
theorem dX5_draw_101 : decode cX5_draw 101 = .ok (.irem, 1) := by decide +kernel
theorem dX5_draw_102 : decode cX5_draw 102 = .ok (.invokestatic 45, 3) := by decide +kernel
theorem dX5_draw_105 : decode cX5_draw 105 = .ok (.ifCond .eq 7, 3) := by decide +kernel
theorem dX5_draw_108 : decode cX5_draw 108 = .ok (.iconst 1, 1) := by decide +kernel
theorem dX5_draw_109 : decode cX5_draw 109 = .ok (.goto 4, 3) := by decide +kernel
theorem dX5_draw_112 : decode cX5_draw 112 = .ok (.iconst 0, 1) := by decide +kernel
theorem dX5_draw_113 : decode cX5_draw 113 = .ok (.istore 7, 2) := by decide +kernel
theorem dX5_draw_115 : decode cX5_draw 115 = .ok (.iload 7, 2) := by decide +kernel
theorem dX5_draw_117 : decode cX5_draw 117 = .ok (.ifCond .eq 18, 3) := by decide +kernel
theorem dX5_draw_120 : decode cX5_draw 120 = .ok (.aload_n 0, 1) := by decide +kernel
