theorem dX5_draw_121 : decode cX5_draw 121 = .ok (.getfield 31, 3) := by decide +kernel
theorem dX5_draw_124 : decode cX5_draw 124 = .ok (.sipush 4096, 3) := by decide +kernel
theorem dX5_draw_127 : decode cX5_draw 127 = .ok (.iload_n 1, 1) := by decide +kernel
theorem dX5_draw_128 : decode cX5_draw 128 = .ok (.imul, 1) := by decide +kernel
theorem dX5_draw_129 : decode cX5_draw 129 = .ok (.iload 6, 2) := by decide +kernel
theorem dX5_draw_131 : decode cX5_draw 131 = .ok (.iadd, 1) := by decide +kernel
theorem dX5_draw_132 : decode cX5_draw 132 = .ok (.iload 4, 2) := by decide +kernel
theorem dX5_draw_134 : decode cX5_draw 134 = .ok (.bastore, 1) := by decide +kernel
theorem dX5_draw_135 : decode cX5_draw 135 = .ok (.iload 5, 2) := by decide +kernel
theorem dX5_draw_137 : decode cX5_draw 137 = .ok (.aload_n 0, 1) := by decide +kernel
theorem dX5_draw_138 : decode cX5_draw 138 = .ok (.getfield 31, 3) := by decide +kernel
theorem dX5_draw_141 : decode cX5_draw 141 = .ok (.sipush 4096, 3) := by decide +kernel
theorem dX5_draw_144 : decode cX5_draw 144 = .ok (.iload_n 1, 1) := by decide +kernel
theorem dX5_draw_145 : decode cX5_draw 145 = .ok (.imul, 1) := by decide +kernel
theorem dX5_draw_146 : decode cX5_draw 146 = .ok (.iload 6, 2) := by decide +kernel
theorem dX5_draw_148 : decode cX5_draw 148 = .ok (.iadd, 1) := by decide +kernel
theorem dX5_draw_149 : decode cX5_draw 149 = .ok (.baload, 1) := by decide +kernel
theorem dX5_draw_150 : decode cX5_draw 150 = .ok (.ifCond .eq 7, 3) := by decide +kernel
theorem dX5_draw_153 : decode cX5_draw 153 = .ok (.iconst 1, 1) := by decide +kernel
theorem dX5_draw_154 : decode cX5_draw 154 = .ok (.goto 4, 3) := by decide +kernel
theorem dX5_draw_157 : decode cX5_draw 157 = .ok (.iconst 0, 1) := by decide +kernel
theorem dX5_draw_158 : decode cX5_draw 158 = .ok (.iadd, 1) := by decide +kernel
theorem dX5_draw_159 : decode cX5_draw 159 = .ok (.istore 5, 2) := by decide +kernel
theorem dX5_draw_161 : decode cX5_draw 161 = .ok (.iinc 6 1, 3) := by decide +kernel
theorem dX5_draw_164 : decode cX5_draw 164 = .ok (.goto (-102), 3) := by decide +kernel
theorem dX5_draw_167 : decode cX5_draw 167 = .ok (.iload 5, 2) := by decide +kernel
theorem dX5_draw_169 : decode cX5_draw 169 = .ok (.ireturn, 1) := by decide +kernel
set_option maxRecDepth 20000 in
theorem ggX5_has_X5_isGround : GoodIn wsX5_has wsX5_isGround := goodIn_r _ [6, 7, 8, 9, 5, 10, 11, 12, 13, 14, 15, 16, 17, 18, 19, 20, 21, 22] (by decide +kernel) (by decide +kernel)
set_option maxRecDepth 20000 in
theorem gX5_has_X5_isGround : GoodIn wsX5_has (wsV RX5 66 RX5 yX5_isGround wsX5_isGround) := goodIn_app (goodIn_of _ (by decide +kernel)) ggX5_has_X5_isGround
set_option maxRecDepth 20000 in
theorem ggX5_has_X5_in : GoodIn wsX5_has wsX5_in := goodIn_r _ [10] (by decide +kernel) (by decide +kernel)
set_option maxRecDepth 20000 in
theorem gX5_has_X5_in : GoodIn wsX5_has (va_wsS RX5 45 yX5_in wsX5_in) := goodIn_app (goodIn_of _ (by decide +kernel)) ggX5_has_X5_in
theorem dX5_has_0 : decode cX5_has 0 = .ok (.aload_n 0, 1) := by decide +kernel
theorem dX5_has_1 : decode cX5_has 1 = .ok (.iload_n 1, 1) := by decide +kernel
theorem dX5_has_2 : decode cX5_has 2 = .ok (.invokevirtual 66, 3) := by decide +kernel
theorem dX5_has_5 : decode cX5_has 5 = .ok (.ifCond .eq 33, 3) := by decide +kernel
theorem dX5_has_8 : decode cX5_has 8 = .ok (.iload_n 2, 1) := by decide +kernel
theorem dX5_has_9 : decode cX5_has 9 = .ok (.iconst 0, 1) := by decide +kernel
theorem dX5_has_10 : decode cX5_has 10 = .ok (.sipush 4095, 3) := by decide +kernel
theorem dX5_has_13 : decode cX5_has 13 = .ok (.invokestatic 45, 3) := by decide +kernel
theorem dX5_has_16 : decode cX5_has 16 = .ok (.ifCond .eq 22, 3) := by decide +kernel
theorem dX5_has_19 : decode cX5_has 19 = .ok (.aload_n 0, 1) := by decide +kernel
theorem dX5_has_20 : decode cX5_has 20 = .ok (.getfield 31, 3) := by decide +kernel
theorem dX5_has_23 : decode cX5_has 23 = .ok (.sipush 4096, 3) := by decide +kernel
theorem dX5_has_26 : decode cX5_has 26 = .ok (.iload_n 1, 1) := by decide +kernel
theorem dX5_has_27 : decode cX5_has 27 = .ok (.imul, 1) := by decide +kernel
theorem dX5_has_28 : decode cX5_has 28 = .ok (.iload_n 2, 1) := by decide +kernel
theorem dX5_has_29 : decode cX5_has 29 = .ok (.iadd, 1) := by decide +kernel
theorem dX5_has_30 : decode cX5_has 30 = .ok (.baload, 1) := by decide +kernel
theorem dX5_has_31 : decode cX5_has 31 = .ok (.ifCond .eq 7, 3) := by decide +kernel
theorem dX5_has_34 : decode cX5_has 34 = .ok (.iconst 1, 1) := by decide +kernel
theorem dX5_has_35 : decode cX5_has 35 = .ok (.goto 4, 3) := by decide +kernel
theorem dX5_has_38 : decode cX5_has 38 = .ok (.iconst 0, 1) := by decide +kernel
theorem dX5_has_39 : decode cX5_has 39 = .ok (.ireturn, 1) := by decide +kernel
set_option maxRecDepth 20000 in
theorem ggX5_state_X5_isThing : GoodIn wsX5_state wsX5_isThing := goodIn_r _ [6, 7, 8, 9, 5, 10, 33, 34, 35, 36, 37, 38, 39, 40, 41, 42, 43, 44] (by decide +kernel) (by decide +kernel)
set_option maxRecDepth 20000 in
theorem gX5_state_X5_isThing : GoodIn wsX5_state (wsV RX5 52 RX5 yX5_isThing wsX5_isThing) := goodIn_app (goodIn_of _ (by decide +kernel)) ggX5_state_X5_isThing
set_option maxRecDepth 20000 in
theorem ggX5_state_X5_isGround : GoodIn wsX5_state wsX5_isGround := goodIn_r _ [14, 15, 8, 9, 5, 10, 33, 34, 35, 36, 37, 38, 39, 40, 41, 42, 43, 44] (by decide +kernel) (by decide +kernel)
set_option maxRecDepth 20000 in
theorem gX5_state_X5_isGround : GoodIn wsX5_state (wsV RX5 66 RX5 yX5_isGround wsX5_isGround) := goodIn_app (goodIn_of _ (by decide +kernel)) ggX5_state_X5_isGround
set_option maxRecDepth 20000 in
theorem ggX5_state_X5_isTick : GoodIn wsX5_state wsX5_isTick := goodIn_r _ [18, 8, 9, 5, 10] (by decide +kernel) (by decide +kernel)
set_option maxRecDepth 20000 in
theorem gX5_state_X5_isTick : GoodIn wsX5_state (va_wsS RX5 56 yX5_isTick wsX5_isTick) := goodIn_app (goodIn_of _ (by decide +kernel)) ggX5_state_X5_isTick
set_option maxRecDepth 20000 in
theorem ggX5_state_X5_high : GoodIn wsX5_state wsX5_high := goodIn_r _ [22, 23, 24, 25, 26, 27, 28, 33, 34, 35, 36, 37, 38, 39, 40, 41, 42, 43, 44] (by decide +kernel) (by decide +kernel)
set_option maxRecDepth 20000 in
theorem gX5_state_X5_high : GoodIn wsX5_state (wsV RX5 63 RX5 yX5_high wsX5_high) := goodIn_app (goodIn_of _ (by decide +kernel)) ggX5_state_X5_high
set_option maxRecDepth 20000 in
theorem ggX5_state_X5_low : GoodIn wsX5_state wsX5_low := goodIn_r _ [32, 23, 24, 25, 26, 27, 28, 33, 34, 35, 36, 37, 38, 39, 40, 41, 42, 43, 44] (by decide +kernel) (by decide +kernel)
set_option maxRecDepth 20000 in
theorem gX5_state_X5_low : GoodIn wsX5_state (wsV RX5 59 RX5 yX5_low wsX5_low) := goodIn_app (goodIn_of _ (by decide +kernel)) ggX5_state_X5_low
theorem dX5_state_0 : decode cX5_state 0 = .ok (.aload_n 0, 1) := by decide +kernel
theorem dX5_state_1 : decode cX5_state 1 = .ok (.iload_n 1, 1) := by decide +kernel
theorem dX5_state_2 : decode cX5_state 2 = .ok (.invokevirtual 52, 3) := by decide +kernel
theorem dX5_state_5 : decode cX5_state 5 = .ok (.ifCond .eq 18, 3) := by decide +kernel
theorem dX5_state_8 : decode cX5_state 8 = .ok (.aload_n 0, 1) := by decide +kernel
theorem dX5_state_9 : decode cX5_state 9 = .ok (.iload_n 2, 1) := by decide +kernel
theorem dX5_state_10 : decode cX5_state 10 = .ok (.invokevirtual 66, 3) := by decide +kernel
theorem dX5_state_13 : decode cX5_state 13 = .ok (.ifCond .eq 10, 3) := by decide +kernel
theorem dX5_state_16 : decode cX5_state 16 = .ok (.iload_n 3, 1) := by decide +kernel
theorem dX5_state_17 : decode cX5_state 17 = .ok (.invokestatic 56, 3) := by decide +kernel
theorem dX5_state_20 : decode cX5_state 20 = .ok (.ifCond .ne 5, 3) := by decide +kernel
theorem dX5_state_23 : decode cX5_state 23 = .ok (.iconst (-1), 1) := by decide +kernel
theorem dX5_state_24 : decode cX5_state 24 = .ok (.ireturn, 1) := by decide +kernel
theorem dX5_state_25 : decode cX5_state 25 = .ok (.aload_n 0, 1) := by decide +kernel
theorem dX5_state_26 : decode cX5_state 26 = .ok (.iload_n 1, 1) := by decide +kernel
theorem dX5_state_27 : decode cX5_state 27 = .ok (.iload_n 3, 1) := by decide +kernel
theorem dX5_state_28 : decode cX5_state 28 = .ok (.iconst 0, 1) := by decide +kernel
theorem dX5_state_29 : decode cX5_state 29 = .ok (.invokevirtual 63, 3) := by decide +kernel
theorem dX5_state_32 : decode cX5_state 32 = .ok (.istore 4, 2) := by decide +kernel
theorem dX5_state_34 : decode cX5_state 34 = .ok (.iconst 0, 1) := by decide +kernel
theorem dX5_state_35 : decode cX5_state 35 = .ok (.istore 5, 2) := by decide +kernel
theorem dX5_state_37 : decode cX5_state 37 = .ok (.iconst 1, 1) := by decide +kernel
theorem dX5_state_38 : decode cX5_state 38 = .ok (.istore 6, 2) := by decide +kernel
theorem dX5_state_40 : decode cX5_state 40 = .ok (.aload_n 0, 1) := by decide +kernel
theorem dX5_state_41 : decode cX5_state 41 = .ok (.iload_n 1, 1) := by decide +kernel
theorem dX5_state_42 : decode cX5_state 42 = .ok (.iload_n 3, 1) := by decide +kernel
theorem dX5_state_43 : decode cX5_state 43 = .ok (.iconst 1, 1) := by decide +kernel
theorem dX5_state_44 : decode cX5_state 44 = .ok (.invokevirtual 59, 3) := by decide +kernel
theorem dX5_state_47 : decode cX5_state 47 = .ok (.istore 7, 2) := by decide +kernel
theorem dX5_state_49 : decode cX5_state 49 = .ok (.iload 7, 2) := by decide +kernel
theorem dX5_state_51 : decode cX5_state 51 = .ok (.aload_n 0, 1) := by decide +kernel
theorem dX5_state_52 : decode cX5_state 52 = .ok (.iload_n 1, 1) := by decide +kernel
theorem dX5_state_53 : decode cX5_state 53 = .ok (.iload_n 3, 1) := by decide +kernel
theorem dX5_state_54 : decode cX5_state 54 = .ok (.iconst 1, 1) := by decide +kernel
theorem dX5_state_55 : decode cX5_state 55 = .ok (.invokevirtual 63, 3) := by decide +kernel
theorem dX5_state_58 : decode cX5_state 58 = .ok (.if_icmp .gt 86, 3) := by decide +kernel
theorem dX5_state_61 : decode cX5_state 61 = .ok (.aload_n 0, 1) := by decide +kernel
theorem dX5_state_62 : decode cX5_state 62 = .ok (.iload_n 1, 1) := by decide +kernel
theorem dX5_state_63 : decode cX5_state 63 = .ok (.iload_n 3, 1) := by decide +kernel
theorem dX5_state_64 : decode cX5_state 64 = .ok (.iconst 0, 1) := by decide +kernel
theorem dX5_state_65 : decode cX5_state 65 = .ok (.invokevirtual 59, 3) := by decide +kernel
theorem dX5_state_68 : decode cX5_state 68 = .ok (.istore 8, 2) := by decide +kernel
theorem dX5_state_70 : decode cX5_state 70 = .ok (.iload 8, 2) := by decide +kernel
theorem dX5_state_72 : decode cX5_state 72 = .ok (.iload 4, 2) := by decide +kernel
theorem dX5_state_74 : decode cX5_state 74 = .ok (.if_icmp .gt 64, 3) := by decide +kernel
theorem dX5_state_77 : decode cX5_state 77 = .ok (.aload_n 0, 1) := by decide +kernel
theorem dX5_state_78 : decode cX5_state 78 = .ok (.getfield 31, 3) := by decide +kernel
theorem dX5_state_81 : decode cX5_state 81 = .ok (.sipush 4096, 3) := by decide +kernel
theorem dX5_state_84 : decode cX5_state 84 = .ok (.iload_n 2, 1) := by decide +kernel
theorem dX5_state_85 : decode cX5_state 85 = .ok (.imul, 1) := by decide +kernel
theorem dX5_state_86 : decode cX5_state 86 = .ok (.bipush 64, 2) := by decide +kernel
theorem dX5_state_88 : decode cX5_state 88 = .ok (.iload 7, 2) := by decide +kernel
theorem dX5_state_90 : decode cX5_state 90 = .ok (.imul, 1) := by decide +kernel
theorem dX5_state_91 : decode cX5_state 91 = .ok (.iadd, 1) := by decide +kernel
theorem dX5_state_92 : decode cX5_state 92 = .ok (.iload 8, 2) := by decide +kernel
theorem dX5_state_94 : decode cX5_state 94 = .ok (.iadd, 1) := by decide +kernel
theorem dX5_state_95 : decode cX5_state 95 = .ok (.baload, 1) := by decide +kernel
theorem dX5_state_96 : decode cX5_state 96 = .ok (.istore 9, 2) := by decide +kernel
theorem dX5_state_98 : decode cX5_state 98 = .ok (.iload 5, 2) := by decide +kernel
theorem dX5_state_100 : decode cX5_state 100 = .ok (.ifCond .ne 8, 3) := by decide +kernel
theorem dX5_state_103 : decode cX5_state 103 = .ok (.iload 9, 2) := by decide +kernel
theorem dX5_state_105 : decode cX5_state 105 = .ok (.ifCond .eq 7, 3) := by decide +kernel
theorem dX5_state_108 : decode cX5_state 108 = .ok (.iconst 1, 1) := by decide +kernel
theorem dX5_state_109 : decode cX5_state 109 = .ok (.goto 4, 3) := by decide +kernel
theorem dX5_state_112 : decode cX5_state 112 = .ok (.iconst 0, 1) := by decide +kernel
theorem dX5_state_113 : decode cX5_state 113 = .ok (.istore 5, 2) := by decide +kernel
theorem dX5_state_115 : decode cX5_state 115 = .ok (.iload 6, 2) := by decide +kernel
theorem dX5_state_117 : decode cX5_state 117 = .ok (.ifCond .eq 12, 3) := by decide +kernel
theorem dX5_state_120 : decode cX5_state 120 = .ok (.iload 9, 2) := by decide +kernel
theorem dX5_state_122 : decode cX5_state 122 = .ok (.ifCond .eq 7, 3) := by decide +kernel
theorem dX5_state_125 : decode cX5_state 125 = .ok (.iconst 1, 1) := by decide +kernel
theorem dX5_state_126 : decode cX5_state 126 = .ok (.goto 4, 3) := by decide +kernel
theorem dX5_state_129 : decode cX5_state 129 = .ok (.iconst 0, 1) := by decide +kernel
theorem dX5_state_130 : decode cX5_state 130 = .ok (.istore 6, 2) := by decide +kernel
theorem dX5_state_132 : decode cX5_state 132 = .ok (.iinc 8 1, 3) := by decide +kernel
theorem dX5_state_135 : decode cX5_state 135 = .ok (.goto (-65), 3) := by decide +kernel
theorem dX5_state_138 : decode cX5_state 138 = .ok (.iinc 7 1, 3) := by decide +kernel
theorem dX5_state_141 : decode cX5_state 141 = .ok (.goto (-92), 3) := by decide +kernel
theorem dX5_state_144 : decode cX5_state 144 = .ok (.iload 6, 2) := by decide +kernel
theorem dX5_state_146 : decode cX5_state 146 = .ok (.ifCond .eq 7, 3) := by decide +kernel
theorem dX5_state_149 : decode cX5_state 149 = .ok (.iconst 2, 1) := by decide +kernel
theorem dX5_state_150 : decode cX5_state 150 = .ok (.goto 13, 3) := by decide +kernel
theorem dX5_state_153 : decode cX5_state 153 = .ok (.iload 5, 2) := by decide +kernel
theorem dX5_state_155 : decode cX5_state 155 = .ok (.ifCond .eq 7, 3) := by decide +kernel
theorem dX5_state_158 : decode cX5_state 158 = .ok (.iconst 1, 1) := by decide +kernel
theorem dX5_state_159 : decode cX5_state 159 = .ok (.goto 4, 3) := by decide +kernel
theorem dX5_state_162 : decode cX5_state 162 = .ok (.iconst 0, 1) := by decide +kernel
theorem dX5_state_163 : decode cX5_state 163 = .ok (.ireturn, 1) := by decide +kernel
theorem dX5_better_0 : decode cX5_better 0 = .ok (.iload_n 2, 1) := by decide +kernel
theorem dX5_better_1 : decode cX5_better 1 = .ok (.ifCond .eq 16, 3) := by decide +kernel
theorem dX5_better_4 : decode cX5_better 4 = .ok (.iload_n 0, 1) := by decide +kernel
theorem dX5_better_5 : decode cX5_better 5 = .ok (.iload_n 1, 1) := by decide +kernel
theorem dX5_better_6 : decode cX5_better 6 = .ok (.if_icmp .ge 7, 3) := by decide +kernel
theorem dX5_better_9 : decode cX5_better 9 = .ok (.iload_n 0, 1) := by decide +kernel
theorem dX5_better_10 : decode cX5_better 10 = .ok (.goto 17, 3) := by decide +kernel
theorem dX5_better_13 : decode cX5_better 13 = .ok (.iload_n 1, 1) := by decide +kernel
theorem dX5_better_14 : decode cX5_better 14 = .ok (.goto 13, 3) := by decide +kernel
theorem dX5_better_17 : decode cX5_better 17 = .ok (.iload_n 0, 1) := by decide +kernel
theorem dX5_better_18 : decode cX5_better 18 = .ok (.iload_n 1, 1) := by decide +kernel
theorem dX5_better_19 : decode cX5_better 19 = .ok (.if_icmp .le 7, 3) := by decide +kernel
theorem dX5_better_22 : decode cX5_better 22 = .ok (.iload_n 0, 1) := by decide +kernel
theorem dX5_better_23 : decode cX5_better 23 = .ok (.goto 4, 3) := by decide +kernel
theorem dX5_better_26 : decode cX5_better 26 = .ok (.iload_n 1, 1) := by decide +kernel
theorem dX5_better_27 : decode cX5_better 27 = .ok (.ireturn, 1) := by decide +kernel
set_option maxRecDepth 20000 in
theorem ggX5_spreads_X5_better : GoodIn wsX5_spreads wsX5_better := goodIn_r _ [6] (by decide +kernel) (by decide +kernel)
set_option maxRecDepth 20000 in
theorem gX5_spreads_X5_better : GoodIn wsX5_spreads (va_wsS RX5 68 yX5_better wsX5_better) := goodIn_app (goodIn_of _ (by decide +kernel)) ggX5_spreads_X5_better
theorem dX5_spreads_0 : decode cX5_spreads 0 = .ok (.iconst 0, 1) := by decide +kernel
theorem dX5_spreads_1 : decode cX5_spreads 1 = .ok (.istore_n 3, 1) := by decide +kernel
theorem dX5_spreads_2 : decode cX5_spreads 2 = .ok (.iload_n 3, 1) := by decide +kernel
theorem dX5_spreads_3 : decode cX5_spreads 3 = .ok (.sipush 4096, 3) := by decide +kernel
theorem dX5_spreads_6 : decode cX5_spreads 6 = .ok (.if_icmp .ge 95, 3) := by decide +kernel
theorem dX5_spreads_9 : decode cX5_spreads 9 = .ok (.aload_n 0, 1) := by decide +kernel
theorem dX5_spreads_10 : decode cX5_spreads 10 = .ok (.getfield 35, 3) := by decide +kernel
theorem dX5_spreads_13 : decode cX5_spreads 13 = .ok (.iload_n 3, 1) := by decide +kernel
theorem dX5_spreads_14 : decode cX5_spreads 14 = .ok (.iaload, 1) := by decide +kernel
theorem dX5_spreads_15 : decode cX5_spreads 15 = .ok (.istore 4, 2) := by decide +kernel
theorem dX5_spreads_17 : decode cX5_spreads 17 = .ok (.iconst 1, 1) := by decide +kernel
theorem dX5_spreads_18 : decode cX5_spreads 18 = .ok (.istore 5, 2) := by decide +kernel
theorem dX5_spreads_20 : decode cX5_spreads 20 = .ok (.iload 5, 2) := by decide +kernel
theorem dX5_spreads_22 : decode cX5_spreads 22 = .ok (.iload_n 1, 1) := by decide +kernel
theorem dX5_spreads_23 : decode cX5_spreads 23 = .ok (.if_icmp .gt 64, 3) := by decide +kernel
theorem dX5_spreads_26 : decode cX5_spreads 26 = .ok (.iload_n 3, 1) := by decide +kernel
theorem dX5_spreads_27 : decode cX5_spreads 27 = .ok (.bipush 64, 2) := by decide +kernel
theorem dX5_spreads_29 : decode cX5_spreads 29 = .ok (.irem, 1) := by decide +kernel
theorem dX5_spreads_30 : decode cX5_spreads 30 = .ok (.iload 5, 2) := by decide +kernel
theorem dX5_spreads_32 : decode cX5_spreads 32 = .ok (.if_icmp .lt 20, 3) := by decide +kernel
theorem dX5_spreads_35 : decode cX5_spreads 35 = .ok (.iload 4, 2) := by decide +kernel
theorem dX5_spreads_37 : decode cX5_spreads 37 = .ok (.aload_n 0, 1) := by decide +kernel
theorem dX5_spreads_38 : decode cX5_spreads 38 = .ok (.getfield 35, 3) := by decide +kernel
theorem dX5_spreads_41 : decode cX5_spreads 41 = .ok (.iload_n 3, 1) := by decide +kernel
theorem dX5_spreads_42 : decode cX5_spreads 42 = .ok (.iload 5, 2) := by decide +kernel
theorem dX5_spreads_44 : decode cX5_spreads 44 = .ok (.isub, 1) := by decide +kernel
theorem dX5_spreads_45 : decode cX5_spreads 45 = .ok (.iaload, 1) := by decide +kernel
theorem dX5_spreads_46 : decode cX5_spreads 46 = .ok (.iload_n 2, 1) := by decide +kernel
theorem dX5_spreads_47 : decode cX5_spreads 47 = .ok (.invokestatic 68, 3) := by decide +kernel
theorem dX5_spreads_50 : decode cX5_spreads 50 = .ok (.istore 4, 2) := by decide +kernel
theorem dX5_spreads_52 : decode cX5_spreads 52 = .ok (.iload_n 3, 1) := by decide +kernel
theorem dX5_spreads_53 : decode cX5_spreads 53 = .ok (.bipush 64, 2) := by decide +kernel
theorem dX5_spreads_55 : decode cX5_spreads 55 = .ok (.irem, 1) := by decide +kernel
theorem dX5_spreads_56 : decode cX5_spreads 56 = .ok (.iload 5, 2) := by decide +kernel
theorem dX5_spreads_58 : decode cX5_spreads 58 = .ok (.iadd, 1) := by decide +kernel
theorem dX5_spreads_59 : decode cX5_spreads 59 = .ok (.bipush 64, 2) := by decide +kernel
theorem dX5_spreads_61 : decode cX5_spreads 61 = .ok (.if_icmp .ge 20, 3) := by decide +kernel
theorem dX5_spreads_64 : decode cX5_spreads 64 = .ok (.iload 4, 2) := by decide +kernel
theorem dX5_spreads_66 : decode cX5_spreads 66 = .ok (.aload_n 0, 1) := by decide +kernel
theorem dX5_spreads_67 : decode cX5_spreads 67 = .ok (.getfield 35, 3) := by decide +kernel
theorem dX5_spreads_70 : decode cX5_spreads 70 = .ok (.iload_n 3, 1) := by decide +kernel
theorem dX5_spreads_71 : decode cX5_spreads 71 = .ok (.iload 5, 2) := by decide +kernel
theorem dX5_spreads_73 : decode cX5_spreads 73 = .ok (.iadd, 1) := by decide +kernel
theorem dX5_spreads_74 : decode cX5_spreads 74 = .ok (.iaload, 1) := by decide +kernel
theorem dX5_spreads_75 : decode cX5_spreads 75 = .ok (.iload_n 2, 1) := by decide +kernel
theorem dX5_spreads_76 : decode cX5_spreads 76 = .ok (.invokestatic 68, 3) := by decide +kernel
theorem dX5_spreads_79 : decode cX5_spreads 79 = .ok (.istore 4, 2) := by decide +kernel
theorem dX5_spreads_81 : decode cX5_spreads 81 = .ok (.iinc 5 1, 3) := by decide +kernel
theorem dX5_spreads_84 : decode cX5_spreads 84 = .ok (.goto (-64), 3) := by decide +kernel
theorem dX5_spreads_87 : decode cX5_spreads 87 = .ok (.aload_n 0, 1) := by decide +kernel
theorem dX5_spreads_88 : decode cX5_spreads 88 = .ok (.getfield 38, 3) := by decide +kernel
theorem dX5_spreads_91 : decode cX5_spreads 91 = .ok (.iload_n 3, 1) := by decide +kernel
theorem dX5_spreads_92 : decode cX5_spreads 92 = .ok (.iload 4, 2) := by decide +kernel
theorem dX5_spreads_94 : decode cX5_spreads 94 = .ok (.iastore, 1) := by decide +kernel
theorem dX5_spreads_95 : decode cX5_spreads 95 = .ok (.iinc 3 1, 3) := by decide +kernel
theorem dX5_spreads_98 : decode cX5_spreads 98 = .ok (.goto (-96), 3) := by decide +kernel
theorem dX5_spreads_101 : decode cX5_spreads 101 = .ok (.iconst 0, 1) := by decide +kernel
theorem dX5_spreads_102 : decode cX5_spreads 102 = .ok (.istore_n 3, 1) := by decide +kernel
theorem dX5_spreads_103 : decode cX5_spreads 103 = .ok (.iload_n 3, 1) := by decide +kernel
theorem dX5_spreads_104 : decode cX5_spreads 104 = .ok (.sipush 4096, 3) := by decide +kernel
theorem dX5_spreads_107 : decode cX5_spreads 107 = .ok (.if_icmp .ge 101, 3) := by decide +kernel
theorem dX5_spreads_110 : decode cX5_spreads 110 = .ok (.aload_n 0, 1) := by decide +kernel
theorem dX5_spreads_111 : decode cX5_spreads 111 = .ok (.getfield 38, 3) := by decide +kernel
theorem dX5_spreads_114 : decode cX5_spreads 114 = .ok (.iload_n 3, 1) := by decide +kernel
theorem dX5_spreads_115 : decode cX5_spreads 115 = .ok (.iaload, 1) := by decide +kernel
theorem dX5_spreads_116 : decode cX5_spreads 116 = .ok (.istore 4, 2) := by decide +kernel
theorem dX5_spreads_118 : decode cX5_spreads 118 = .ok (.iconst 1, 1) := by decide +kernel
theorem dX5_spreads_119 : decode cX5_spreads 119 = .ok (.istore 5, 2) := by decide +kernel
theorem dX5_spreads_121 : decode cX5_spreads 121 = .ok (.iload 5, 2) := by decide +kernel
theorem dX5_spreads_123 : decode cX5_spreads 123 = .ok (.iload_n 1, 1) := by decide +kernel
theorem dX5_spreads_124 : decode cX5_spreads 124 = .ok (.if_icmp .gt 70, 3) := by decide +kernel
theorem dX5_spreads_127 : decode cX5_spreads 127 = .ok (.iload_n 3, 1) := by decide +kernel
theorem dX5_spreads_128 : decode cX5_spreads 128 = .ok (.bipush 64, 2) := by decide +kernel
theorem dX5_spreads_130 : decode cX5_spreads 130 = .ok (.idiv, 1) := by decide +kernel
theorem dX5_spreads_131 : decode cX5_spreads 131 = .ok (.iload 5, 2) := by decide +kernel
theorem dX5_spreads_133 : decode cX5_spreads 133 = .ok (.if_icmp .lt 23, 3) := by decide +kernel
theorem dX5_spreads_136 : decode cX5_spreads 136 = .ok (.iload 4, 2) := by decide +kernel
theorem dX5_spreads_138 : decode cX5_spreads 138 = .ok (.aload_n 0, 1) := by decide +kernel
theorem dX5_spreads_139 : decode cX5_spreads 139 = .ok (.getfield 38, 3) := by decide +kernel
theorem dX5_spreads_142 : decode cX5_spreads 142 = .ok (.iload_n 3, 1) := by decide +kernel
theorem dX5_spreads_143 : decode cX5_spreads 143 = .ok (.iload 5, 2) := by decide +kernel
theorem dX5_spreads_145 : decode cX5_spreads 145 = .ok (.bipush 64, 2) := by decide +kernel
theorem dX5_spreads_147 : decode cX5_spreads 147 = .ok (.imul, 1) := by decide +kernel
theorem dX5_spreads_148 : decode cX5_spreads 148 = .ok (.isub, 1) := by decide +kernel
theorem dX5_spreads_149 : decode cX5_spreads 149 = .ok (.iaload, 1) := by decide +kernel
theorem dX5_spreads_150 : decode cX5_spreads 150 = .ok (.iload_n 2, 1) := by decide +kernel
theorem dX5_spreads_151 : decode cX5_spreads 151 = .ok (.invokestatic 68, 3) := by decide +kernel
theorem dX5_spreads_154 : decode cX5_spreads 154 = .ok (.istore 4, 2) := by decide +kernel
theorem dX5_spreads_156 : decode cX5_spreads 156 = .ok (.iload_n 3, 1) := by decide +kernel
theorem dX5_spreads_157 : decode cX5_spreads 157 = .ok (.bipush 64, 2) := by decide +kernel
theorem dX5_spreads_159 : decode cX5_spreads 159 = .ok (.idiv, 1) := by decide +kernel
theorem dX5_spreads_160 : decode cX5_spreads 160 = .ok (.iload 5, 2) := by decide +kernel
theorem dX5_spreads_162 : decode cX5_spreads 162 = .ok (.iadd, 1) := by decide +kernel
theorem dX5_spreads_163 : decode cX5_spreads 163 = .ok (.bipush 64, 2) := by decide +kernel
theorem dX5_spreads_165 : decode cX5_spreads 165 = .ok (.if_icmp .ge 23, 3) := by decide +kernel
theorem dX5_spreads_168 : decode cX5_spreads 168 = .ok (.iload 4, 2) := by decide +kernel
theorem dX5_spreads_170 : decode cX5_spreads 170 = .ok (.aload_n 0, 1) := by decide +kernel
theorem dX5_spreads_171 : decode cX5_spreads 171 = .ok (.getfield 38, 3) := by decide +kernel
theorem dX5_spreads_174 : decode cX5_spreads 174 = .ok (.iload_n 3, 1) := by decide +kernel
theorem dX5_spreads_175 : decode cX5_spreads 175 = .ok (.iload 5, 2) := by decide +kernel
theorem dX5_spreads_177 : decode cX5_spreads 177 = .ok (.bipush 64, 2) := by decide +kernel
theorem dX5_spreads_179 : decode cX5_spreads 179 = .ok (.imul, 1) := by decide +kernel
theorem dX5_spreads_180 : decode cX5_spreads 180 = .ok (.iadd, 1) := by decide +kernel
theorem dX5_spreads_181 : decode cX5_spreads 181 = .ok (.iaload, 1) := by decide +kernel
theorem dX5_spreads_182 : decode cX5_spreads 182 = .ok (.iload_n 2, 1) := by decide +kernel
theorem dX5_spreads_183 : decode cX5_spreads 183 = .ok (.invokestatic 68, 3) := by decide +kernel
theorem dX5_spreads_186 : decode cX5_spreads 186 = .ok (.istore 4, 2) := by decide +kernel
theorem dX5_spreads_188 : decode cX5_spreads 188 = .ok (.iinc 5 1, 3) := by decide +kernel
theorem dX5_spreads_191 : decode cX5_spreads 191 = .ok (.goto (-70), 3) := by decide +kernel
theorem dX5_spreads_194 : decode cX5_spreads 194 = .ok (.aload_n 0, 1) := by decide +kernel
theorem dX5_spreads_195 : decode cX5_spreads 195 = .ok (.getfield 35, 3) := by decide +kernel
theorem dX5_spreads_198 : decode cX5_spreads 198 = .ok (.iload_n 3, 1) := by decide +kernel
theorem dX5_spreads_199 : decode cX5_spreads 199 = .ok (.iload 4, 2) := by decide +kernel
theorem dX5_spreads_201 : decode cX5_spreads 201 = .ok (.iastore, 1) := by decide +kernel
theorem dX5_spreads_202 : decode cX5_spreads 202 = .ok (.iinc 3 1, 3) := by decide +kernel
theorem dX5_spreads_205 : decode cX5_spreads 205 = .ok (.goto (-102), 3) := by decide +kernel
theorem dX5_spreads_208 : decode cX5_spreads 208 = .ok (.return_, 1) := by decide +kernel
set_option maxRecDepth 20000 in
theorem ggX5_keeps_X5_low : GoodIn wsX5_keeps wsX5_low := goodIn_r _ [7, 8, 9, 10, 11, 12, 13, 21, 22, 23, 24, 25, 26, 27, 28, 29, 30, 31, 32] (by decide +kernel) (by decide +kernel)
set_option maxRecDepth 20000 in
theorem gX5_keeps_X5_low : GoodIn wsX5_keeps (wsV RX5 59 RX5 yX5_low wsX5_low) := goodIn_app (goodIn_of _ (by decide +kernel)) ggX5_keeps_X5_low
set_option maxRecDepth 20000 in
theorem ggX5_keeps_X5_high : GoodIn wsX5_keeps wsX5_high := goodIn_r _ [17, 8, 9, 10, 11, 12, 13, 21, 22, 23, 24, 25, 26, 27, 28, 29, 30, 31, 32] (by decide +kernel) (by decide +kernel)
set_option maxRecDepth 20000 in
theorem gX5_keeps_X5_high : GoodIn wsX5_keeps (wsV RX5 63 RX5 yX5_high wsX5_high) := goodIn_app (goodIn_of _ (by decide +kernel)) ggX5_keeps_X5_high
set_option maxRecDepth 20000 in
theorem ggX5_keeps_X5_in : GoodIn wsX5_keeps wsX5_in := goodIn_r _ [20] (by decide +kernel) (by decide +kernel)
set_option maxRecDepth 20000 in
theorem gX5_keeps_X5_in : GoodIn wsX5_keeps (va_wsS RX5 45 yX5_in wsX5_in) := goodIn_app (goodIn_of _ (by decide +kernel)) ggX5_keeps_X5_in
theorem dX5_keeps_0 : decode cX5_keeps 0 = .ok (.aload_n 0, 1) := by decide +kernel
theorem dX5_keeps_1 : decode cX5_keeps 1 = .ok (.iload_n 1, 1) := by decide +kernel
theorem dX5_keeps_2 : decode cX5_keeps 2 = .ok (.iload_n 3, 1) := by decide +kernel
theorem dX5_keeps_3 : decode cX5_keeps 3 = .ok (.iconst 1, 1) := by decide +kernel
theorem dX5_keeps_4 : decode cX5_keeps 4 = .ok (.invokevirtual 59, 3) := by decide +kernel
theorem dX5_keeps_7 : decode cX5_keeps 7 = .ok (.istore 6, 2) := by decide +kernel
theorem dX5_keeps_9 : decode cX5_keeps 9 = .ok (.aload_n 0, 1) := by decide +kernel
theorem dX5_keeps_10 : decode cX5_keeps 10 = .ok (.iload_n 1, 1) := by decide +kernel
theorem dX5_keeps_11 : decode cX5_keeps 11 = .ok (.iload_n 3, 1) := by decide +kernel
theorem dX5_keeps_12 : decode cX5_keeps 12 = .ok (.iconst 1, 1) := by decide +kernel
theorem dX5_keeps_13 : decode cX5_keeps 13 = .ok (.invokevirtual 63, 3) := by decide +kernel
theorem dX5_keeps_16 : decode cX5_keeps 16 = .ok (.istore 7, 2) := by decide +kernel
theorem dX5_keeps_18 : decode cX5_keeps 18 = .ok (.aload_n 0, 1) := by decide +kernel
theorem dX5_keeps_19 : decode cX5_keeps 19 = .ok (.iload_n 1, 1) := by decide +kernel
theorem dX5_keeps_20 : decode cX5_keeps 20 = .ok (.iload_n 3, 1) := by decide +kernel
theorem dX5_keeps_21 : decode cX5_keeps 21 = .ok (.iconst 0, 1) := by decide +kernel
theorem dX5_keeps_22 : decode cX5_keeps 22 = .ok (.invokevirtual 59, 3) := by decide +kernel
theorem dX5_keeps_25 : decode cX5_keeps 25 = .ok (.istore 8, 2) := by decide +kernel
theorem dX5_keeps_27 : decode cX5_keeps 27 = .ok (.aload_n 0, 1) := by decide +kernel
theorem dX5_keeps_28 : decode cX5_keeps 28 = .ok (.iload_n 1, 1) := by decide +kernel
theorem dX5_keeps_29 : decode cX5_keeps 29 = .ok (.iload_n 3, 1) := by decide +kernel
theorem dX5_keeps_30 : decode cX5_keeps 30 = .ok (.iconst 0, 1) := by decide +kernel
theorem dX5_keeps_31 : decode cX5_keeps 31 = .ok (.invokevirtual 63, 3) := by decide +kernel
theorem dX5_keeps_34 : decode cX5_keeps 34 = .ok (.istore 9, 2) := by decide +kernel
theorem dX5_keeps_36 : decode cX5_keeps 36 = .ok (.iconst 0, 1) := by decide +kernel
theorem dX5_keeps_37 : decode cX5_keeps 37 = .ok (.istore 10, 2) := by decide +kernel
theorem dX5_keeps_39 : decode cX5_keeps 39 = .ok (.iload 10, 2) := by decide +kernel
theorem dX5_keeps_41 : decode cX5_keeps 41 = .ok (.sipush 4096, 3) := by decide +kernel
theorem dX5_keeps_44 : decode cX5_keeps 44 = .ok (.if_icmp .ge 104, 3) := by decide +kernel
theorem dX5_keeps_47 : decode cX5_keeps 47 = .ok (.aload_n 0, 1) := by decide +kernel
theorem dX5_keeps_48 : decode cX5_keeps 48 = .ok (.getfield 31, 3) := by decide +kernel
theorem dX5_keeps_51 : decode cX5_keeps 51 = .ok (.sipush 4096, 3) := by decide +kernel
theorem dX5_keeps_54 : decode cX5_keeps 54 = .ok (.iload_n 2, 1) := by decide +kernel
theorem dX5_keeps_55 : decode cX5_keeps 55 = .ok (.imul, 1) := by decide +kernel
theorem dX5_keeps_56 : decode cX5_keeps 56 = .ok (.iload 10, 2) := by decide +kernel
theorem dX5_keeps_58 : decode cX5_keeps 58 = .ok (.iadd, 1) := by decide +kernel
theorem dX5_keeps_59 : decode cX5_keeps 59 = .ok (.baload, 1) := by decide +kernel
theorem dX5_keeps_60 : decode cX5_keeps 60 = .ok (.istore 11, 2) := by decide +kernel
theorem dX5_keeps_62 : decode cX5_keeps 62 = .ok (.iload 10, 2) := by decide +kernel
theorem dX5_keeps_64 : decode cX5_keeps 64 = .ok (.bipush 64, 2) := by decide +kernel
theorem dX5_keeps_66 : decode cX5_keeps 66 = .ok (.idiv, 1) := by decide +kernel
theorem dX5_keeps_67 : decode cX5_keeps 67 = .ok (.iload 6, 2) := by decide +kernel
theorem dX5_keeps_69 : decode cX5_keeps 69 = .ok (.iload 7, 2) := by decide +kernel
theorem dX5_keeps_71 : decode cX5_keeps 71 = .ok (.invokestatic 45, 3) := by decide +kernel
theorem dX5_keeps_74 : decode cX5_keeps 74 = .ok (.ifCond .eq 18, 3) := by decide +kernel
theorem dX5_keeps_77 : decode cX5_keeps 77 = .ok (.iload 10, 2) := by decide +kernel
theorem dX5_keeps_79 : decode cX5_keeps 79 = .ok (.bipush 64, 2) := by decide +kernel
theorem dX5_keeps_81 : decode cX5_keeps 81 = .ok (.irem, 1) := by decide +kernel
theorem dX5_keeps_82 : decode cX5_keeps 82 = .ok (.iload 8, 2) := by decide +kernel
theorem dX5_keeps_84 : decode cX5_keeps 84 = .ok (.iload 9, 2) := by decide +kernel
theorem dX5_keeps_86 : decode cX5_keeps 86 = .ok (.invokestatic 45, 3) := by decide +kernel
theorem dX5_keeps_89 : decode cX5_keeps 89 = .ok (.ifCond .ne 15, 3) := by decide +kernel
theorem dX5_keeps_92 : decode cX5_keeps 92 = .ok (.aload_n 0, 1) := by decide +kernel
theorem dX5_keeps_93 : decode cX5_keeps 93 = .ok (.getfield 35, 3) := by decide +kernel
theorem dX5_keeps_96 : decode cX5_keeps 96 = .ok (.iload 10, 2) := by decide +kernel
theorem dX5_keeps_98 : decode cX5_keeps 98 = .ok (.iload 4, 2) := by decide +kernel
theorem dX5_keeps_100 : decode cX5_keeps 100 = .ok (.iastore, 1) := by decide +kernel
theorem dX5_keeps_101 : decode cX5_keeps 101 = .ok (.goto 41, 3) := by decide +kernel
theorem dX5_keeps_104 : decode cX5_keeps 104 = .ok (.iload 11, 2) := by decide +kernel
theorem dX5_keeps_106 : decode cX5_keeps 106 = .ok (.ifCond .eq 22, 3) := by decide +kernel
theorem dX5_keeps_109 : decode cX5_keeps 109 = .ok (.iload 5, 2) := by decide +kernel
theorem dX5_keeps_111 : decode cX5_keeps 111 = .ok (.ifCond .eq 17, 3) := by decide +kernel
theorem dX5_keeps_114 : decode cX5_keeps 114 = .ok (.aload_n 0, 1) := by decide +kernel
theorem dX5_keeps_115 : decode cX5_keeps 115 = .ok (.getfield 35, 3) := by decide +kernel
theorem dX5_keeps_118 : decode cX5_keeps 118 = .ok (.iload 10, 2) := by decide +kernel
theorem dX5_keeps_120 : decode cX5_keeps 120 = .ok (.dup2, 1) := by decide +kernel
theorem dX5_keeps_121 : decode cX5_keeps 121 = .ok (.iaload, 1) := by decide +kernel
theorem dX5_keeps_122 : decode cX5_keeps 122 = .ok (.iconst 1, 1) := by decide +kernel
theorem dX5_keeps_123 : decode cX5_keeps 123 = .ok (.iadd, 1) := by decide +kernel
theorem dX5_keeps_124 : decode cX5_keeps 124 = .ok (.iastore, 1) := by decide +kernel
theorem dX5_keeps_125 : decode cX5_keeps 125 = .ok (.goto 17, 3) := by decide +kernel
theorem dX5_keeps_128 : decode cX5_keeps 128 = .ok (.iload 11, 2) := by decide +kernel
theorem dX5_keeps_130 : decode cX5_keeps 130 = .ok (.ifCond .eq 12, 3) := by decide +kernel
theorem dX5_keeps_133 : decode cX5_keeps 133 = .ok (.aload_n 0, 1) := by decide +kernel
theorem dX5_keeps_134 : decode cX5_keeps 134 = .ok (.getfield 35, 3) := by decide +kernel
theorem dX5_keeps_137 : decode cX5_keeps 137 = .ok (.iload 10, 2) := by decide +kernel
theorem dX5_keeps_139 : decode cX5_keeps 139 = .ok (.iload 4, 2) := by decide +kernel
theorem dX5_keeps_141 : decode cX5_keeps 141 = .ok (.iastore, 1) := by decide +kernel
theorem dX5_keeps_142 : decode cX5_keeps 142 = .ok (.iinc 10 1, 3) := by decide +kernel
theorem dX5_keeps_145 : decode cX5_keeps 145 = .ok (.goto (-106), 3) := by decide +kernel
theorem dX5_keeps_148 : decode cX5_keeps 148 = .ok (.return_, 1) := by decide +kernel
set_option maxRecDepth 20000 in
theorem ggX5_canAsk_X5_isThing : GoodIn wsX5_canAsk wsX5_isThing := goodIn_r _ [5, 6, 7, 8, 4, 9, 18, 19, 20, 21, 22, 23, 24, 25, 26, 27, 28, 29] (by decide +kernel) (by decide +kernel)
set_option maxRecDepth 20000 in
theorem gX5_canAsk_X5_isThing : GoodIn wsX5_canAsk (wsV RX5 52 RX5 yX5_isThing wsX5_isThing) := goodIn_app (goodIn_of _ (by decide +kernel)) ggX5_canAsk_X5_isThing
set_option maxRecDepth 20000 in
theorem ggX5_canAsk_X5_isGround : GoodIn wsX5_canAsk wsX5_isGround := goodIn_r _ [13, 14, 7, 8, 4, 9, 18, 19, 20, 21, 22, 23, 24, 25, 26, 27, 28, 29] (by decide +kernel) (by decide +kernel)
set_option maxRecDepth 20000 in
theorem gX5_canAsk_X5_isGround : GoodIn wsX5_canAsk (wsV RX5 66 RX5 yX5_isGround wsX5_isGround) := goodIn_app (goodIn_of _ (by decide +kernel)) ggX5_canAsk_X5_isGround
set_option maxRecDepth 20000 in
theorem ggX5_canAsk_X5_isTick : GoodIn wsX5_canAsk wsX5_isTick := goodIn_r _ [17, 7, 8, 4, 9] (by decide +kernel) (by decide +kernel)
set_option maxRecDepth 20000 in
theorem gX5_canAsk_X5_isTick : GoodIn wsX5_canAsk (va_wsS RX5 56 yX5_isTick wsX5_isTick) := goodIn_app (goodIn_of _ (by decide +kernel)) ggX5_canAsk_X5_isTick
theorem dX5_canAsk_0 : decode cX5_canAsk 0 = .ok (.aload_n 0, 1) := by decide +kernel
theorem dX5_canAsk_1 : decode cX5_canAsk 1 = .ok (.iload_n 1, 1) := by decide +kernel
theorem dX5_canAsk_2 : decode cX5_canAsk 2 = .ok (.invokevirtual 52, 3) := by decide +kernel
theorem dX5_canAsk_5 : decode cX5_canAsk 5 = .ok (.ifCond .eq 36, 3) := by decide +kernel
theorem dX5_canAsk_8 : decode cX5_canAsk 8 = .ok (.aload_n 0, 1) := by decide +kernel
theorem dX5_canAsk_9 : decode cX5_canAsk 9 = .ok (.iload_n 2, 1) := by decide +kernel
theorem dX5_canAsk_10 : decode cX5_canAsk 10 = .ok (.invokevirtual 66, 3) := by decide +kernel
theorem dX5_canAsk_13 : decode cX5_canAsk 13 = .ok (.ifCond .eq 28, 3) := by decide +kernel
theorem dX5_canAsk_16 : decode cX5_canAsk 16 = .ok (.iload_n 3, 1) := by decide +kernel
theorem dX5_canAsk_17 : decode cX5_canAsk 17 = .ok (.invokestatic 56, 3) := by decide +kernel
theorem dX5_canAsk_20 : decode cX5_canAsk 20 = .ok (.ifCond .eq 21, 3) := by decide +kernel
theorem dX5_canAsk_23 : decode cX5_canAsk 23 = .ok (.iload 4, 2) := by decide +kernel
theorem dX5_canAsk_25 : decode cX5_canAsk 25 = .ok (.invokestatic 56, 3) := by decide +kernel
theorem dX5_canAsk_28 : decode cX5_canAsk 28 = .ok (.ifCond .eq 13, 3) := by decide +kernel
theorem dX5_canAsk_31 : decode cX5_canAsk 31 = .ok (.iload_n 3, 1) := by decide +kernel
theorem dX5_canAsk_32 : decode cX5_canAsk 32 = .ok (.iload 4, 2) := by decide +kernel
theorem dX5_canAsk_34 : decode cX5_canAsk 34 = .ok (.if_icmp .gt 7, 3) := by decide +kernel
theorem dX5_canAsk_37 : decode cX5_canAsk 37 = .ok (.iconst 1, 1) := by decide +kernel
theorem dX5_canAsk_38 : decode cX5_canAsk 38 = .ok (.goto 4, 3) := by decide +kernel
theorem dX5_canAsk_41 : decode cX5_canAsk 41 = .ok (.iconst 0, 1) := by decide +kernel
theorem dX5_canAsk_42 : decode cX5_canAsk 42 = .ok (.ireturn, 1) := by decide +kernel
set_option maxRecDepth 20000 in
theorem ggX5_entered_X5_canAsk : GoodIn wsX5_entered wsX5_canAsk := goodIn_r _ [7, 8, 9, 10, 6, 11, 12, 13, 14, 15, 16, 17, 18, 19, 20, 21, 22, 23, 50, 51, 52, 53, 54, 55, 56, 57, 58, 59, 60, 61] (by decide +kernel) (by decide +kernel)
set_option maxRecDepth 20000 in
theorem gX5_entered_X5_canAsk : GoodIn wsX5_entered (wsV RX5 71 RX5 yX5_canAsk wsX5_canAsk) := goodIn_app (goodIn_of _ (by decide +kernel)) ggX5_entered_X5_canAsk
set_option maxRecDepth 20000 in
theorem ggX5_entered_X5_spreads : GoodIn wsX5_entered wsX5_spreads := goodIn_r _ [27, 1, 28, 29, 30, 6, 31, 50, 51, 52, 53, 54, 55, 56, 57, 58, 59, 60, 61] (by decide +kernel) (by decide +kernel)
set_option maxRecDepth 20000 in
theorem gX5_entered_X5_spreads : GoodIn wsX5_entered (wsV RX5 75 RX5 yX5_spreads wsX5_spreads) := goodIn_app (goodIn_of _ (by decide +kernel)) ggX5_entered_X5_spreads
set_option maxRecDepth 20000 in
theorem ggX5_entered_X5_keeps : GoodIn wsX5_entered wsX5_keeps := goodIn_r _ [35, 36, 1, 37, 38, 39, 6, 40, 41, 42, 43, 44, 45, 2, 46, 47, 48, 49, 13, 14, 15, 50, 51, 52, 53, 54, 55, 56, 57, 58, 59, 60, 61] (by decide +kernel) (by decide +kernel)
set_option maxRecDepth 20000 in
theorem gX5_entered_X5_keeps : GoodIn wsX5_entered (wsV RX5 79 RX5 yX5_keeps wsX5_keeps) := goodIn_app (goodIn_of _ (by decide +kernel)) ggX5_entered_X5_keeps
theorem dX5_entered_0 : decode cX5_entered 0 = .ok (.aload_n 0, 1) := by decide +kernel
theorem dX5_entered_1 : decode cX5_entered 1 = .ok (.iload_n 1, 1) := by decide +kernel
theorem dX5_entered_2 : decode cX5_entered 2 = .ok (.iload_n 2, 1) := by decide +kernel
theorem dX5_entered_3 : decode cX5_entered 3 = .ok (.iload_n 3, 1) := by decide +kernel
theorem dX5_entered_4 : decode cX5_entered 4 = .ok (.iload 4, 2) := by decide +kernel
theorem dX5_entered_6 : decode cX5_entered 6 = .ok (.invokevirtual 71, 3) := by decide +kernel
theorem dX5_entered_9 : decode cX5_entered 9 = .ok (.ifCond .ne 5, 3) := by decide +kernel
theorem dX5_entered_12 : decode cX5_entered 12 = .ok (.iconst (-1), 1) := by decide +kernel
theorem dX5_entered_13 : decode cX5_entered 13 = .ok (.ireturn, 1) := by decide +kernel
theorem dX5_entered_14 : decode cX5_entered 14 = .ok (.iconst 0, 1) := by decide +kernel
theorem dX5_entered_15 : decode cX5_entered 15 = .ok (.istore 5, 2) := by decide +kernel
theorem dX5_entered_17 : decode cX5_entered 17 = .ok (.iload 5, 2) := by decide +kernel
theorem dX5_entered_19 : decode cX5_entered 19 = .ok (.sipush 4096, 3) := by decide +kernel
theorem dX5_entered_22 : decode cX5_entered 22 = .ok (.if_icmp .ge 17, 3) := by decide +kernel
theorem dX5_entered_25 : decode cX5_entered 25 = .ok (.aload_n 0, 1) := by decide +kernel
theorem dX5_entered_26 : decode cX5_entered 26 = .ok (.getfield 35, 3) := by decide +kernel
theorem dX5_entered_29 : decode cX5_entered 29 = .ok (.iload 5, 2) := by decide +kernel
theorem dX5_entered_31 : decode cX5_entered 31 = .ok (.iconst 0, 1) := by decide +kernel
theorem dX5_entered_32 : decode cX5_entered 32 = .ok (.iastore, 1) := by decide +kernel
theorem dX5_entered_33 : decode cX5_entered 33 = .ok (.iinc 5 1, 3) := by decide +kernel
theorem dX5_entered_36 : decode cX5_entered 36 = .ok (.goto (-19), 3) := by decide +kernel
theorem dX5_entered_39 : decode cX5_entered 39 = .ok (.iload_n 3, 1) := by decide +kernel
theorem dX5_entered_40 : decode cX5_entered 40 = .ok (.istore 5, 2) := by decide +kernel
theorem dX5_entered_42 : decode cX5_entered 42 = .ok (.iload 5, 2) := by decide +kernel
theorem dX5_entered_44 : decode cX5_entered 44 = .ok (.iload 4, 2) := by decide +kernel
theorem dX5_entered_46 : decode cX5_entered 46 = .ok (.if_icmp .gt 91, 3) := by decide +kernel
theorem dX5_entered_49 : decode cX5_entered 49 = .ok (.iload 5, 2) := by decide +kernel
theorem dX5_entered_51 : decode cX5_entered 51 = .ok (.iload_n 3, 1) := by decide +kernel
theorem dX5_entered_52 : decode cX5_entered 52 = .ok (.if_icmp .le 14, 3) := by decide +kernel
theorem dX5_entered_55 : decode cX5_entered 55 = .ok (.aload_n 0, 1) := by decide +kernel
theorem dX5_entered_56 : decode cX5_entered 56 = .ok (.aload_n 0, 1) := by decide +kernel
theorem dX5_entered_57 : decode cX5_entered 57 = .ok (.getfield 9, 3) := by decide +kernel
theorem dX5_entered_60 : decode cX5_entered 60 = .ok (.iload_n 1, 1) := by decide +kernel
theorem dX5_entered_61 : decode cX5_entered 61 = .ok (.iaload, 1) := by decide +kernel
theorem dX5_entered_62 : decode cX5_entered 62 = .ok (.iconst 1, 1) := by decide +kernel
theorem dX5_entered_63 : decode cX5_entered 63 = .ok (.invokevirtual 75, 3) := by decide +kernel
theorem dX5_entered_66 : decode cX5_entered 66 = .ok (.aload_n 0, 1) := by decide +kernel
theorem dX5_entered_67 : decode cX5_entered 67 = .ok (.iload_n 1, 1) := by decide +kernel
theorem dX5_entered_68 : decode cX5_entered 68 = .ok (.iload_n 2, 1) := by decide +kernel
theorem dX5_entered_69 : decode cX5_entered 69 = .ok (.iload 5, 2) := by decide +kernel
theorem dX5_entered_71 : decode cX5_entered 71 = .ok (.sipush 1000, 3) := by decide +kernel
theorem dX5_entered_74 : decode cX5_entered 74 = .ok (.iconst 0, 1) := by decide +kernel
theorem dX5_entered_75 : decode cX5_entered 75 = .ok (.invokevirtual 79, 3) := by decide +kernel
theorem dX5_entered_78 : decode cX5_entered 78 = .ok (.iconst 0, 1) := by decide +kernel
theorem dX5_entered_79 : decode cX5_entered 79 = .ok (.istore 6, 2) := by decide +kernel
theorem dX5_entered_81 : decode cX5_entered 81 = .ok (.iconst 0, 1) := by decide +kernel
theorem dX5_entered_82 : decode cX5_entered 82 = .ok (.istore 7, 2) := by decide +kernel
theorem dX5_entered_84 : decode cX5_entered 84 = .ok (.iload 7, 2) := by decide +kernel
theorem dX5_entered_86 : decode cX5_entered 86 = .ok (.sipush 4096, 3) := by decide +kernel
theorem dX5_entered_89 : decode cX5_entered 89 = .ok (.if_icmp .ge 34, 3) := by decide +kernel
theorem dX5_entered_92 : decode cX5_entered 92 = .ok (.iload 6, 2) := by decide +kernel
theorem dX5_entered_94 : decode cX5_entered 94 = .ok (.ifCond .ne 16, 3) := by decide +kernel
theorem dX5_entered_97 : decode cX5_entered 97 = .ok (.aload_n 0, 1) := by decide +kernel
theorem dX5_entered_98 : decode cX5_entered 98 = .ok (.getfield 35, 3) := by decide +kernel
theorem dX5_entered_101 : decode cX5_entered 101 = .ok (.iload 7, 2) := by decide +kernel
theorem dX5_entered_103 : decode cX5_entered 103 = .ok (.iaload, 1) := by decide +kernel
theorem dX5_entered_104 : decode cX5_entered 104 = .ok (.sipush 1000, 3) := by decide +kernel
theorem dX5_entered_107 : decode cX5_entered 107 = .ok (.if_icmp .ge 7, 3) := by decide +kernel
theorem dX5_entered_110 : decode cX5_entered 110 = .ok (.iconst 1, 1) := by decide +kernel
theorem dX5_entered_111 : decode cX5_entered 111 = .ok (.goto 4, 3) := by decide +kernel
theorem dX5_entered_114 : decode cX5_entered 114 = .ok (.iconst 0, 1) := by decide +kernel
theorem dX5_entered_115 : decode cX5_entered 115 = .ok (.istore 6, 2) := by decide +kernel
theorem dX5_entered_117 : decode cX5_entered 117 = .ok (.iinc 7 1, 3) := by decide +kernel
theorem dX5_entered_120 : decode cX5_entered 120 = .ok (.goto (-36), 3) := by decide +kernel
theorem dX5_entered_123 : decode cX5_entered 123 = .ok (.iload 6, 2) := by decide +kernel
theorem dX5_entered_125 : decode cX5_entered 125 = .ok (.ifCond .ne 6, 3) := by decide +kernel
theorem dX5_entered_128 : decode cX5_entered 128 = .ok (.iload 5, 2) := by decide +kernel
theorem dX5_entered_130 : decode cX5_entered 130 = .ok (.ireturn, 1) := by decide +kernel
theorem dX5_entered_131 : decode cX5_entered 131 = .ok (.iinc 5 1, 3) := by decide +kernel
theorem dX5_entered_134 : decode cX5_entered 134 = .ok (.goto (-92), 3) := by decide +kernel
theorem dX5_entered_137 : decode cX5_entered 137 = .ok (.iconst (-1), 1) := by decide +kernel
theorem dX5_entered_138 : decode cX5_entered 138 = .ok (.ireturn, 1) := by decide +kernel
set_option maxRecDepth 20000 in
theorem ggX5_stay_X5_canAsk : GoodIn wsX5_stay wsX5_canAsk := goodIn_r _ [7, 8, 9, 10, 6, 11, 12, 13, 14, 15, 16, 17, 18, 19, 20, 21, 22, 23, 50, 51, 52, 53, 54, 55, 56, 57, 58, 59, 60, 61] (by decide +kernel) (by decide +kernel)
set_option maxRecDepth 20000 in
theorem gX5_stay_X5_canAsk : GoodIn wsX5_stay (wsV RX5 71 RX5 yX5_canAsk wsX5_canAsk) := goodIn_app (goodIn_of _ (by decide +kernel)) ggX5_stay_X5_canAsk
set_option maxRecDepth 20000 in
theorem ggX5_stay_X5_in : GoodIn wsX5_stay wsX5_in := goodIn_r _ [15] (by decide +kernel) (by decide +kernel)
set_option maxRecDepth 20000 in
theorem gX5_stay_X5_in : GoodIn wsX5_stay (va_wsS RX5 45 yX5_in wsX5_in) := goodIn_app (goodIn_of _ (by decide +kernel)) ggX5_stay_X5_in
set_option maxRecDepth 20000 in
theorem ggX5_stay_X5_spreads : GoodIn wsX5_stay wsX5_spreads := goodIn_r _ [27, 1, 28, 29, 30, 6, 31, 50, 51, 52, 53, 54, 55, 56, 57, 58, 59, 60, 61] (by decide +kernel) (by decide +kernel)
set_option maxRecDepth 20000 in
theorem gX5_stay_X5_spreads : GoodIn wsX5_stay (wsV RX5 75 RX5 yX5_spreads wsX5_spreads) := goodIn_app (goodIn_of _ (by decide +kernel)) ggX5_stay_X5_spreads
set_option maxRecDepth 20000 in
theorem ggX5_stay_X5_keeps : GoodIn wsX5_stay wsX5_keeps := goodIn_r _ [35, 36, 1, 37, 38, 39, 6, 40, 41, 42, 43, 44, 45, 2, 46, 47, 48, 49, 13, 14, 15, 50, 51, 52, 53, 54, 55, 56, 57, 58, 59, 60, 61] (by decide +kernel) (by decide +kernel)
set_option maxRecDepth 20000 in
theorem gX5_stay_X5_keeps : GoodIn wsX5_stay (wsV RX5 79 RX5 yX5_keeps wsX5_keeps) := goodIn_app (goodIn_of _ (by decide +kernel)) ggX5_stay_X5_keeps
set_option maxRecDepth 20000 in
theorem ggX5_stay_X5_better : GoodIn wsX5_stay wsX5_better := goodIn_r _ [31] (by decide +kernel) (by decide +kernel)
set_option maxRecDepth 20000 in
theorem gX5_stay_X5_better : GoodIn wsX5_stay (va_wsS RX5 68 yX5_better wsX5_better) := goodIn_app (goodIn_of _ (by decide +kernel)) ggX5_stay_X5_better
theorem dX5_stay_0 : decode cX5_stay 0 = .ok (.aload_n 0, 1) := by decide +kernel
theorem dX5_stay_1 : decode cX5_stay 1 = .ok (.iload_n 1, 1) := by decide +kernel
theorem dX5_stay_2 : decode cX5_stay 2 = .ok (.iload_n 2, 1) := by decide +kernel
theorem dX5_stay_3 : decode cX5_stay 3 = .ok (.iload_n 3, 1) := by decide +kernel
theorem dX5_stay_4 : decode cX5_stay 4 = .ok (.iload 4, 2) := by decide +kernel
theorem dX5_stay_6 : decode cX5_stay 6 = .ok (.invokevirtual 71, 3) := by decide +kernel
theorem dX5_stay_9 : decode cX5_stay 9 = .ok (.ifCond .eq 13, 3) := by decide +kernel
theorem dX5_stay_12 : decode cX5_stay 12 = .ok (.iload 5, 2) := by decide +kernel
theorem dX5_stay_14 : decode cX5_stay 14 = .ok (.iconst 0, 1) := by decide +kernel
theorem dX5_stay_15 : decode cX5_stay 15 = .ok (.iconst 1, 1) := by decide +kernel
theorem dX5_stay_16 : decode cX5_stay 16 = .ok (.invokestatic 45, 3) := by decide +kernel
theorem dX5_stay_19 : decode cX5_stay 19 = .ok (.ifCond .ne 5, 3) := by decide +kernel
theorem dX5_stay_22 : decode cX5_stay 22 = .ok (.iconst (-1), 1) := by decide +kernel
theorem dX5_stay_23 : decode cX5_stay 23 = .ok (.ireturn, 1) := by decide +kernel
theorem dX5_stay_24 : decode cX5_stay 24 = .ok (.iload 5, 2) := by decide +kernel
theorem dX5_stay_26 : decode cX5_stay 26 = .ok (.ifCond .ne 7, 3) := by decide +kernel
theorem dX5_stay_29 : decode cX5_stay 29 = .ok (.iconst 1, 1) := by decide +kernel
theorem dX5_stay_30 : decode cX5_stay 30 = .ok (.goto 4, 3) := by decide +kernel
theorem dX5_stay_33 : decode cX5_stay 33 = .ok (.iconst 0, 1) := by decide +kernel
theorem dX5_stay_34 : decode cX5_stay 34 = .ok (.istore 6, 2) := by decide +kernel
theorem dX5_stay_36 : decode cX5_stay 36 = .ok (.iload 6, 2) := by decide +kernel
theorem dX5_stay_38 : decode cX5_stay 38 = .ok (.ifCond .eq 9, 3) := by decide +kernel
theorem dX5_stay_41 : decode cX5_stay 41 = .ok (.sipush 1000, 3) := by decide +kernel
theorem dX5_stay_44 : decode cX5_stay 44 = .ok (.goto 6, 3) := by decide +kernel
theorem dX5_stay_47 : decode cX5_stay 47 = .ok (.sipush (-1000), 3) := by decide +kernel
theorem dX5_stay_50 : decode cX5_stay 50 = .ok (.istore 7, 2) := by decide +kernel
theorem dX5_stay_52 : decode cX5_stay 52 = .ok (.iconst 0, 1) := by decide +kernel
theorem dX5_stay_53 : decode cX5_stay 53 = .ok (.istore 8, 2) := by decide +kernel
theorem dX5_stay_55 : decode cX5_stay 55 = .ok (.iload 8, 2) := by decide +kernel
theorem dX5_stay_57 : decode cX5_stay 57 = .ok (.sipush 4096, 3) := by decide +kernel
theorem dX5_stay_60 : decode cX5_stay 60 = .ok (.if_icmp .ge 17, 3) := by decide +kernel
theorem dX5_stay_63 : decode cX5_stay 63 = .ok (.aload_n 0, 1) := by decide +kernel
theorem dX5_stay_64 : decode cX5_stay 64 = .ok (.getfield 35, 3) := by decide +kernel
theorem dX5_stay_67 : decode cX5_stay 67 = .ok (.iload 8, 2) := by decide +kernel
theorem dX5_stay_69 : decode cX5_stay 69 = .ok (.iconst 0, 1) := by decide +kernel
theorem dX5_stay_70 : decode cX5_stay 70 = .ok (.iastore, 1) := by decide +kernel
theorem dX5_stay_71 : decode cX5_stay 71 = .ok (.iinc 8 1, 3) := by decide +kernel
theorem dX5_stay_74 : decode cX5_stay 74 = .ok (.goto (-19), 3) := by decide +kernel
theorem dX5_stay_77 : decode cX5_stay 77 = .ok (.iload_n 3, 1) := by decide +kernel
theorem dX5_stay_78 : decode cX5_stay 78 = .ok (.istore 8, 2) := by decide +kernel
theorem dX5_stay_80 : decode cX5_stay 80 = .ok (.iload 8, 2) := by decide +kernel
theorem dX5_stay_82 : decode cX5_stay 82 = .ok (.iload 4, 2) := by decide +kernel
theorem dX5_stay_84 : decode cX5_stay 84 = .ok (.if_icmp .gt 38, 3) := by decide +kernel
theorem dX5_stay_87 : decode cX5_stay 87 = .ok (.iload 8, 2) := by decide +kernel
theorem dX5_stay_89 : decode cX5_stay 89 = .ok (.iload_n 3, 1) := by decide +kernel
theorem dX5_stay_90 : decode cX5_stay 90 = .ok (.if_icmp .le 15, 3) := by decide +kernel
theorem dX5_stay_93 : decode cX5_stay 93 = .ok (.aload_n 0, 1) := by decide +kernel
theorem dX5_stay_94 : decode cX5_stay 94 = .ok (.aload_n 0, 1) := by decide +kernel
theorem dX5_stay_95 : decode cX5_stay 95 = .ok (.getfield 9, 3) := by decide +kernel
theorem dX5_stay_98 : decode cX5_stay 98 = .ok (.iload_n 1, 1) := by decide +kernel
theorem dX5_stay_99 : decode cX5_stay 99 = .ok (.iaload, 1) := by decide +kernel
theorem dX5_stay_100 : decode cX5_stay 100 = .ok (.iload 6, 2) := by decide +kernel
theorem dX5_stay_102 : decode cX5_stay 102 = .ok (.invokevirtual 75, 3) := by decide +kernel
theorem dX5_stay_105 : decode cX5_stay 105 = .ok (.aload_n 0, 1) := by decide +kernel
theorem dX5_stay_106 : decode cX5_stay 106 = .ok (.iload_n 1, 1) := by decide +kernel
theorem dX5_stay_107 : decode cX5_stay 107 = .ok (.iload_n 2, 1) := by decide +kernel
theorem dX5_stay_108 : decode cX5_stay 108 = .ok (.iload 8, 2) := by decide +kernel
theorem dX5_stay_110 : decode cX5_stay 110 = .ok (.iload 7, 2) := by decide +kernel
theorem dX5_stay_112 : decode cX5_stay 112 = .ok (.iconst 1, 1) := by decide +kernel
theorem dX5_stay_113 : decode cX5_stay 113 = .ok (.invokevirtual 79, 3) := by decide +kernel
theorem dX5_stay_116 : decode cX5_stay 116 = .ok (.iinc 8 1, 3) := by decide +kernel
theorem dX5_stay_119 : decode cX5_stay 119 = .ok (.goto (-39), 3) := by decide +kernel
theorem dX5_stay_122 : decode cX5_stay 122 = .ok (.iload 7, 2) := by decide +kernel
theorem dX5_stay_124 : decode cX5_stay 124 = .ok (.istore 8, 2) := by decide +kernel
theorem dX5_stay_126 : decode cX5_stay 126 = .ok (.iconst 0, 1) := by decide +kernel
theorem dX5_stay_127 : decode cX5_stay 127 = .ok (.istore 9, 2) := by decide +kernel
theorem dX5_stay_129 : decode cX5_stay 129 = .ok (.iload 9, 2) := by decide +kernel
theorem dX5_stay_131 : decode cX5_stay 131 = .ok (.sipush 4096, 3) := by decide +kernel
theorem dX5_stay_134 : decode cX5_stay 134 = .ok (.if_icmp .ge 25, 3) := by decide +kernel
theorem dX5_stay_137 : decode cX5_stay 137 = .ok (.iload 8, 2) := by decide +kernel
theorem dX5_stay_139 : decode cX5_stay 139 = .ok (.aload_n 0, 1) := by decide +kernel
theorem dX5_stay_140 : decode cX5_stay 140 = .ok (.getfield 35, 3) := by decide +kernel
theorem dX5_stay_143 : decode cX5_stay 143 = .ok (.iload 9, 2) := by decide +kernel
theorem dX5_stay_145 : decode cX5_stay 145 = .ok (.iaload, 1) := by decide +kernel
theorem dX5_stay_146 : decode cX5_stay 146 = .ok (.iload 6, 2) := by decide +kernel
theorem dX5_stay_148 : decode cX5_stay 148 = .ok (.invokestatic 68, 3) := by decide +kernel
theorem dX5_stay_151 : decode cX5_stay 151 = .ok (.istore 8, 2) := by decide +kernel
theorem dX5_stay_153 : decode cX5_stay 153 = .ok (.iinc 9 1, 3) := by decide +kernel
theorem dX5_stay_156 : decode cX5_stay 156 = .ok (.goto (-27), 3) := by decide +kernel
theorem dX5_stay_159 : decode cX5_stay 159 = .ok (.iload 8, 2) := by decide +kernel
theorem dX5_stay_161 : decode cX5_stay 161 = .ok (.ireturn, 1) := by decide +kernel
set_option maxRecDepth 20000 in
theorem ggX5_look_X5_in : GoodIn wsX5_look wsX5_in := goodIn_r _ [4] (by decide +kernel) (by decide +kernel)
set_option maxRecDepth 20000 in
theorem gX5_look_X5_in : GoodIn wsX5_look (va_wsS RX5 45 yX5_in wsX5_in) := goodIn_app (goodIn_of _ (by decide +kernel)) ggX5_look_X5_in
set_option maxRecDepth 20000 in
theorem ggX5_look_X5_state : GoodIn wsX5_look wsX5_state := goodIn_r _ [8, 9, 10, 11, 12, 3, 13, 14, 1, 2, 4, 15, 16, 17, 18, 19, 20, 21, 22, 23, 24, 25, 26, 27, 28, 29, 30, 31, 32, 33, 34, 35, 36, 37, 38, 39, 40, 41, 42, 43, 44, 45, 46, 47, 48] (by decide +kernel) (by decide +kernel)
set_option maxRecDepth 20000 in
theorem gX5_look_X5_state : GoodIn wsX5_look (wsV RX5 83 RX5 yX5_state wsX5_state) := goodIn_app (goodIn_of _ (by decide +kernel)) ggX5_look_X5_state
theorem dX5_look_0 : decode cX5_look 0 = .ok (.iload 4, 2) := by decide +kernel
theorem dX5_look_2 : decode cX5_look 2 = .ok (.iconst 0, 1) := by decide +kernel
theorem dX5_look_3 : decode cX5_look 3 = .ok (.bipush 79, 2) := by decide +kernel
theorem dX5_look_5 : decode cX5_look 5 = .ok (.invokestatic 45, 3) := by decide +kernel
theorem dX5_look_8 : decode cX5_look 8 = .ok (.ifCond .eq 13, 3) := by decide +kernel
theorem dX5_look_11 : decode cX5_look 11 = .ok (.aload_n 0, 1) := by decide +kernel
theorem dX5_look_12 : decode cX5_look 12 = .ok (.iload_n 1, 1) := by decide +kernel
theorem dX5_look_13 : decode cX5_look 13 = .ok (.iload_n 2, 1) := by decide +kernel
theorem dX5_look_14 : decode cX5_look 14 = .ok (.iload_n 3, 1) := by decide +kernel
theorem dX5_look_15 : decode cX5_look 15 = .ok (.invokevirtual 83, 3) := by decide +kernel
theorem dX5_look_18 : decode cX5_look 18 = .ok (.ifCond .eq 5, 3) := by decide +kernel
theorem dX5_look_21 : decode cX5_look 21 = .ok (.iconst (-1), 1) := by decide +kernel
theorem dX5_look_22 : decode cX5_look 22 = .ok (.ireturn, 1) := by decide +kernel
theorem dX5_look_23 : decode cX5_look 23 = .ok (.iload_n 3, 1) := by decide +kernel
theorem dX5_look_24 : decode cX5_look 24 = .ok (.iconst 1, 1) := by decide +kernel
theorem dX5_look_25 : decode cX5_look 25 = .ok (.iadd, 1) := by decide +kernel
theorem dX5_look_26 : decode cX5_look 26 = .ok (.istore 5, 2) := by decide +kernel
theorem dX5_look_28 : decode cX5_look 28 = .ok (.iload 5, 2) := by decide +kernel
theorem dX5_look_30 : decode cX5_look 30 = .ok (.bipush 80, 2) := by decide +kernel
theorem dX5_look_32 : decode cX5_look 32 = .ok (.if_icmp .ge 41, 3) := by decide +kernel
theorem dX5_look_35 : decode cX5_look 35 = .ok (.aload_n 0, 1) := by decide +kernel
theorem dX5_look_36 : decode cX5_look 36 = .ok (.iload_n 1, 1) := by decide +kernel
theorem dX5_look_37 : decode cX5_look 37 = .ok (.iload_n 2, 1) := by decide +kernel
theorem dX5_look_38 : decode cX5_look 38 = .ok (.iload 5, 2) := by decide +kernel
theorem dX5_look_40 : decode cX5_look 40 = .ok (.invokevirtual 83, 3) := by decide +kernel
theorem dX5_look_43 : decode cX5_look 43 = .ok (.ifCond .eq 24, 3) := by decide +kernel
theorem dX5_look_46 : decode cX5_look 46 = .ok (.iload 5, 2) := by decide +kernel
theorem dX5_look_48 : decode cX5_look 48 = .ok (.iload 4, 2) := by decide +kernel
theorem dX5_look_50 : decode cX5_look 50 = .ok (.iadd, 1) := by decide +kernel
theorem dX5_look_51 : decode cX5_look 51 = .ok (.bipush 80, 2) := by decide +kernel
theorem dX5_look_53 : decode cX5_look 53 = .ok (.if_icmp .ge 11, 3) := by decide +kernel
theorem dX5_look_56 : decode cX5_look 56 = .ok (.iload 5, 2) := by decide +kernel
theorem dX5_look_58 : decode cX5_look 58 = .ok (.iload 4, 2) := by decide +kernel
theorem dX5_look_60 : decode cX5_look 60 = .ok (.iadd, 1) := by decide +kernel
theorem dX5_look_61 : decode cX5_look 61 = .ok (.goto 5, 3) := by decide +kernel
theorem dX5_look_64 : decode cX5_look 64 = .ok (.bipush 79, 2) := by decide +kernel
theorem dX5_look_66 : decode cX5_look 66 = .ok (.ireturn, 1) := by decide +kernel
theorem dX5_look_67 : decode cX5_look 67 = .ok (.iinc 5 1, 3) := by decide +kernel
theorem dX5_look_70 : decode cX5_look 70 = .ok (.goto (-42), 3) := by decide +kernel
theorem dX5_look_73 : decode cX5_look 73 = .ok (.bipush 79, 2) := by decide +kernel
theorem dX5_look_75 : decode cX5_look 75 = .ok (.ireturn, 1) := by decide +kernel
set_option maxRecDepth 20000 in
theorem ggX5_apart_X5_isThing : GoodIn wsX5_apart wsX5_isThing := goodIn_r _ [5, 6, 7, 8, 4, 9, 27, 28, 29, 30, 31, 32, 33, 34, 35, 36, 37, 38] (by decide +kernel) (by decide +kernel)
set_option maxRecDepth 20000 in
theorem gX5_apart_X5_isThing : GoodIn wsX5_apart (wsV RX5 52 RX5 yX5_isThing wsX5_isThing) := goodIn_app (goodIn_of _ (by decide +kernel)) ggX5_apart_X5_isThing
set_option maxRecDepth 20000 in
theorem ggX5_apart_X5_isTick : GoodIn wsX5_apart wsX5_isTick := goodIn_r _ [12, 7, 8, 4, 9] (by decide +kernel) (by decide +kernel)
set_option maxRecDepth 20000 in
theorem gX5_apart_X5_isTick : GoodIn wsX5_apart (va_wsS RX5 56 yX5_isTick wsX5_isTick) := goodIn_app (goodIn_of _ (by decide +kernel)) ggX5_apart_X5_isTick
set_option maxRecDepth 20000 in
theorem ggX5_apart_X5_in : GoodIn wsX5_apart wsX5_in := goodIn_r _ [9] (by decide +kernel) (by decide +kernel)
set_option maxRecDepth 20000 in
theorem gX5_apart_X5_in : GoodIn wsX5_apart (va_wsS RX5 45 yX5_in wsX5_in) := goodIn_app (goodIn_of _ (by decide +kernel)) ggX5_apart_X5_in
set_option maxRecDepth 20000 in
theorem ggX5_apart_X5_low : GoodIn wsX5_apart wsX5_low := goodIn_r _ [16, 17, 18, 19, 20, 21, 22, 27, 28, 29, 30, 31, 32, 33, 34, 35, 36, 37, 38] (by decide +kernel) (by decide +kernel)
set_option maxRecDepth 20000 in
theorem gX5_apart_X5_low : GoodIn wsX5_apart (wsV RX5 59 RX5 yX5_low wsX5_low) := goodIn_app (goodIn_of _ (by decide +kernel)) ggX5_apart_X5_low
set_option maxRecDepth 20000 in
theorem ggX5_apart_X5_high : GoodIn wsX5_apart wsX5_high := goodIn_r _ [26, 17, 18, 19, 20, 21, 22, 27, 28, 29, 30, 31, 32, 33, 34, 35, 36, 37, 38] (by decide +kernel) (by decide +kernel)
set_option maxRecDepth 20000 in
theorem gX5_apart_X5_high : GoodIn wsX5_apart (wsV RX5 63 RX5 yX5_high wsX5_high) := goodIn_app (goodIn_of _ (by decide +kernel)) ggX5_apart_X5_high
theorem dX5_apart_0 : decode cX5_apart 0 = .ok (.aload_n 0, 1) := by decide +kernel
theorem dX5_apart_1 : decode cX5_apart 1 = .ok (.iload_n 1, 1) := by decide +kernel
theorem dX5_apart_2 : decode cX5_apart 2 = .ok (.invokevirtual 52, 3) := by decide +kernel
theorem dX5_apart_5 : decode cX5_apart 5 = .ok (.ifCond .eq 33, 3) := by decide +kernel
theorem dX5_apart_8 : decode cX5_apart 8 = .ok (.aload_n 0, 1) := by decide +kernel
theorem dX5_apart_9 : decode cX5_apart 9 = .ok (.iload_n 2, 1) := by decide +kernel
theorem dX5_apart_10 : decode cX5_apart 10 = .ok (.invokevirtual 52, 3) := by decide +kernel
theorem dX5_apart_13 : decode cX5_apart 13 = .ok (.ifCond .eq 25, 3) := by decide +kernel
theorem dX5_apart_16 : decode cX5_apart 16 = .ok (.iload_n 1, 1) := by decide +kernel
theorem dX5_apart_17 : decode cX5_apart 17 = .ok (.iload_n 2, 1) := by decide +kernel
theorem dX5_apart_18 : decode cX5_apart 18 = .ok (.if_icmp .eq 20, 3) := by decide +kernel
theorem dX5_apart_21 : decode cX5_apart 21 = .ok (.iload_n 3, 1) := by decide +kernel
theorem dX5_apart_22 : decode cX5_apart 22 = .ok (.invokestatic 56, 3) := by decide +kernel
theorem dX5_apart_25 : decode cX5_apart 25 = .ok (.ifCond .eq 13, 3) := by decide +kernel
theorem dX5_apart_28 : decode cX5_apart 28 = .ok (.iload 4, 2) := by decide +kernel
theorem dX5_apart_30 : decode cX5_apart 30 = .ok (.iconst 0, 1) := by decide +kernel
theorem dX5_apart_31 : decode cX5_apart 31 = .ok (.iconst 1, 1) := by decide +kernel
theorem dX5_apart_32 : decode cX5_apart 32 = .ok (.invokestatic 45, 3) := by decide +kernel
theorem dX5_apart_35 : decode cX5_apart 35 = .ok (.ifCond .ne 5, 3) := by decide +kernel
theorem dX5_apart_38 : decode cX5_apart 38 = .ok (.iconst (-1), 1) := by decide +kernel
theorem dX5_apart_39 : decode cX5_apart 39 = .ok (.ireturn, 1) := by decide +kernel
theorem dX5_apart_40 : decode cX5_apart 40 = .ok (.iconst 0, 1) := by decide +kernel
theorem dX5_apart_41 : decode cX5_apart 41 = .ok (.istore 5, 2) := by decide +kernel
theorem dX5_apart_43 : decode cX5_apart 43 = .ok (.iconst 0, 1) := by decide +kernel
theorem dX5_apart_44 : decode cX5_apart 44 = .ok (.istore 6, 2) := by decide +kernel
theorem dX5_apart_46 : decode cX5_apart 46 = .ok (.iload 6, 2) := by decide +kernel
theorem dX5_apart_48 : decode cX5_apart 48 = .ok (.iconst 2, 1) := by decide +kernel
theorem dX5_apart_49 : decode cX5_apart 49 = .ok (.if_icmp .ge 110, 3) := by decide +kernel
theorem dX5_apart_52 : decode cX5_apart 52 = .ok (.iload 6, 2) := by decide +kernel
theorem dX5_apart_54 : decode cX5_apart 54 = .ok (.ifCond .ne 7, 3) := by decide +kernel
theorem dX5_apart_57 : decode cX5_apart 57 = .ok (.iconst 1, 1) := by decide +kernel
theorem dX5_apart_58 : decode cX5_apart 58 = .ok (.goto 4, 3) := by decide +kernel
theorem dX5_apart_61 : decode cX5_apart 61 = .ok (.iconst 0, 1) := by decide +kernel
theorem dX5_apart_62 : decode cX5_apart 62 = .ok (.istore 7, 2) := by decide +kernel
theorem dX5_apart_64 : decode cX5_apart 64 = .ok (.aload_n 0, 1) := by decide +kernel
theorem dX5_apart_65 : decode cX5_apart 65 = .ok (.iload_n 1, 1) := by decide +kernel
theorem dX5_apart_66 : decode cX5_apart 66 = .ok (.iload_n 3, 1) := by decide +kernel
theorem dX5_apart_67 : decode cX5_apart 67 = .ok (.iload 7, 2) := by decide +kernel
theorem dX5_apart_69 : decode cX5_apart 69 = .ok (.invokevirtual 59, 3) := by decide +kernel
theorem dX5_apart_72 : decode cX5_apart 72 = .ok (.aload_n 0, 1) := by decide +kernel
theorem dX5_apart_73 : decode cX5_apart 73 = .ok (.iload_n 2, 1) := by decide +kernel
theorem dX5_apart_74 : decode cX5_apart 74 = .ok (.iload_n 3, 1) := by decide +kernel
theorem dX5_apart_75 : decode cX5_apart 75 = .ok (.iload 7, 2) := by decide +kernel
theorem dX5_apart_77 : decode cX5_apart 77 = .ok (.invokevirtual 63, 3) := by decide +kernel
theorem dX5_apart_80 : decode cX5_apart 80 = .ok (.isub, 1) := by decide +kernel
theorem dX5_apart_81 : decode cX5_apart 81 = .ok (.istore 8, 2) := by decide +kernel
theorem dX5_apart_83 : decode cX5_apart 83 = .ok (.aload_n 0, 1) := by decide +kernel
theorem dX5_apart_84 : decode cX5_apart 84 = .ok (.iload_n 2, 1) := by decide +kernel
theorem dX5_apart_85 : decode cX5_apart 85 = .ok (.iload_n 3, 1) := by decide +kernel
theorem dX5_apart_86 : decode cX5_apart 86 = .ok (.iload 7, 2) := by decide +kernel
theorem dX5_apart_88 : decode cX5_apart 88 = .ok (.invokevirtual 59, 3) := by decide +kernel
theorem dX5_apart_91 : decode cX5_apart 91 = .ok (.aload_n 0, 1) := by decide +kernel
theorem dX5_apart_92 : decode cX5_apart 92 = .ok (.iload_n 1, 1) := by decide +kernel
theorem dX5_apart_93 : decode cX5_apart 93 = .ok (.iload_n 3, 1) := by decide +kernel
theorem dX5_apart_94 : decode cX5_apart 94 = .ok (.iload 7, 2) := by decide +kernel
theorem dX5_apart_96 : decode cX5_apart 96 = .ok (.invokevirtual 63, 3) := by decide +kernel
theorem dX5_apart_99 : decode cX5_apart 99 = .ok (.isub, 1) := by decide +kernel
theorem dX5_apart_100 : decode cX5_apart 100 = .ok (.istore 9, 2) := by decide +kernel
theorem dX5_apart_102 : decode cX5_apart 102 = .ok (.iload 4, 2) := by decide +kernel
theorem dX5_apart_104 : decode cX5_apart 104 = .ok (.ifCond .ne 20, 3) := by decide +kernel
theorem dX5_apart_107 : decode cX5_apart 107 = .ok (.iload 8, 2) := by decide +kernel
theorem dX5_apart_109 : decode cX5_apart 109 = .ok (.iload 9, 2) := by decide +kernel
theorem dX5_apart_111 : decode cX5_apart 111 = .ok (.if_icmp .le 8, 3) := by decide +kernel
theorem dX5_apart_114 : decode cX5_apart 114 = .ok (.iload 8, 2) := by decide +kernel
theorem dX5_apart_116 : decode cX5_apart 116 = .ok (.goto 24, 3) := by decide +kernel
theorem dX5_apart_119 : decode cX5_apart 119 = .ok (.iload 9, 2) := by decide +kernel
theorem dX5_apart_121 : decode cX5_apart 121 = .ok (.goto 19, 3) := by decide +kernel
theorem dX5_apart_124 : decode cX5_apart 124 = .ok (.iload 8, 2) := by decide +kernel
theorem dX5_apart_126 : decode cX5_apart 126 = .ok (.iload 9, 2) := by decide +kernel
theorem dX5_apart_128 : decode cX5_apart 128 = .ok (.if_icmp .ge 9, 3) := by decide +kernel
theorem dX5_apart_131 : decode cX5_apart 131 = .ok (.iload 8, 2) := by decide +kernel
theorem dX5_apart_133 : decode cX5_apart 133 = .ok (.ineg, 1) := by decide +kernel
theorem dX5_apart_134 : decode cX5_apart 134 = .ok (.goto 6, 3) := by decide +kernel
theorem dX5_apart_137 : decode cX5_apart 137 = .ok (.iload 9, 2) := by decide +kernel
theorem dX5_apart_139 : decode cX5_apart 139 = .ok (.ineg, 1) := by decide +kernel
theorem dX5_apart_140 : decode cX5_apart 140 = .ok (.istore 10, 2) := by decide +kernel
theorem dX5_apart_142 : decode cX5_apart 142 = .ok (.iload 10, 2) := by decide +kernel
theorem dX5_apart_144 : decode cX5_apart 144 = .ok (.iload 5, 2) := by decide +kernel
theorem dX5_apart_146 : decode cX5_apart 146 = .ok (.if_icmp .le 7, 3) := by decide +kernel
theorem dX5_apart_149 : decode cX5_apart 149 = .ok (.iload 10, 2) := by decide +kernel
theorem dX5_apart_151 : decode cX5_apart 151 = .ok (.istore 5, 2) := by decide +kernel
theorem dX5_apart_153 : decode cX5_apart 153 = .ok (.iinc 6 1, 3) := by decide +kernel
theorem dX5_apart_156 : decode cX5_apart 156 = .ok (.goto (-110), 3) := by decide +kernel
theorem dX5_apart_159 : decode cX5_apart 159 = .ok (.iload 5, 2) := by decide +kernel
theorem dX5_apart_161 : decode cX5_apart 161 = .ok (.ireturn, 1) := by decide +kernel
theorem dX5_count_0 : decode cX5_count 0 = .ok (.iconst 0, 1) := by decide +kernel
theorem dX5_count_1 : decode cX5_count 1 = .ok (.istore_n 2, 1) := by decide +kernel
theorem dX5_count_2 : decode cX5_count 2 = .ok (.iconst 0, 1) := by decide +kernel
theorem dX5_count_3 : decode cX5_count 3 = .ok (.istore_n 3, 1) := by decide +kernel
theorem dX5_count_4 : decode cX5_count 4 = .ok (.iload_n 3, 1) := by decide +kernel
theorem dX5_count_5 : decode cX5_count 5 = .ok (.aload_n 0, 1) := by decide +kernel
theorem dX5_count_6 : decode cX5_count 6 = .ok (.getfield 41, 3) := by decide +kernel
theorem dX5_count_9 : decode cX5_count 9 = .ok (.if_icmp .ge 18, 3) := by decide +kernel
theorem dX5_count_12 : decode cX5_count 12 = .ok (.iload_n 2, 1) := by decide +kernel
theorem dX5_count_13 : decode cX5_count 13 = .ok (.aload_n 0, 1) := by decide +kernel
theorem dX5_count_14 : decode cX5_count 14 = .ok (.getfield 13, 3) := by decide +kernel
theorem dX5_count_17 : decode cX5_count 17 = .ok (.iload_n 3, 1) := by decide +kernel
theorem dX5_count_18 : decode cX5_count 18 = .ok (.iaload, 1) := by decide +kernel
theorem dX5_count_19 : decode cX5_count 19 = .ok (.iadd, 1) := by decide +kernel
theorem dX5_count_20 : decode cX5_count 20 = .ok (.istore_n 2, 1) := by decide +kernel
theorem dX5_count_21 : decode cX5_count 21 = .ok (.iinc 3 1, 3) := by decide +kernel
theorem dX5_count_24 : decode cX5_count 24 = .ok (.goto (-20), 3) := by decide +kernel
theorem dX5_count_27 : decode cX5_count 27 = .ok (.iload_n 1, 1) := by decide +kernel
theorem dX5_count_28 : decode cX5_count 28 = .ok (.ifCond .ne 10, 3) := by decide +kernel
theorem dX5_count_31 : decode cX5_count 31 = .ok (.aload_n 0, 1) := by decide +kernel
theorem dX5_count_32 : decode cX5_count 32 = .ok (.getfield 41, 3) := by decide +kernel
theorem dX5_count_35 : decode cX5_count 35 = .ok (.goto 25, 3) := by decide +kernel
theorem dX5_count_38 : decode cX5_count 38 = .ok (.iload_n 1, 1) := by decide +kernel
theorem dX5_count_39 : decode cX5_count 39 = .ok (.iconst 1, 1) := by decide +kernel
theorem dX5_count_40 : decode cX5_count 40 = .ok (.if_icmp .ne 7, 3) := by decide +kernel
theorem dX5_count_43 : decode cX5_count 43 = .ok (.iload_n 2, 1) := by decide +kernel
theorem dX5_count_44 : decode cX5_count 44 = .ok (.goto 16, 3) := by decide +kernel
theorem dX5_count_47 : decode cX5_count 47 = .ok (.iload_n 1, 1) := by decide +kernel
theorem dX5_count_48 : decode cX5_count 48 = .ok (.iconst 2, 1) := by decide +kernel
theorem dX5_count_49 : decode cX5_count 49 = .ok (.if_icmp .ne 10, 3) := by decide +kernel
theorem dX5_count_52 : decode cX5_count 52 = .ok (.aload_n 0, 1) := by decide +kernel
theorem dX5_count_53 : decode cX5_count 53 = .ok (.getfield 49, 3) := by decide +kernel
theorem dX5_count_56 : decode cX5_count 56 = .ok (.goto 4, 3) := by decide +kernel
theorem dX5_count_59 : decode cX5_count 59 = .ok (.iconst (-1), 1) := by decide +kernel
theorem dX5_count_60 : decode cX5_count 60 = .ok (.ireturn, 1) := by decide +kernel
theorem dJ13_bitCount_95d88_0 : decode cJ13_bitCount_95d88 0 = .ok (.lload_n 0, 1) := by decide +kernel
theorem dJ13_bitCount_95d88_1 : decode cJ13_bitCount_95d88 1 = .ok (.lload_n 0, 1) := by decide +kernel
theorem dJ13_bitCount_95d88_2 : decode cJ13_bitCount_95d88 2 = .ok (.iconst 1, 1) := by decide +kernel
theorem dJ13_bitCount_95d88_3 : decode cJ13_bitCount_95d88 3 = .ok (.lushr, 1) := by decide +kernel
theorem dJ13_bitCount_95d88_4 : decode cJ13_bitCount_95d88 4 = .ok (.ldc2_w 314, 3) := by decide +kernel
theorem dJ13_bitCount_95d88_7 : decode cJ13_bitCount_95d88 7 = .ok (.land, 1) := by decide +kernel
theorem dJ13_bitCount_95d88_8 : decode cJ13_bitCount_95d88 8 = .ok (.lsub, 1) := by decide +kernel
theorem dJ13_bitCount_95d88_9 : decode cJ13_bitCount_95d88 9 = .ok (.lstore_n 0, 1) := by decide +kernel
theorem dJ13_bitCount_95d88_10 : decode cJ13_bitCount_95d88 10 = .ok (.lload_n 0, 1) := by decide +kernel
theorem dJ13_bitCount_95d88_11 : decode cJ13_bitCount_95d88 11 = .ok (.ldc2_w 316, 3) := by decide +kernel
theorem dJ13_bitCount_95d88_14 : decode cJ13_bitCount_95d88 14 = .ok (.land, 1) := by decide +kernel
theorem dJ13_bitCount_95d88_15 : decode cJ13_bitCount_95d88 15 = .ok (.lload_n 0, 1) := by decide +kernel
theorem dJ13_bitCount_95d88_16 : decode cJ13_bitCount_95d88 16 = .ok (.iconst 2, 1) := by decide +kernel
theorem dJ13_bitCount_95d88_17 : decode cJ13_bitCount_95d88 17 = .ok (.lushr, 1) := by decide +kernel
theorem dJ13_bitCount_95d88_18 : decode cJ13_bitCount_95d88 18 = .ok (.ldc2_w 316, 3) := by decide +kernel
theorem dJ13_bitCount_95d88_21 : decode cJ13_bitCount_95d88 21 = .ok (.land, 1) := by decide +kernel
theorem dJ13_bitCount_95d88_22 : decode cJ13_bitCount_95d88 22 = .ok (.ladd, 1) := by decide +kernel
theorem dJ13_bitCount_95d88_23 : decode cJ13_bitCount_95d88 23 = .ok (.lstore_n 0, 1) := by decide +kernel
theorem dJ13_bitCount_95d88_24 : decode cJ13_bitCount_95d88 24 = .ok (.lload_n 0, 1) := by decide +kernel
theorem dJ13_bitCount_95d88_25 : decode cJ13_bitCount_95d88 25 = .ok (.lload_n 0, 1) := by decide +kernel
theorem dJ13_bitCount_95d88_26 : decode cJ13_bitCount_95d88 26 = .ok (.iconst 4, 1) := by decide +kernel
theorem dJ13_bitCount_95d88_27 : decode cJ13_bitCount_95d88 27 = .ok (.lushr, 1) := by decide +kernel
theorem dJ13_bitCount_95d88_28 : decode cJ13_bitCount_95d88 28 = .ok (.ladd, 1) := by decide +kernel
theorem dJ13_bitCount_95d88_29 : decode cJ13_bitCount_95d88 29 = .ok (.ldc2_w 318, 3) := by decide +kernel
theorem dJ13_bitCount_95d88_32 : decode cJ13_bitCount_95d88 32 = .ok (.land, 1) := by decide +kernel
theorem dJ13_bitCount_95d88_33 : decode cJ13_bitCount_95d88 33 = .ok (.lstore_n 0, 1) := by decide +kernel
theorem dJ13_bitCount_95d88_34 : decode cJ13_bitCount_95d88 34 = .ok (.lload_n 0, 1) := by decide +kernel
theorem dJ13_bitCount_95d88_35 : decode cJ13_bitCount_95d88 35 = .ok (.lload_n 0, 1) := by decide +kernel
theorem dJ13_bitCount_95d88_36 : decode cJ13_bitCount_95d88 36 = .ok (.bipush 8, 2) := by decide +kernel
theorem dJ13_bitCount_95d88_38 : decode cJ13_bitCount_95d88 38 = .ok (.lushr, 1) := by decide +kernel
theorem dJ13_bitCount_95d88_39 : decode cJ13_bitCount_95d88 39 = .ok (.ladd, 1) := by decide +kernel
theorem dJ13_bitCount_95d88_40 : decode cJ13_bitCount_95d88 40 = .ok (.lstore_n 0, 1) := by decide +kernel
theorem dJ13_bitCount_95d88_41 : decode cJ13_bitCount_95d88 41 = .ok (.lload_n 0, 1) := by decide +kernel
theorem dJ13_bitCount_95d88_42 : decode cJ13_bitCount_95d88 42 = .ok (.lload_n 0, 1) := by decide +kernel
theorem dJ13_bitCount_95d88_43 : decode cJ13_bitCount_95d88 43 = .ok (.bipush 16, 2) := by decide +kernel
theorem dJ13_bitCount_95d88_45 : decode cJ13_bitCount_95d88 45 = .ok (.lushr, 1) := by decide +kernel
theorem dJ13_bitCount_95d88_46 : decode cJ13_bitCount_95d88 46 = .ok (.ladd, 1) := by decide +kernel
theorem dJ13_bitCount_95d88_47 : decode cJ13_bitCount_95d88 47 = .ok (.lstore_n 0, 1) := by decide +kernel
theorem dJ13_bitCount_95d88_48 : decode cJ13_bitCount_95d88 48 = .ok (.lload_n 0, 1) := by decide +kernel
theorem dJ13_bitCount_95d88_49 : decode cJ13_bitCount_95d88 49 = .ok (.lload_n 0, 1) := by decide +kernel
theorem dJ13_bitCount_95d88_50 : decode cJ13_bitCount_95d88 50 = .ok (.bipush 32, 2) := by decide +kernel
theorem dJ13_bitCount_95d88_52 : decode cJ13_bitCount_95d88 52 = .ok (.lushr, 1) := by decide +kernel
theorem dJ13_bitCount_95d88_53 : decode cJ13_bitCount_95d88 53 = .ok (.ladd, 1) := by decide +kernel
theorem dJ13_bitCount_95d88_54 : decode cJ13_bitCount_95d88 54 = .ok (.lstore_n 0, 1) := by decide +kernel
theorem dJ13_bitCount_95d88_55 : decode cJ13_bitCount_95d88 55 = .ok (.lload_n 0, 1) := by decide +kernel
theorem dJ13_bitCount_95d88_56 : decode cJ13_bitCount_95d88 56 = .ok (.l2i, 1) := by decide +kernel
theorem dJ13_bitCount_95d88_57 : decode cJ13_bitCount_95d88 57 = .ok (.bipush 127, 2) := by decide +kernel
theorem dJ13_bitCount_95d88_59 : decode cJ13_bitCount_95d88 59 = .ok (.iand, 1) := by decide +kernel
theorem dJ13_bitCount_95d88_60 : decode cJ13_bitCount_95d88 60 = .ok (.ireturn, 1) := by decide +kernel
theorem dJ9_max_7cf53_0 : decode cJ9_max_7cf53 0 = .ok (.iload_n 0, 1) := by decide +kernel
theorem dJ9_max_7cf53_1 : decode cJ9_max_7cf53 1 = .ok (.iload_n 1, 1) := by decide +kernel
theorem dJ9_max_7cf53_2 : decode cJ9_max_7cf53 2 = .ok (.if_icmp .lt 7, 3) := by decide +kernel
theorem dJ9_max_7cf53_5 : decode cJ9_max_7cf53 5 = .ok (.iload_n 0, 1) := by decide +kernel
theorem dJ9_max_7cf53_6 : decode cJ9_max_7cf53 6 = .ok (.goto 4, 3) := by decide +kernel
theorem dJ9_max_7cf53_9 : decode cJ9_max_7cf53 9 = .ok (.iload_n 1, 1) := by decide +kernel
theorem dJ9_max_7cf53_10 : decode cJ9_max_7cf53 10 = .ok (.ireturn, 1) := by decide +kernel
theorem dJ9_min_7cf53_0 : decode cJ9_min_7cf53 0 = .ok (.iload_n 0, 1) := by decide +kernel
theorem dJ9_min_7cf53_1 : decode cJ9_min_7cf53 1 = .ok (.iload_n 1, 1) := by decide +kernel
theorem dJ9_min_7cf53_2 : decode cJ9_min_7cf53 2 = .ok (.if_icmp .gt 7, 3) := by decide +kernel
theorem dJ9_min_7cf53_5 : decode cJ9_min_7cf53 5 = .ok (.iload_n 0, 1) := by decide +kernel
theorem dJ9_min_7cf53_6 : decode cJ9_min_7cf53 6 = .ok (.goto 4, 3) := by decide +kernel
theorem dJ9_min_7cf53_9 : decode cJ9_min_7cf53 9 = .ok (.iload_n 1, 1) := by decide +kernel
theorem dJ9_min_7cf53_10 : decode cJ9_min_7cf53 10 = .ok (.ireturn, 1) := by decide +kernel
set_option maxRecDepth 20000 in
theorem ggL_law_X4_init : GoodIn wsL_law wsX4_init := goodIn_r _ [8, 9, 10, 11, 12, 13, 14, 15, 16, 17, 18, 19, 20, 21, 22, 23, 24, 25, 26, 27, 28, 29, 30, 31, 32, 33, 34, 35, 36, 37, 38, 39, 425, 426, 427, 428, 429, 430, 443, 444, 445, 446] (by decide +kernel) (by decide +kernel)
set_option maxRecDepth 20000 in
theorem gL_law_X4_init : GoodIn wsL_law (wsX4_init) := ggL_law_X4_init
set_option maxRecDepth 20000 in
theorem ggL_law_X5_init : GoodIn wsL_law wsX5_init := goodIn_r _ [42, 43, 10, 11, 44, 45, 46, 47, 48, 49, 50, 51, 52, 53, 54, 55, 431, 432, 433, 434, 435, 436, 437, 438, 439, 440, 441, 442] (by decide +kernel) (by decide +kernel)
set_option maxRecDepth 20000 in
theorem gL_law_X5_init : GoodIn wsL_law (wsX5_init) := ggL_law_X5_init
set_option maxRecDepth 20000 in
theorem ggL_law_X4_thing : GoodIn wsL_law wsX4_thing := goodIn_r _ [59, 23, 13, 12, 60, 61, 62, 63, 64, 65, 10, 11, 66, 44, 67, 68, 69, 70, 71, 72, 73, 74, 75, 76, 77, 78, 79, 80, 81, 82, 83, 425, 426, 427, 428, 429, 430, 447, 448, 449, 450, 451, 452, 453, 454, 455, 456, 457] (by decide +kernel) (by decide +kernel)
set_option maxRecDepth 20000 in
theorem gL_law_X4_thing : GoodIn wsL_law (wsV RL 13 RX4 yX4_thing wsX4_thing) := goodIn_app (goodIn_of _ (by decide +kernel)) ggL_law_X4_thing
set_option maxRecDepth 20000 in
theorem ggL_law_X5_thing : GoodIn wsL_law wsX5_thing := goodIn_r _ [87, 88, 45, 89, 90, 5, 91, 431, 432, 433, 434, 435, 436, 437, 438, 439, 440, 441, 442] (by decide +kernel) (by decide +kernel)
set_option maxRecDepth 20000 in
theorem gL_law_X5_thing : GoodIn wsL_law (wsV RL 17 RX5 yX5_thing wsX5_thing) := goodIn_app (goodIn_of _ (by decide +kernel)) ggL_law_X5_thing
set_option maxRecDepth 20000 in
theorem ggL_law_X4_see : GoodIn wsL_law wsX4_see := goodIn_r _ [95, 96, 97, 98, 2, 99, 23, 13, 100, 101, 102, 103, 104, 105, 106, 107, 108, 61, 109, 74, 67, 68, 69, 75, 110, 111, 112, 113, 71, 66, 114, 115, 116, 73, 117, 80, 81, 82, 83, 118, 119, 120, 121, 122, 123, 124, 125, 126, 127, 128, 129, 130, 131, 132, 133, 134, 135, 136, 137, 138, 139, 140, 141, 142, 143, 144, 145, 146, 147, 148, 425, 426, 427, 428, 429, 430, 447, 448, 449, 450, 451, 452, 453, 454, 455, 456, 457] (by decide +kernel) (by decide +kernel)
set_option maxRecDepth 20000 in
theorem gL_law_X4_see : GoodIn wsL_law (wsV RL 18 RX4 yX4_see wsX4_see) := goodIn_app (goodIn_of _ (by decide +kernel)) ggL_law_X4_see
set_option maxRecDepth 20000 in
theorem ggL_law_X5_see : GoodIn wsL_law wsX5_see := goodIn_r _ [152, 46, 48, 49, 50, 51, 47, 153, 154, 155, 5, 156, 88, 89, 90, 91, 157, 158, 159, 160, 161, 162, 163, 45, 164, 165, 166, 167, 431, 432, 433, 434, 435, 436, 437, 438, 439, 440, 441, 442] (by decide +kernel) (by decide +kernel)
set_option maxRecDepth 20000 in
theorem gL_law_X5_see : GoodIn wsL_law (wsV RL 22 RX5 yX5_see wsX5_see) := goodIn_app (goodIn_of _ (by decide +kernel)) ggL_law_X5_see
set_option maxRecDepth 20000 in
theorem ggL_law_X4_back : GoodIn wsL_law wsX4_back := goodIn_r _ [171, 96, 97, 98, 2, 99, 23, 13, 172, 173, 174, 61, 175, 74, 110, 111, 112, 113, 71, 67, 68, 69, 66, 114, 115, 116, 73, 117, 80, 81, 82, 83, 118, 119, 120, 121, 122, 123, 124, 125, 126, 127, 128, 129, 130, 131, 132, 133, 134, 135, 136, 425, 426, 427, 428, 429, 430, 447, 448, 449, 450, 451, 452, 453, 454, 455, 456, 457] (by decide +kernel) (by decide +kernel)
set_option maxRecDepth 20000 in
theorem gL_law_X4_back : GoodIn wsL_law (wsV RL 23 RX4 yX4_back wsX4_back) := goodIn_app (goodIn_of _ (by decide +kernel)) ggL_law_X4_back
set_option maxRecDepth 20000 in
theorem ggL_law_X5_back : GoodIn wsL_law wsX5_back := goodIn_r _ [179, 46, 153, 154, 155, 5, 156, 88, 89, 90, 91, 431, 432, 433, 434, 435, 436, 437, 438, 439, 440, 441, 442] (by decide +kernel) (by decide +kernel)
set_option maxRecDepth 20000 in
theorem gL_law_X5_back : GoodIn wsL_law (wsV RL 27 RX5 yX5_back wsX5_back) := goodIn_app (goodIn_of _ (by decide +kernel)) ggL_law_X5_back
set_option maxRecDepth 20000 in
theorem ggL_law_X4_jumps : GoodIn wsL_law wsX4_jumps := goodIn_r _ [183, 96, 97, 98, 2, 99, 23, 13, 184, 185, 186, 61, 187, 75, 425, 426, 427, 428, 429, 430, 447, 448, 449, 450, 451, 452, 453] (by decide +kernel) (by decide +kernel)
set_option maxRecDepth 20000 in
theorem gL_law_X4_jumps : GoodIn wsL_law (wsV RL 28 RX4 yX4_jumps wsX4_jumps) := goodIn_app (goodIn_of _ (by decide +kernel)) ggL_law_X4_jumps
set_option maxRecDepth 20000 in
theorem ggL_law_X5_jumps : GoodIn wsL_law wsX5_jumps := goodIn_r _ [191, 47, 153, 154, 155, 5, 156, 88, 89, 90, 91, 431, 432, 433, 434, 435, 436, 437, 438, 439, 440, 441, 442] (by decide +kernel) (by decide +kernel)
set_option maxRecDepth 20000 in
theorem gL_law_X5_jumps : GoodIn wsL_law (wsV RL 31 RX5 yX5_jumps wsX5_jumps) := goodIn_app (goodIn_of _ (by decide +kernel)) ggL_law_X5_jumps
set_option maxRecDepth 20000 in
theorem ggL_law_X4_where : GoodIn wsL_law wsX4_where := goodIn_r _ [195, 96, 97, 98, 2, 99, 23, 13, 100, 101, 102, 196, 197, 198, 61, 199, 71, 200, 201, 202, 73, 203, 81, 80, 83, 82, 454, 455, 456, 457, 425, 426, 427, 428, 429, 430, 447, 448, 449, 450, 451, 452, 453] (by decide +kernel) (by decide +kernel)
set_option maxRecDepth 20000 in
theorem gL_law_X4_where : GoodIn wsL_law (wsV RL 32 RX4 yX4_where wsX4_where) := goodIn_app (goodIn_of _ (by decide +kernel)) ggL_law_X4_where
set_option maxRecDepth 20000 in
theorem ggL_law_X5_where : GoodIn wsL_law wsX5_where := goodIn_r _ [207, 153, 154, 155, 5, 156, 88, 89, 90, 91, 157, 158, 159, 160, 161, 162, 163, 46, 48, 49, 50, 51, 45, 164, 165, 166, 167, 431, 432, 433, 434, 435, 436, 437, 438, 439, 440, 441, 442] (by decide +kernel) (by decide +kernel)
set_option maxRecDepth 20000 in
theorem gL_law_X5_where : GoodIn wsL_law (wsV RL 36 RX5 yX5_where wsX5_where) := goodIn_app (goodIn_of _ (by decide +kernel)) ggL_law_X5_where
set_option maxRecDepth 20000 in
theorem ggL_law_X4_ground : GoodIn wsL_law wsX4_ground := goodIn_r _ [211, 24, 15, 14, 16, 17, 25, 26, 27, 28, 10, 11, 29, 30, 425, 426, 427, 428, 429, 430, 443] (by decide +kernel) (by decide +kernel)
set_option maxRecDepth 20000 in
theorem gL_law_X4_ground : GoodIn wsL_law (wsV RL 37 RX4 yX4_ground wsX4_ground) := goodIn_app (goodIn_of _ (by decide +kernel)) ggL_law_X4_ground
set_option maxRecDepth 20000 in
theorem ggL_law_X5_ground : GoodIn wsL_law wsX5_ground := goodIn_r _ [215, 216, 431, 432, 433, 434, 435, 436, 437, 438, 439, 440, 441, 442] (by decide +kernel) (by decide +kernel)
set_option maxRecDepth 20000 in
theorem gL_law_X5_ground : GoodIn wsL_law (wsV RL 41 RX5 yX5_ground wsX5_ground) := goodIn_app (goodIn_of _ (by decide +kernel)) ggL_law_X5_ground
set_option maxRecDepth 20000 in
theorem ggL_law_X4_draw : GoodIn wsL_law wsX4_draw := goodIn_r _ [220, 221, 72, 73, 222, 223, 224, 2, 225, 24, 15, 103, 104, 105, 226, 118, 119, 227, 120, 121, 228, 77, 78, 79, 10, 11, 80, 81, 82, 83, 229, 142, 143, 144, 230, 231, 232, 17, 233, 30, 234, 235, 236, 237, 238, 239, 240, 241, 242, 243, 244, 245, 246, 247, 248, 249, 250, 251, 252, 253, 254, 454, 455, 456, 457, 425, 426, 427, 428, 429, 430, 443] (by decide +kernel) (by decide +kernel)
set_option maxRecDepth 20000 in
theorem gL_law_X4_draw : GoodIn wsL_law (wsV RL 42 RX4 yX4_draw wsX4_draw) := goodIn_app (goodIn_of _ (by decide +kernel)) ggL_law_X4_draw
set_option maxRecDepth 20000 in
theorem ggL_law_X5_draw : GoodIn wsL_law wsX5_draw := goodIn_r _ [258, 53, 259, 260, 261, 5, 262, 216, 89, 90, 91, 431, 432, 433, 434, 435, 436, 437, 438, 439, 440, 441, 442] (by decide +kernel) (by decide +kernel)
set_option maxRecDepth 20000 in
theorem gL_law_X5_draw : GoodIn wsL_law (wsV RL 46 RX5 yX5_draw wsX5_draw) := goodIn_app (goodIn_of _ (by decide +kernel)) ggL_law_X5_draw
set_option maxRecDepth 20000 in
theorem ggL_law_X4_has : GoodIn wsL_law wsX4_has := goodIn_r _ [266, 222, 223, 224, 2, 225, 24, 15, 103, 104, 105, 226, 118, 119, 227, 120, 121, 267, 268, 269, 17, 270, 30, 425, 426, 427, 428, 429, 430, 443] (by decide +kernel) (by decide +kernel)
set_option maxRecDepth 20000 in
theorem gL_law_X4_has : GoodIn wsL_law (wsV RL 47 RX4 yX4_has wsX4_has) := goodIn_app (goodIn_of _ (by decide +kernel)) ggL_law_X4_has
set_option maxRecDepth 20000 in
theorem ggL_law_X5_has : GoodIn wsL_law wsX5_has := goodIn_r _ [274, 53, 259, 260, 261, 5, 262, 216, 89, 90, 91, 431, 432, 433, 434, 435, 436, 437, 438, 439, 440, 441, 442] (by decide +kernel) (by decide +kernel)
set_option maxRecDepth 20000 in
theorem gL_law_X5_has : GoodIn wsL_law (wsV RL 51 RX5 yX5_has wsX5_has) := goodIn_app (goodIn_of _ (by decide +kernel)) ggL_law_X5_has
set_option maxRecDepth 20000 in
theorem ggL_law_X4_state : GoodIn wsL_law wsX4_state := goodIn_r _ [278, 96, 97, 98, 2, 99, 23, 13, 222, 223, 224, 225, 24, 15, 100, 101, 102, 279, 280, 281, 196, 197, 198, 61, 199, 71, 282, 283, 284, 17, 285, 30, 234, 235, 236, 73, 237, 238, 83, 82, 286, 287, 288, 289, 425, 426, 427, 428, 429, 430, 447, 448, 449, 450, 451, 452, 453, 454, 455, 456, 457, 443] (by decide +kernel) (by decide +kernel)
set_option maxRecDepth 20000 in
theorem gL_law_X4_state : GoodIn wsL_law (wsV RL 52 RX4 yX4_state wsX4_state) := goodIn_app (goodIn_of _ (by decide +kernel)) ggL_law_X4_state
set_option maxRecDepth 20000 in
theorem ggL_law_X5_state : GoodIn wsL_law wsX5_state := goodIn_r _ [293, 53, 153, 154, 155, 5, 156, 88, 89, 90, 91, 259, 260, 261, 262, 216, 157, 158, 159, 164, 165, 166, 167, 46, 48, 49, 50, 51, 45, 160, 161, 162, 163, 431, 432, 433, 434, 435, 436, 437, 438, 439, 440, 441, 442] (by decide +kernel) (by decide +kernel)
set_option maxRecDepth 20000 in
theorem gL_law_X5_state : GoodIn wsL_law (wsV RL 55 RX5 yX5_state wsX5_state) := goodIn_app (goodIn_of _ (by decide +kernel)) ggL_law_X5_state
set_option maxRecDepth 20000 in
theorem ggL_law_X4_entered : GoodIn wsL_law wsX4_entered := goodIn_r _ [297, 18, 96, 97, 98, 2, 99, 23, 13, 222, 223, 224, 225, 24, 15, 298, 299, 300, 100, 101, 102, 196, 197, 198, 61, 199, 71, 301, 302, 303, 17, 304, 30, 234, 235, 236, 73, 237, 238, 83, 82, 305, 306, 307, 308, 243, 309, 310, 311, 312, 313, 314, 315, 316, 66, 317, 318, 319, 320, 321, 131, 128, 132, 322, 323, 324, 325, 326, 327, 328, 329, 425, 426, 427, 428, 429, 430, 447, 448, 449, 450, 451, 452, 453, 443, 454, 455, 456, 457] (by decide +kernel) (by decide +kernel)
set_option maxRecDepth 20000 in
theorem gL_law_X4_entered : GoodIn wsL_law (wsV RL 56 RX4 yX4_entered wsX4_entered) := goodIn_app (goodIn_of _ (by decide +kernel)) ggL_law_X4_entered
set_option maxRecDepth 20000 in
theorem ggL_law_X5_entered : GoodIn wsL_law wsX5_entered := goodIn_r _ [333, 54, 45, 334, 335, 336, 5, 337, 153, 154, 155, 156, 88, 89, 90, 91, 259, 260, 261, 262, 216, 157, 158, 159, 338, 339, 340, 341, 55, 342, 343, 344, 345, 346, 347, 348, 53, 160, 161, 162, 163, 46, 48, 49, 50, 51, 164, 165, 166, 167, 431, 432, 433, 434, 435, 436, 437, 438, 439, 440, 441, 442] (by decide +kernel) (by decide +kernel)
set_option maxRecDepth 20000 in
theorem gL_law_X5_entered : GoodIn wsL_law (wsV RL 59 RX5 yX5_entered wsX5_entered) := goodIn_app (goodIn_of _ (by decide +kernel)) ggL_law_X5_entered
set_option maxRecDepth 20000 in
theorem ggL_law_X4_stay : GoodIn wsL_law wsX4_stay := goodIn_r _ [352, 22, 18, 96, 97, 98, 2, 99, 23, 13, 222, 223, 224, 225, 24, 15, 298, 299, 300, 100, 101, 102, 353, 354, 355, 21, 356, 37, 38, 357, 358, 359, 360, 36, 361, 314, 315, 61, 316, 66, 71, 317, 318, 319, 17, 320, 321, 131, 128, 132, 322, 323, 324, 325, 30, 326, 327, 328, 329, 234, 235, 236, 73, 237, 238, 83, 82, 362, 197, 198, 199, 363, 302, 303, 304, 364, 365, 366, 367, 368, 369, 370, 371, 243, 372, 306, 307, 308, 373, 374, 375, 376, 377, 310, 311, 312, 378, 287, 288, 289, 379, 380, 381, 382, 425, 426, 427, 428, 429, 430, 444, 445, 446, 447, 448, 449, 450, 451, 452, 453, 443, 454, 455, 456, 457] (by decide +kernel) (by decide +kernel)
set_option maxRecDepth 20000 in
theorem gL_law_X4_stay : GoodIn wsL_law (wsV RL 60 RX4 yX4_stay wsX4_stay) := goodIn_app (goodIn_of _ (by decide +kernel)) ggL_law_X4_stay
set_option maxRecDepth 20000 in
theorem ggL_law_X5_stay : GoodIn wsL_law wsX5_stay := goodIn_r _ [386, 54, 45, 334, 335, 336, 5, 337, 153, 154, 155, 156, 88, 89, 90, 91, 259, 260, 261, 262, 216, 157, 158, 159, 338, 339, 340, 341, 55, 342, 343, 344, 345, 346, 347, 348, 53, 160, 161, 162, 163, 46, 48, 49, 50, 51, 164, 165, 166, 167, 431, 432, 433, 434, 435, 436, 437, 438, 439, 440, 441, 442] (by decide +kernel) (by decide +kernel)
set_option maxRecDepth 20000 in
theorem gL_law_X5_stay : GoodIn wsL_law (wsV RL 64 RX5 yX5_stay wsX5_stay) := goodIn_app (goodIn_of _ (by decide +kernel)) ggL_law_X5_stay
set_option maxRecDepth 20000 in
theorem ggL_law_X4_look : GoodIn wsL_law wsX4_look := goodIn_r _ [390, 391, 131, 128, 132, 96, 97, 98, 2, 99, 23, 13, 222, 223, 224, 225, 24, 15, 100, 101, 102, 279, 280, 281, 196, 197, 198, 61, 199, 71, 282, 283, 284, 17, 285, 30, 234, 235, 236, 73, 237, 238, 83, 82, 286, 287, 288, 289, 425, 426, 427, 428, 429, 430, 447, 448, 449, 450, 451, 452, 453, 454, 455, 456, 457, 443] (by decide +kernel) (by decide +kernel)
set_option maxRecDepth 20000 in
theorem gL_law_X4_look : GoodIn wsL_law (wsV RL 65 RX4 yX4_look wsX4_look) := goodIn_app (goodIn_of _ (by decide +kernel)) ggL_law_X4_look
set_option maxRecDepth 20000 in
theorem ggL_law_X5_look : GoodIn wsL_law wsX5_look := goodIn_r _ [395, 89, 90, 5, 91, 396, 291, 292, 293, 53, 153, 154, 155, 156, 88, 259, 260, 261, 262, 216, 157, 158, 159, 164, 165, 166, 167, 46, 48, 49, 50, 51, 45, 160, 161, 162, 163, 431, 432, 433, 434, 435, 436, 437, 438, 439, 440, 441, 442] (by decide +kernel) (by decide +kernel)
set_option maxRecDepth 20000 in
theorem gL_law_X5_look : GoodIn wsL_law (wsV RL 68 RX5 yX5_look wsX5_look) := goodIn_app (goodIn_of _ (by decide +kernel)) ggL_law_X5_look
set_option maxRecDepth 20000 in
theorem ggL_law_X4_apart : GoodIn wsL_law wsX4_apart := goodIn_r _ [400, 96, 97, 98, 2, 99, 23, 13, 100, 101, 102, 196, 197, 198, 61, 199, 71, 401, 402, 403, 73, 404, 80, 81, 126, 127, 128, 129, 82, 83, 405, 406, 407, 408, 425, 426, 427, 428, 429, 430, 447, 448, 449, 450, 451, 452, 453, 454, 455, 456, 457] (by decide +kernel) (by decide +kernel)
set_option maxRecDepth 20000 in
theorem gL_law_X4_apart : GoodIn wsL_law (wsV RL 69 RX4 yX4_apart wsX4_apart) := goodIn_app (goodIn_of _ (by decide +kernel)) ggL_law_X4_apart
set_option maxRecDepth 20000 in
theorem ggL_law_X5_apart : GoodIn wsL_law wsX5_apart := goodIn_r _ [412, 153, 154, 155, 5, 156, 88, 89, 90, 91, 157, 158, 159, 160, 161, 162, 163, 46, 48, 49, 50, 51, 45, 164, 165, 166, 167, 431, 432, 433, 434, 435, 436, 437, 438, 439, 440, 441, 442] (by decide +kernel) (by decide +kernel)
set_option maxRecDepth 20000 in
theorem gL_law_X5_apart : GoodIn wsL_law (wsV RL 72 RX5 yX5_apart wsX5_apart) := goodIn_app (goodIn_of _ (by decide +kernel)) ggL_law_X5_apart
set_option maxRecDepth 20000 in
theorem ggL_law_X4_count : GoodIn wsL_law wsX4_count := goodIn_r _ [416, 23, 24, 417, 418, 419, 2, 420, 13, 145, 146, 147, 61, 148, 74, 425, 426, 427, 428, 429, 430, 447, 448, 449, 450, 451, 452, 453] (by decide +kernel) (by decide +kernel)
set_option maxRecDepth 20000 in
theorem gL_law_X4_count : GoodIn wsL_law (wsV RL 73 RX4 yX4_count wsX4_count) := goodIn_app (goodIn_of _ (by decide +kernel)) ggL_law_X4_count
set_option maxRecDepth 20000 in
theorem ggL_law_X5_count : GoodIn wsL_law wsX5_count := goodIn_r _ [424, 88, 46, 216, 431, 432, 433, 434, 435, 436, 437, 438, 439, 440, 441, 442] (by decide +kernel) (by decide +kernel)
set_option maxRecDepth 20000 in
theorem gL_law_X5_count : GoodIn wsL_law (wsV RL 76 RX5 yX5_count wsX5_count) := goodIn_app (goodIn_of _ (by decide +kernel)) ggL_law_X5_count
theorem dL_law_0 : decode cL_law 0 = .ok (.new 7, 3) := by decide +kernel
theorem dL_law_3 : decode cL_law 3 = .ok (.dup, 1) := by decide +kernel
theorem dL_law_4 : decode cL_law 4 = .ok (.invokespecial 9, 3) := by decide +kernel
theorem dL_law_7 : decode cL_law 7 = .ok (.astore_n 1, 1) := by decide +kernel
theorem dL_law_8 : decode cL_law 8 = .ok (.new 10, 3) := by decide +kernel
theorem dL_law_11 : decode cL_law 11 = .ok (.dup, 1) := by decide +kernel
theorem dL_law_12 : decode cL_law 12 = .ok (.invokespecial 12, 3) := by decide +kernel
theorem dL_law_15 : decode cL_law 15 = .ok (.astore_n 2, 1) := by decide +kernel
theorem dL_law_16 : decode cL_law 16 = .ok (.iconst 0, 1) := by decide +kernel
theorem dL_law_17 : decode cL_law 17 = .ok (.istore_n 3, 1) := by decide +kernel
theorem dL_law_18 : decode cL_law 18 = .ok (.iload_n 3, 1) := by decide +kernel
theorem dL_law_19 : decode cL_law 19 = .ok (.aload_n 0, 1) := by decide +kernel
theorem dL_law_20 : decode cL_law 20 = .ok (.arraylength, 1) := by decide +kernel
theorem dL_law_21 : decode cL_law 21 = .ok (.bipush 6, 2) := by decide +kernel
theorem dL_law_23 : decode cL_law 23 = .ok (.isub, 1) := by decide +kernel
theorem dL_law_24 : decode cL_law 24 = .ok (.if_icmp .gt 654, 3) := by decide +kernel
theorem dL_law_27 : decode cL_law 27 = .ok (.aload_n 0, 1) := by decide +kernel
theorem dL_law_28 : decode cL_law 28 = .ok (.iload_n 3, 1) := by decide +kernel
theorem dL_law_29 : decode cL_law 29 = .ok (.iaload, 1) := by decide +kernel
theorem dL_law_30 : decode cL_law 30 = .ok (.bipush 15, 2) := by decide +kernel
theorem dL_law_32 : decode cL_law 32 = .ok (.iand, 1) := by decide +kernel
theorem dL_law_33 : decode cL_law 33 = .ok (.tableswitch 639 0 13 #[71, 94, 147, 170, 193, 236, 249, 318, 351, 394, 447, 510, 563, 616], 71) := by decide +kernel
theorem dL_law_104 : decode cL_law 104 = .ok (.aload_n 1, 1) := by decide +kernel
theorem dL_law_105 : decode cL_law 105 = .ok (.aload_n 0, 1) := by decide +kernel
theorem dL_law_106 : decode cL_law 106 = .ok (.iload_n 3, 1) := by decide +kernel
theorem dL_law_107 : decode cL_law 107 = .ok (.iconst 1, 1) := by decide +kernel
theorem dL_law_108 : decode cL_law 108 = .ok (.iadd, 1) := by decide +kernel
theorem dL_law_109 : decode cL_law 109 = .ok (.iaload, 1) := by decide +kernel
theorem dL_law_110 : decode cL_law 110 = .ok (.invokevirtual 13, 3) := by decide +kernel
theorem dL_law_113 : decode cL_law 113 = .ok (.aload_n 2, 1) := by decide +kernel
theorem dL_law_114 : decode cL_law 114 = .ok (.aload_n 0, 1) := by decide +kernel
theorem dL_law_115 : decode cL_law 115 = .ok (.iload_n 3, 1) := by decide +kernel
theorem dL_law_116 : decode cL_law 116 = .ok (.iconst 1, 1) := by decide +kernel
theorem dL_law_117 : decode cL_law 117 = .ok (.iadd, 1) := by decide +kernel
theorem dL_law_118 : decode cL_law 118 = .ok (.iaload, 1) := by decide +kernel
theorem dL_law_119 : decode cL_law 119 = .ok (.invokevirtual 17, 3) := by decide +kernel
theorem dL_law_122 : decode cL_law 122 = .ok (.if_icmp .eq 550, 3) := by decide +kernel
theorem dL_law_125 : decode cL_law 125 = .ok (.iconst 0, 1) := by decide +kernel
theorem dL_law_126 : decode cL_law 126 = .ok (.ireturn, 1) := by decide +kernel
theorem dL_law_127 : decode cL_law 127 = .ok (.aload_n 1, 1) := by decide +kernel
theorem dL_law_128 : decode cL_law 128 = .ok (.aload_n 0, 1) := by decide +kernel
theorem dL_law_129 : decode cL_law 129 = .ok (.iload_n 3, 1) := by decide +kernel
theorem dL_law_130 : decode cL_law 130 = .ok (.iconst 1, 1) := by decide +kernel
theorem dL_law_131 : decode cL_law 131 = .ok (.iadd, 1) := by decide +kernel
theorem dL_law_132 : decode cL_law 132 = .ok (.iaload, 1) := by decide +kernel
theorem dL_law_133 : decode cL_law 133 = .ok (.aload_n 0, 1) := by decide +kernel
theorem dL_law_134 : decode cL_law 134 = .ok (.iload_n 3, 1) := by decide +kernel
theorem dL_law_135 : decode cL_law 135 = .ok (.iconst 2, 1) := by decide +kernel
theorem dL_law_136 : decode cL_law 136 = .ok (.iadd, 1) := by decide +kernel
theorem dL_law_137 : decode cL_law 137 = .ok (.iaload, 1) := by decide +kernel
theorem dL_law_138 : decode cL_law 138 = .ok (.aload_n 0, 1) := by decide +kernel
theorem dL_law_139 : decode cL_law 139 = .ok (.iload_n 3, 1) := by decide +kernel
theorem dL_law_140 : decode cL_law 140 = .ok (.iconst 3, 1) := by decide +kernel
theorem dL_law_141 : decode cL_law 141 = .ok (.iadd, 1) := by decide +kernel
theorem dL_law_142 : decode cL_law 142 = .ok (.iaload, 1) := by decide +kernel
theorem dL_law_143 : decode cL_law 143 = .ok (.aload_n 0, 1) := by decide +kernel
theorem dL_law_144 : decode cL_law 144 = .ok (.iload_n 3, 1) := by decide +kernel
theorem dL_law_145 : decode cL_law 145 = .ok (.iconst 4, 1) := by decide +kernel
theorem dL_law_146 : decode cL_law 146 = .ok (.iadd, 1) := by decide +kernel
theorem dL_law_147 : decode cL_law 147 = .ok (.iaload, 1) := by decide +kernel
theorem dL_law_148 : decode cL_law 148 = .ok (.invokevirtual 18, 3) := by decide +kernel
theorem dL_law_151 : decode cL_law 151 = .ok (.aload_n 2, 1) := by decide +kernel
theorem dL_law_152 : decode cL_law 152 = .ok (.aload_n 0, 1) := by decide +kernel
theorem dL_law_153 : decode cL_law 153 = .ok (.iload_n 3, 1) := by decide +kernel
theorem dL_law_154 : decode cL_law 154 = .ok (.iconst 1, 1) := by decide +kernel
theorem dL_law_155 : decode cL_law 155 = .ok (.iadd, 1) := by decide +kernel
theorem dL_law_156 : decode cL_law 156 = .ok (.iaload, 1) := by decide +kernel
theorem dL_law_157 : decode cL_law 157 = .ok (.aload_n 0, 1) := by decide +kernel
theorem dL_law_158 : decode cL_law 158 = .ok (.iload_n 3, 1) := by decide +kernel
theorem dL_law_159 : decode cL_law 159 = .ok (.iconst 2, 1) := by decide +kernel
theorem dL_law_160 : decode cL_law 160 = .ok (.iadd, 1) := by decide +kernel
theorem dL_law_161 : decode cL_law 161 = .ok (.iaload, 1) := by decide +kernel
theorem dL_law_162 : decode cL_law 162 = .ok (.aload_n 0, 1) := by decide +kernel
theorem dL_law_163 : decode cL_law 163 = .ok (.iload_n 3, 1) := by decide +kernel
theorem dL_law_164 : decode cL_law 164 = .ok (.iconst 3, 1) := by decide +kernel
theorem dL_law_165 : decode cL_law 165 = .ok (.iadd, 1) := by decide +kernel
theorem dL_law_166 : decode cL_law 166 = .ok (.iaload, 1) := by decide +kernel
theorem dL_law_167 : decode cL_law 167 = .ok (.aload_n 0, 1) := by decide +kernel
theorem dL_law_168 : decode cL_law 168 = .ok (.iload_n 3, 1) := by decide +kernel
theorem dL_law_169 : decode cL_law 169 = .ok (.iconst 4, 1) := by decide +kernel
theorem dL_law_170 : decode cL_law 170 = .ok (.iadd, 1) := by decide +kernel
theorem dL_law_171 : decode cL_law 171 = .ok (.iaload, 1) := by decide +kernel
theorem dL_law_172 : decode cL_law 172 = .ok (.invokevirtual 22, 3) := by decide +kernel
theorem dL_law_175 : decode cL_law 175 = .ok (.if_icmp .eq 497, 3) := by decide +kernel
theorem dL_law_178 : decode cL_law 178 = .ok (.iconst 0, 1) := by decide +kernel
theorem dL_law_179 : decode cL_law 179 = .ok (.ireturn, 1) := by decide +kernel
theorem dL_law_180 : decode cL_law 180 = .ok (.aload_n 1, 1) := by decide +kernel
theorem dL_law_181 : decode cL_law 181 = .ok (.aload_n 0, 1) := by decide +kernel
theorem dL_law_182 : decode cL_law 182 = .ok (.iload_n 3, 1) := by decide +kernel
theorem dL_law_183 : decode cL_law 183 = .ok (.iconst 1, 1) := by decide +kernel
theorem dL_law_184 : decode cL_law 184 = .ok (.iadd, 1) := by decide +kernel
theorem dL_law_185 : decode cL_law 185 = .ok (.iaload, 1) := by decide +kernel
theorem dL_law_186 : decode cL_law 186 = .ok (.invokevirtual 23, 3) := by decide +kernel
theorem dL_law_189 : decode cL_law 189 = .ok (.aload_n 2, 1) := by decide +kernel
theorem dL_law_190 : decode cL_law 190 = .ok (.aload_n 0, 1) := by decide +kernel
theorem dL_law_191 : decode cL_law 191 = .ok (.iload_n 3, 1) := by decide +kernel
theorem dL_law_192 : decode cL_law 192 = .ok (.iconst 1, 1) := by decide +kernel
theorem dL_law_193 : decode cL_law 193 = .ok (.iadd, 1) := by decide +kernel
theorem dL_law_194 : decode cL_law 194 = .ok (.iaload, 1) := by decide +kernel
theorem dL_law_195 : decode cL_law 195 = .ok (.invokevirtual 27, 3) := by decide +kernel
theorem dL_law_198 : decode cL_law 198 = .ok (.if_icmp .eq 474, 3) := by decide +kernel
theorem dL_law_201 : decode cL_law 201 = .ok (.iconst 0, 1) := by decide +kernel
theorem dL_law_202 : decode cL_law 202 = .ok (.ireturn, 1) := by decide +kernel
theorem dL_law_203 : decode cL_law 203 = .ok (.aload_n 1, 1) := by decide +kernel
theorem dL_law_204 : decode cL_law 204 = .ok (.aload_n 0, 1) := by decide +kernel
theorem dL_law_205 : decode cL_law 205 = .ok (.iload_n 3, 1) := by decide +kernel
theorem dL_law_206 : decode cL_law 206 = .ok (.iconst 1, 1) := by decide +kernel
theorem dL_law_207 : decode cL_law 207 = .ok (.iadd, 1) := by decide +kernel
theorem dL_law_208 : decode cL_law 208 = .ok (.iaload, 1) := by decide +kernel
theorem dL_law_209 : decode cL_law 209 = .ok (.invokevirtual 28, 3) := by decide +kernel
theorem dL_law_212 : decode cL_law 212 = .ok (.aload_n 2, 1) := by decide +kernel
theorem dL_law_213 : decode cL_law 213 = .ok (.aload_n 0, 1) := by decide +kernel
theorem dL_law_214 : decode cL_law 214 = .ok (.iload_n 3, 1) := by decide +kernel
theorem dL_law_215 : decode cL_law 215 = .ok (.iconst 1, 1) := by decide +kernel
theorem dL_law_216 : decode cL_law 216 = .ok (.iadd, 1) := by decide +kernel
theorem dL_law_217 : decode cL_law 217 = .ok (.iaload, 1) := by decide +kernel
theorem dL_law_218 : decode cL_law 218 = .ok (.invokevirtual 31, 3) := by decide +kernel
theorem dL_law_221 : decode cL_law 221 = .ok (.if_icmp .eq 451, 3) := by decide +kernel
theorem dL_law_224 : decode cL_law 224 = .ok (.iconst 0, 1) := by decide +kernel
theorem dL_law_225 : decode cL_law 225 = .ok (.ireturn, 1) := by decide +kernel
theorem dL_law_226 : decode cL_law 226 = .ok (.aload_n 1, 1) := by decide +kernel
theorem dL_law_227 : decode cL_law 227 = .ok (.aload_n 0, 1) := by decide +kernel
theorem dL_law_228 : decode cL_law 228 = .ok (.iload_n 3, 1) := by decide +kernel
theorem dL_law_229 : decode cL_law 229 = .ok (.iconst 1, 1) := by decide +kernel
theorem dL_law_230 : decode cL_law 230 = .ok (.iadd, 1) := by decide +kernel
theorem dL_law_231 : decode cL_law 231 = .ok (.iaload, 1) := by decide +kernel
theorem dL_law_232 : decode cL_law 232 = .ok (.aload_n 0, 1) := by decide +kernel
theorem dL_law_233 : decode cL_law 233 = .ok (.iload_n 3, 1) := by decide +kernel
theorem dL_law_234 : decode cL_law 234 = .ok (.iconst 2, 1) := by decide +kernel
theorem dL_law_235 : decode cL_law 235 = .ok (.iadd, 1) := by decide +kernel
theorem dL_law_236 : decode cL_law 236 = .ok (.iaload, 1) := by decide +kernel
theorem dL_law_237 : decode cL_law 237 = .ok (.aload_n 0, 1) := by decide +kernel
theorem dL_law_238 : decode cL_law 238 = .ok (.iload_n 3, 1) := by decide +kernel
theorem dL_law_239 : decode cL_law 239 = .ok (.iconst 3, 1) := by decide +kernel
theorem dL_law_240 : decode cL_law 240 = .ok (.iadd, 1) := by decide +kernel
theorem dL_law_241 : decode cL_law 241 = .ok (.iaload, 1) := by decide +kernel
theorem dL_law_242 : decode cL_law 242 = .ok (.invokevirtual 32, 3) := by decide +kernel
theorem dL_law_245 : decode cL_law 245 = .ok (.aload_n 2, 1) := by decide +kernel
theorem dL_law_246 : decode cL_law 246 = .ok (.aload_n 0, 1) := by decide +kernel
theorem dL_law_247 : decode cL_law 247 = .ok (.iload_n 3, 1) := by decide +kernel
theorem dL_law_248 : decode cL_law 248 = .ok (.iconst 1, 1) := by decide +kernel
theorem dL_law_249 : decode cL_law 249 = .ok (.iadd, 1) := by decide +kernel
theorem dL_law_250 : decode cL_law 250 = .ok (.iaload, 1) := by decide +kernel
theorem dL_law_251 : decode cL_law 251 = .ok (.aload_n 0, 1) := by decide +kernel
theorem dL_law_252 : decode cL_law 252 = .ok (.iload_n 3, 1) := by decide +kernel
theorem dL_law_253 : decode cL_law 253 = .ok (.iconst 2, 1) := by decide +kernel
theorem dL_law_254 : decode cL_law 254 = .ok (.iadd, 1) := by decide +kernel
theorem dL_law_255 : decode cL_law 255 = .ok (.iaload, 1) := by decide +kernel
theorem dL_law_256 : decode cL_law 256 = .ok (.aload_n 0, 1) := by decide +kernel
theorem dL_law_257 : decode cL_law 257 = .ok (.iload_n 3, 1) := by decide +kernel
theorem dL_law_258 : decode cL_law 258 = .ok (.iconst 3, 1) := by decide +kernel
theorem dL_law_259 : decode cL_law 259 = .ok (.iadd, 1) := by decide +kernel
theorem dL_law_260 : decode cL_law 260 = .ok (.iaload, 1) := by decide +kernel
theorem dL_law_261 : decode cL_law 261 = .ok (.invokevirtual 36, 3) := by decide +kernel
theorem dL_law_264 : decode cL_law 264 = .ok (.if_icmp .eq 408, 3) := by decide +kernel
theorem dL_law_267 : decode cL_law 267 = .ok (.iconst 0, 1) := by decide +kernel
theorem dL_law_268 : decode cL_law 268 = .ok (.ireturn, 1) := by decide +kernel
theorem dL_law_269 : decode cL_law 269 = .ok (.aload_n 1, 1) := by decide +kernel
theorem dL_law_270 : decode cL_law 270 = .ok (.invokevirtual 37, 3) := by decide +kernel
theorem dL_law_273 : decode cL_law 273 = .ok (.aload_n 2, 1) := by decide +kernel
theorem dL_law_274 : decode cL_law 274 = .ok (.invokevirtual 41, 3) := by decide +kernel
theorem dL_law_277 : decode cL_law 277 = .ok (.if_icmp .eq 395, 3) := by decide +kernel
theorem dL_law_280 : decode cL_law 280 = .ok (.iconst 0, 1) := by decide +kernel
theorem dL_law_281 : decode cL_law 281 = .ok (.ireturn, 1) := by decide +kernel
theorem dL_law_282 : decode cL_law 282 = .ok (.aload_n 1, 1) := by decide +kernel
theorem dL_law_283 : decode cL_law 283 = .ok (.aload_n 0, 1) := by decide +kernel
theorem dL_law_284 : decode cL_law 284 = .ok (.iload_n 3, 1) := by decide +kernel
theorem dL_law_285 : decode cL_law 285 = .ok (.iconst 1, 1) := by decide +kernel
theorem dL_law_286 : decode cL_law 286 = .ok (.iadd, 1) := by decide +kernel
theorem dL_law_287 : decode cL_law 287 = .ok (.iaload, 1) := by decide +kernel
theorem dL_law_288 : decode cL_law 288 = .ok (.aload_n 0, 1) := by decide +kernel
theorem dL_law_289 : decode cL_law 289 = .ok (.iload_n 3, 1) := by decide +kernel
theorem dL_law_290 : decode cL_law 290 = .ok (.iconst 2, 1) := by decide +kernel
theorem dL_law_291 : decode cL_law 291 = .ok (.iadd, 1) := by decide +kernel
theorem dL_law_292 : decode cL_law 292 = .ok (.iaload, 1) := by decide +kernel
theorem dL_law_293 : decode cL_law 293 = .ok (.aload_n 0, 1) := by decide +kernel
theorem dL_law_294 : decode cL_law 294 = .ok (.iload_n 3, 1) := by decide +kernel
theorem dL_law_295 : decode cL_law 295 = .ok (.iconst 3, 1) := by decide +kernel
theorem dL_law_296 : decode cL_law 296 = .ok (.iadd, 1) := by decide +kernel
theorem dL_law_297 : decode cL_law 297 = .ok (.iaload, 1) := by decide +kernel
theorem dL_law_298 : decode cL_law 298 = .ok (.aload_n 0, 1) := by decide +kernel
theorem dL_law_299 : decode cL_law 299 = .ok (.iload_n 3, 1) := by decide +kernel
theorem dL_law_300 : decode cL_law 300 = .ok (.iconst 4, 1) := by decide +kernel
theorem dL_law_301 : decode cL_law 301 = .ok (.iadd, 1) := by decide +kernel
theorem dL_law_302 : decode cL_law 302 = .ok (.iaload, 1) := by decide +kernel
theorem dL_law_303 : decode cL_law 303 = .ok (.ifCond .eq 7, 3) := by decide +kernel
theorem dL_law_306 : decode cL_law 306 = .ok (.iconst 1, 1) := by decide +kernel
theorem dL_law_307 : decode cL_law 307 = .ok (.goto 4, 3) := by decide +kernel
theorem dL_law_310 : decode cL_law 310 = .ok (.iconst 0, 1) := by decide +kernel
theorem dL_law_311 : decode cL_law 311 = .ok (.invokevirtual 42, 3) := by decide +kernel
theorem dL_law_314 : decode cL_law 314 = .ok (.aload_n 2, 1) := by decide +kernel
theorem dL_law_315 : decode cL_law 315 = .ok (.aload_n 0, 1) := by decide +kernel
theorem dL_law_316 : decode cL_law 316 = .ok (.iload_n 3, 1) := by decide +kernel
theorem dL_law_317 : decode cL_law 317 = .ok (.iconst 1, 1) := by decide +kernel
theorem dL_law_318 : decode cL_law 318 = .ok (.iadd, 1) := by decide +kernel
theorem dL_law_319 : decode cL_law 319 = .ok (.iaload, 1) := by decide +kernel
theorem dL_law_320 : decode cL_law 320 = .ok (.aload_n 0, 1) := by decide +kernel
theorem dL_law_321 : decode cL_law 321 = .ok (.iload_n 3, 1) := by decide +kernel
theorem dL_law_322 : decode cL_law 322 = .ok (.iconst 2, 1) := by decide +kernel
theorem dL_law_323 : decode cL_law 323 = .ok (.iadd, 1) := by decide +kernel
theorem dL_law_324 : decode cL_law 324 = .ok (.iaload, 1) := by decide +kernel
theorem dL_law_325 : decode cL_law 325 = .ok (.aload_n 0, 1) := by decide +kernel
theorem dL_law_326 : decode cL_law 326 = .ok (.iload_n 3, 1) := by decide +kernel
theorem dL_law_327 : decode cL_law 327 = .ok (.iconst 3, 1) := by decide +kernel
theorem dL_law_328 : decode cL_law 328 = .ok (.iadd, 1) := by decide +kernel
theorem dL_law_329 : decode cL_law 329 = .ok (.iaload, 1) := by decide +kernel
theorem dL_law_330 : decode cL_law 330 = .ok (.aload_n 0, 1) := by decide +kernel
theorem dL_law_331 : decode cL_law 331 = .ok (.iload_n 3, 1) := by decide +kernel
theorem dL_law_332 : decode cL_law 332 = .ok (.iconst 4, 1) := by decide +kernel
theorem dL_law_333 : decode cL_law 333 = .ok (.iadd, 1) := by decide +kernel
theorem dL_law_334 : decode cL_law 334 = .ok (.iaload, 1) := by decide +kernel
theorem dL_law_335 : decode cL_law 335 = .ok (.ifCond .eq 7, 3) := by decide +kernel
theorem dL_law_338 : decode cL_law 338 = .ok (.iconst 1, 1) := by decide +kernel
theorem dL_law_339 : decode cL_law 339 = .ok (.goto 4, 3) := by decide +kernel
theorem dL_law_342 : decode cL_law 342 = .ok (.iconst 0, 1) := by decide +kernel
theorem dL_law_343 : decode cL_law 343 = .ok (.invokevirtual 46, 3) := by decide +kernel
theorem dL_law_346 : decode cL_law 346 = .ok (.if_icmp .eq 326, 3) := by decide +kernel
theorem dL_law_349 : decode cL_law 349 = .ok (.iconst 0, 1) := by decide +kernel
theorem dL_law_350 : decode cL_law 350 = .ok (.ireturn, 1) := by decide +kernel
theorem dL_law_351 : decode cL_law 351 = .ok (.aload_n 1, 1) := by decide +kernel
theorem dL_law_352 : decode cL_law 352 = .ok (.aload_n 0, 1) := by decide +kernel
theorem dL_law_353 : decode cL_law 353 = .ok (.iload_n 3, 1) := by decide +kernel
