theorem dL_cell_0 : decode cL_cell 0 = .ok (.iload_n 1, 1) := by decide +kernel
theorem dL_cell_1 : decode cL_cell 1 = .ok (.aload_n 0, 1) := by decide +kernel
theorem dL_cell_2 : decode cL_cell 2 = .ok (.arraylength, 1) := by decide +kernel
theorem dL_cell_3 : decode cL_cell 3 = .ok (.if_icmp .ge 9, 3) := by decide +kernel
theorem dL_cell_6 : decode cL_cell 6 = .ok (.aload_n 0, 1) := by decide +kernel
theorem dL_cell_7 : decode cL_cell 7 = .ok (.iload_n 1, 1) := by decide +kernel
theorem dL_cell_8 : decode cL_cell 8 = .ok (.iaload, 1) := by decide +kernel
theorem dL_cell_9 : decode cL_cell 9 = .ok (.goto 12, 3) := by decide +kernel
theorem dL_cell_12 : decode cL_cell 12 = .ok (.ldc 7, 2) := by decide +kernel
theorem dL_cell_14 : decode cL_cell 14 = .ok (.iload_n 1, 1) := by decide +kernel
theorem dL_cell_15 : decode cL_cell 15 = .ok (.iconst 1, 1) := by decide +kernel
theorem dL_cell_16 : decode cL_cell 16 = .ok (.iadd, 1) := by decide +kernel
theorem dL_cell_17 : decode cL_cell 17 = .ok (.imul, 1) := by decide +kernel
theorem dL_cell_18 : decode cL_cell 18 = .ok (.ldc 8, 2) := by decide +kernel
theorem dL_cell_20 : decode cL_cell 20 = .ok (.iadd, 1) := by decide +kernel
theorem dL_cell_21 : decode cL_cell 21 = .ok (.ireturn, 1) := by decide +kernel
theorem dL_low_0 : decode cL_low 0 = .ok (.iload_n 0, 1) := by decide +kernel
theorem dL_low_1 : decode cL_low 1 = .ok (.ldc 9, 2) := by decide +kernel
theorem dL_low_3 : decode cL_low 3 = .ok (.iand, 1) := by decide +kernel
theorem dL_low_4 : decode cL_low 4 = .ok (.iload_n 1, 1) := by decide +kernel
theorem dL_low_5 : decode cL_low 5 = .ok (.irem, 1) := by decide +kernel
theorem dL_low_6 : decode cL_low 6 = .ok (.ireturn, 1) := by decide +kernel
set_option maxRecDepth 20000 in
theorem ggL_move_X4_move : GoodIn wsL_move wsX4_move := goodIn_ca (goodIn_ca (goodIn_r _ [7, 8, 9, 10, 11, 12, 13, 14, 15, 16, 17, 18, 19, 20, 21, 22, 23, 24, 25, 26, 27, 28, 29, 30, 31, 32, 33, 34, 35, 36, 37, 38, 39, 40, 41, 42, 43, 44, 45, 46, 47, 48, 49, 50, 51, 52, 53, 54, 55, 56, 57, 58, 59, 60, 61, 62, 63, 64, 65, 66, 67, 68, 69, 70, 71, 72, 73, 74, 75, 76, 77, 78, 79, 80, 6, 81, 82, 83, 84, 85, 86, 87, 88, 89, 90, 91, 92, 93, 94, 95, 96, 97, 98, 99, 100, 101, 102, 103, 104, 105, 106, 107, 108, 109, 110, 111] (by decide +kernel) (by decide +kernel)) (goodIn_sub (fun _ h => List.mem_cons_of_mem _ (List.mem_append_left _ (List.mem_append_right _ h))) (by decide +kernel))) (goodIn_sub (fun _ h => List.mem_cons_of_mem _ (List.mem_append_right _ h)) (by decide +kernel))
set_option maxRecDepth 20000 in
theorem gL_move_X4_move : GoodIn wsL_move (wsV RL 10 RX4 yX4_move wsX4_move) := goodIn_app (goodIn_of _ (by decide +kernel)) ggL_move_X4_move
theorem dL_move_0 : decode cL_move 0 = .ok (.aload_n 0, 1) := by decide +kernel
theorem dL_move_1 : decode cL_move 1 = .ok (.iload_n 1, 1) := by decide +kernel
theorem dL_move_2 : decode cL_move 2 = .ok (.iload_n 2, 1) := by decide +kernel
theorem dL_move_3 : decode cL_move 3 = .ok (.invokevirtual 10, 3) := by decide +kernel
theorem dL_move_6 : decode cL_move 6 = .ok (.ireturn, 1) := by decide +kernel
theorem dL_move_7 : decode cL_move 7 = .ok (.astore_n 3, 1) := by decide +kernel
theorem dL_move_8 : decode cL_move 8 = .ok (.iconst (-1), 1) := by decide +kernel
theorem dL_move_9 : decode cL_move 9 = .ok (.ireturn, 1) := by decide +kernel
theorem dL_move_10 : decode cL_move 10 = .ok (.astore_n 3, 1) := by decide +kernel
theorem dL_move_11 : decode cL_move 11 = .ok (.bipush (-2), 2) := by decide +kernel
theorem dL_move_13 : decode cL_move 13 = .ok (.ireturn, 1) := by decide +kernel
theorem dL_at_0 : decode cL_at 0 = .ok (.iconst 0, 1) := by decide +kernel
theorem dL_at_1 : decode cL_at 1 = .ok (.istore_n 2, 1) := by decide +kernel
theorem dL_at_2 : decode cL_at 2 = .ok (.iload_n 2, 1) := by decide +kernel
theorem dL_at_3 : decode cL_at 3 = .ok (.bipush 6, 2) := by decide +kernel
theorem dL_at_5 : decode cL_at 5 = .ok (.if_icmp .ge 23, 3) := by decide +kernel
theorem dL_at_8 : decode cL_at 8 = .ok (.aload_n 1, 1) := by decide +kernel
theorem dL_at_9 : decode cL_at 9 = .ok (.bipush 9, 2) := by decide +kernel
theorem dL_at_11 : decode cL_at 11 = .ok (.iload_n 2, 1) := by decide +kernel
theorem dL_at_12 : decode cL_at 12 = .ok (.imul, 1) := by decide +kernel
theorem dL_at_13 : decode cL_at 13 = .ok (.iconst 5, 1) := by decide +kernel
theorem dL_at_14 : decode cL_at 14 = .ok (.iadd, 1) := by decide +kernel
theorem dL_at_15 : decode cL_at 15 = .ok (.iaload, 1) := by decide +kernel
theorem dL_at_16 : decode cL_at 16 = .ok (.iload_n 0, 1) := by decide +kernel
theorem dL_at_17 : decode cL_at 17 = .ok (.if_icmp .ne 5, 3) := by decide +kernel
theorem dL_at_20 : decode cL_at 20 = .ok (.iload_n 2, 1) := by decide +kernel
theorem dL_at_21 : decode cL_at 21 = .ok (.ireturn, 1) := by decide +kernel
theorem dL_at_22 : decode cL_at 22 = .ok (.iinc 2 1, 3) := by decide +kernel
theorem dL_at_25 : decode cL_at 25 = .ok (.goto (-23), 3) := by decide +kernel
theorem dL_at_28 : decode cL_at 28 = .ok (.iconst (-1), 1) := by decide +kernel
theorem dL_at_29 : decode cL_at 29 = .ok (.ireturn, 1) := by decide +kernel
theorem dL_refund_0 : decode cL_refund 0 = .ok (.aload_n 1, 1) := by decide +kernel
theorem dL_refund_1 : decode cL_refund 1 = .ok (.bipush 7, 2) := by decide +kernel
theorem dL_refund_3 : decode cL_refund 3 = .ok (.aload_n 2, 1) := by decide +kernel
theorem dL_refund_4 : decode cL_refund 4 = .ok (.bipush 9, 2) := by decide +kernel
theorem dL_refund_6 : decode cL_refund 6 = .ok (.iload_n 0, 1) := by decide +kernel
theorem dL_refund_7 : decode cL_refund 7 = .ok (.imul, 1) := by decide +kernel
theorem dL_refund_8 : decode cL_refund 8 = .ok (.iaload, 1) := by decide +kernel
theorem dL_refund_9 : decode cL_refund 9 = .ok (.iadd, 1) := by decide +kernel
theorem dL_refund_10 : decode cL_refund 10 = .ok (.dup2, 1) := by decide +kernel
theorem dL_refund_11 : decode cL_refund 11 = .ok (.iaload, 1) := by decide +kernel
theorem dL_refund_12 : decode cL_refund 12 = .ok (.aload_n 2, 1) := by decide +kernel
theorem dL_refund_13 : decode cL_refund 13 = .ok (.bipush 9, 2) := by decide +kernel
theorem dL_refund_15 : decode cL_refund 15 = .ok (.iload_n 0, 1) := by decide +kernel
theorem dL_refund_16 : decode cL_refund 16 = .ok (.imul, 1) := by decide +kernel
theorem dL_refund_17 : decode cL_refund 17 = .ok (.bipush 7, 2) := by decide +kernel
theorem dL_refund_19 : decode cL_refund 19 = .ok (.iadd, 1) := by decide +kernel
theorem dL_refund_20 : decode cL_refund 20 = .ok (.iaload, 1) := by decide +kernel
theorem dL_refund_21 : decode cL_refund 21 = .ok (.iadd, 1) := by decide +kernel
theorem dL_refund_22 : decode cL_refund 22 = .ok (.iastore, 1) := by decide +kernel
theorem dL_refund_23 : decode cL_refund 23 = .ok (.aload_n 2, 1) := by decide +kernel
theorem dL_refund_24 : decode cL_refund 24 = .ok (.bipush 9, 2) := by decide +kernel
theorem dL_refund_26 : decode cL_refund 26 = .ok (.iload_n 0, 1) := by decide +kernel
theorem dL_refund_27 : decode cL_refund 27 = .ok (.imul, 1) := by decide +kernel
theorem dL_refund_28 : decode cL_refund 28 = .ok (.bipush 7, 2) := by decide +kernel
theorem dL_refund_30 : decode cL_refund 30 = .ok (.iadd, 1) := by decide +kernel
theorem dL_refund_31 : decode cL_refund 31 = .ok (.iconst 0, 1) := by decide +kernel
theorem dL_refund_32 : decode cL_refund 32 = .ok (.iastore, 1) := by decide +kernel
theorem dL_refund_33 : decode cL_refund 33 = .ok (.return_, 1) := by decide +kernel
theorem dL_wanted_0 : decode cL_wanted 0 = .ok (.aload_n 2, 1) := by decide +kernel
theorem dL_wanted_1 : decode cL_wanted 1 = .ok (.bipush 9, 2) := by decide +kernel
theorem dL_wanted_3 : decode cL_wanted 3 = .ok (.iload_n 0, 1) := by decide +kernel
theorem dL_wanted_4 : decode cL_wanted 4 = .ok (.imul, 1) := by decide +kernel
theorem dL_wanted_5 : decode cL_wanted 5 = .ok (.iconst 2, 1) := by decide +kernel
theorem dL_wanted_6 : decode cL_wanted 6 = .ok (.iadd, 1) := by decide +kernel
theorem dL_wanted_7 : decode cL_wanted 7 = .ok (.iaload, 1) := by decide +kernel
theorem dL_wanted_8 : decode cL_wanted 8 = .ok (.istore_n 3, 1) := by decide +kernel
theorem dL_wanted_9 : decode cL_wanted 9 = .ok (.iload_n 3, 1) := by decide +kernel
theorem dL_wanted_10 : decode cL_wanted 10 = .ok (.ifCond .lt 42, 3) := by decide +kernel
theorem dL_wanted_13 : decode cL_wanted 13 = .ok (.iload_n 3, 1) := by decide +kernel
theorem dL_wanted_14 : decode cL_wanted 14 = .ok (.bipush 6, 2) := by decide +kernel
theorem dL_wanted_16 : decode cL_wanted 16 = .ok (.if_icmp .ge 36, 3) := by decide +kernel
theorem dL_wanted_19 : decode cL_wanted 19 = .ok (.aload_n 2, 1) := by decide +kernel
theorem dL_wanted_20 : decode cL_wanted 20 = .ok (.bipush 9, 2) := by decide +kernel
theorem dL_wanted_22 : decode cL_wanted 22 = .ok (.iload_n 3, 1) := by decide +kernel
theorem dL_wanted_23 : decode cL_wanted 23 = .ok (.imul, 1) := by decide +kernel
theorem dL_wanted_24 : decode cL_wanted 24 = .ok (.iconst 5, 1) := by decide +kernel
theorem dL_wanted_25 : decode cL_wanted 25 = .ok (.iadd, 1) := by decide +kernel
theorem dL_wanted_26 : decode cL_wanted 26 = .ok (.iaload, 1) := by decide +kernel
theorem dL_wanted_27 : decode cL_wanted 27 = .ok (.ifCond .lt 25, 3) := by decide +kernel
theorem dL_wanted_30 : decode cL_wanted 30 = .ok (.aload_n 2, 1) := by decide +kernel
theorem dL_wanted_31 : decode cL_wanted 31 = .ok (.bipush 9, 2) := by decide +kernel
theorem dL_wanted_33 : decode cL_wanted 33 = .ok (.iload_n 3, 1) := by decide +kernel
theorem dL_wanted_34 : decode cL_wanted 34 = .ok (.imul, 1) := by decide +kernel
theorem dL_wanted_35 : decode cL_wanted 35 = .ok (.iconst 5, 1) := by decide +kernel
theorem dL_wanted_36 : decode cL_wanted 36 = .ok (.iadd, 1) := by decide +kernel
theorem dL_wanted_37 : decode cL_wanted 37 = .ok (.iaload, 1) := by decide +kernel
theorem dL_wanted_38 : decode cL_wanted 38 = .ok (.iconst 1, 1) := by decide +kernel
theorem dL_wanted_39 : decode cL_wanted 39 = .ok (.isub, 1) := by decide +kernel
theorem dL_wanted_40 : decode cL_wanted 40 = .ok (.aload_n 2, 1) := by decide +kernel
theorem dL_wanted_41 : decode cL_wanted 41 = .ok (.bipush 9, 2) := by decide +kernel
theorem dL_wanted_43 : decode cL_wanted 43 = .ok (.iload_n 0, 1) := by decide +kernel
theorem dL_wanted_44 : decode cL_wanted 44 = .ok (.imul, 1) := by decide +kernel
theorem dL_wanted_45 : decode cL_wanted 45 = .ok (.iconst 1, 1) := by decide +kernel
theorem dL_wanted_46 : decode cL_wanted 46 = .ok (.iadd, 1) := by decide +kernel
theorem dL_wanted_47 : decode cL_wanted 47 = .ok (.iaload, 1) := by decide +kernel
theorem dL_wanted_48 : decode cL_wanted 48 = .ok (.isub, 1) := by decide +kernel
theorem dL_wanted_49 : decode cL_wanted 49 = .ok (.goto 4, 3) := by decide +kernel
theorem dL_wanted_52 : decode cL_wanted 52 = .ok (.iconst 0, 1) := by decide +kernel
theorem dL_wanted_53 : decode cL_wanted 53 = .ok (.istore 4, 2) := by decide +kernel
theorem dL_wanted_55 : decode cL_wanted 55 = .ok (.iconst 0, 1) := by decide +kernel
theorem dL_wanted_56 : decode cL_wanted 56 = .ok (.istore 5, 2) := by decide +kernel
theorem dL_wanted_58 : decode cL_wanted 58 = .ok (.iconst 0, 1) := by decide +kernel
theorem dL_wanted_59 : decode cL_wanted 59 = .ok (.istore 6, 2) := by decide +kernel
theorem dL_wanted_61 : decode cL_wanted 61 = .ok (.iload 6, 2) := by decide +kernel
theorem dL_wanted_63 : decode cL_wanted 63 = .ok (.bipush 6, 2) := by decide +kernel
theorem dL_wanted_65 : decode cL_wanted 65 = .ok (.if_icmp .ge 68, 3) := by decide +kernel
theorem dL_wanted_68 : decode cL_wanted 68 = .ok (.iload 5, 2) := by decide +kernel
theorem dL_wanted_70 : decode cL_wanted 70 = .ok (.ifCond .ne 57, 3) := by decide +kernel
theorem dL_wanted_73 : decode cL_wanted 73 = .ok (.aload_n 2, 1) := by decide +kernel
theorem dL_wanted_74 : decode cL_wanted 74 = .ok (.bipush 9, 2) := by decide +kernel
theorem dL_wanted_76 : decode cL_wanted 76 = .ok (.iload 6, 2) := by decide +kernel
theorem dL_wanted_78 : decode cL_wanted 78 = .ok (.imul, 1) := by decide +kernel
theorem dL_wanted_79 : decode cL_wanted 79 = .ok (.iconst 5, 1) := by decide +kernel
theorem dL_wanted_80 : decode cL_wanted 80 = .ok (.iadd, 1) := by decide +kernel
theorem dL_wanted_81 : decode cL_wanted 81 = .ok (.iaload, 1) := by decide +kernel
theorem dL_wanted_82 : decode cL_wanted 82 = .ok (.ifCond .lt 45, 3) := by decide +kernel
theorem dL_wanted_85 : decode cL_wanted 85 = .ok (.aload_n 2, 1) := by decide +kernel
theorem dL_wanted_86 : decode cL_wanted 86 = .ok (.bipush 9, 2) := by decide +kernel
theorem dL_wanted_88 : decode cL_wanted 88 = .ok (.iload 6, 2) := by decide +kernel
theorem dL_wanted_90 : decode cL_wanted 90 = .ok (.imul, 1) := by decide +kernel
theorem dL_wanted_91 : decode cL_wanted 91 = .ok (.iconst 2, 1) := by decide +kernel
theorem dL_wanted_92 : decode cL_wanted 92 = .ok (.iadd, 1) := by decide +kernel
theorem dL_wanted_93 : decode cL_wanted 93 = .ok (.iaload, 1) := by decide +kernel
theorem dL_wanted_94 : decode cL_wanted 94 = .ok (.iload_n 0, 1) := by decide +kernel
theorem dL_wanted_95 : decode cL_wanted 95 = .ok (.if_icmp .eq 6, 3) := by decide +kernel
theorem dL_wanted_98 : decode cL_wanted 98 = .ok (.goto 29, 3) := by decide +kernel
theorem dL_wanted_101 : decode cL_wanted 101 = .ok (.iconst 1, 1) := by decide +kernel
theorem dL_wanted_102 : decode cL_wanted 102 = .ok (.istore 5, 2) := by decide +kernel
theorem dL_wanted_104 : decode cL_wanted 104 = .ok (.aload_n 2, 1) := by decide +kernel
theorem dL_wanted_105 : decode cL_wanted 105 = .ok (.bipush 9, 2) := by decide +kernel
theorem dL_wanted_107 : decode cL_wanted 107 = .ok (.iload 6, 2) := by decide +kernel
theorem dL_wanted_109 : decode cL_wanted 109 = .ok (.imul, 1) := by decide +kernel
theorem dL_wanted_110 : decode cL_wanted 110 = .ok (.iconst 5, 1) := by decide +kernel
theorem dL_wanted_111 : decode cL_wanted 111 = .ok (.iadd, 1) := by decide +kernel
theorem dL_wanted_112 : decode cL_wanted 112 = .ok (.iaload, 1) := by decide +kernel
theorem dL_wanted_113 : decode cL_wanted 113 = .ok (.iconst 1, 1) := by decide +kernel
theorem dL_wanted_114 : decode cL_wanted 114 = .ok (.iadd, 1) := by decide +kernel
theorem dL_wanted_115 : decode cL_wanted 115 = .ok (.aload_n 2, 1) := by decide +kernel
theorem dL_wanted_116 : decode cL_wanted 116 = .ok (.bipush 9, 2) := by decide +kernel
theorem dL_wanted_118 : decode cL_wanted 118 = .ok (.iload 6, 2) := by decide +kernel
theorem dL_wanted_120 : decode cL_wanted 120 = .ok (.imul, 1) := by decide +kernel
theorem dL_wanted_121 : decode cL_wanted 121 = .ok (.iconst 1, 1) := by decide +kernel
theorem dL_wanted_122 : decode cL_wanted 122 = .ok (.iadd, 1) := by decide +kernel
theorem dL_wanted_123 : decode cL_wanted 123 = .ok (.iaload, 1) := by decide +kernel
theorem dL_wanted_124 : decode cL_wanted 124 = .ok (.iadd, 1) := by decide +kernel
theorem dL_wanted_125 : decode cL_wanted 125 = .ok (.istore 4, 2) := by decide +kernel
theorem dL_wanted_127 : decode cL_wanted 127 = .ok (.iinc 6 1, 3) := by decide +kernel
theorem dL_wanted_130 : decode cL_wanted 130 = .ok (.goto (-69), 3) := by decide +kernel
theorem dL_wanted_133 : decode cL_wanted 133 = .ok (.iload 4, 2) := by decide +kernel
theorem dL_wanted_135 : decode cL_wanted 135 = .ok (.ifCond .ge 14, 3) := by decide +kernel
theorem dL_wanted_138 : decode cL_wanted 138 = .ok (.iload 4, 2) := by decide +kernel
theorem dL_wanted_140 : decode cL_wanted 140 = .ok (.aload_n 1, 1) := by decide +kernel
theorem dL_wanted_141 : decode cL_wanted 141 = .ok (.iconst 0, 1) := by decide +kernel
theorem dL_wanted_142 : decode cL_wanted 142 = .ok (.iaload, 1) := by decide +kernel
theorem dL_wanted_143 : decode cL_wanted 143 = .ok (.iadd, 1) := by decide +kernel
theorem dL_wanted_144 : decode cL_wanted 144 = .ok (.istore 4, 2) := by decide +kernel
theorem dL_wanted_146 : decode cL_wanted 146 = .ok (.goto (-13), 3) := by decide +kernel
theorem dL_wanted_149 : decode cL_wanted 149 = .ok (.iload 4, 2) := by decide +kernel
theorem dL_wanted_151 : decode cL_wanted 151 = .ok (.aload_n 1, 1) := by decide +kernel
theorem dL_wanted_152 : decode cL_wanted 152 = .ok (.iconst 0, 1) := by decide +kernel
theorem dL_wanted_153 : decode cL_wanted 153 = .ok (.iaload, 1) := by decide +kernel
theorem dL_wanted_154 : decode cL_wanted 154 = .ok (.irem, 1) := by decide +kernel
theorem dL_wanted_155 : decode cL_wanted 155 = .ok (.ireturn, 1) := by decide +kernel
set_option maxRecDepth 20000 in
theorem ggL_lay_L_refund : GoodIn wsL_lay wsL_refund := goodIn_r _ [5] (by decide +kernel) (by decide +kernel)
set_option maxRecDepth 20000 in
theorem gL_lay_L_refund : GoodIn wsL_lay (va_wsS RL 20 yL_refund wsL_refund) := goodIn_app (goodIn_of _ (by decide +kernel)) ggL_lay_L_refund
set_option maxRecDepth 20000 in
theorem ggL_lay_L_wanted : GoodIn wsL_lay wsL_wanted := goodIn_r _ [8] (by decide +kernel) (by decide +kernel)
set_option maxRecDepth 20000 in
theorem gL_lay_L_wanted : GoodIn wsL_lay (va_wsS RL 26 yL_wanted wsL_wanted) := goodIn_app (goodIn_of _ (by decide +kernel)) ggL_lay_L_wanted
set_option maxRecDepth 20000 in
theorem ggL_lay_L_at : GoodIn wsL_lay wsL_at := goodIn_r _ [11] (by decide +kernel) (by decide +kernel)
set_option maxRecDepth 20000 in
theorem gL_lay_L_at : GoodIn wsL_lay (va_wsS RL 30 yL_at wsL_at) := goodIn_app (goodIn_of _ (by decide +kernel)) ggL_lay_L_at
theorem dL_lay_0 : decode cL_lay 0 = .ok (.iconst 0, 1) := by decide +kernel
theorem dL_lay_1 : decode cL_lay 1 = .ok (.istore_n 2, 1) := by decide +kernel
theorem dL_lay_2 : decode cL_lay 2 = .ok (.bipush 6, 2) := by decide +kernel
theorem dL_lay_4 : decode cL_lay 4 = .ok (.newarray .int, 2) := by decide +kernel
theorem dL_lay_6 : decode cL_lay 6 = .ok (.astore_n 3, 1) := by decide +kernel
theorem dL_lay_7 : decode cL_lay 7 = .ok (.iconst 0, 1) := by decide +kernel
theorem dL_lay_8 : decode cL_lay 8 = .ok (.istore 4, 2) := by decide +kernel
theorem dL_lay_10 : decode cL_lay 10 = .ok (.iload 4, 2) := by decide +kernel
theorem dL_lay_12 : decode cL_lay 12 = .ok (.bipush 6, 2) := by decide +kernel
theorem dL_lay_14 : decode cL_lay 14 = .ok (.if_icmp .ge 37, 3) := by decide +kernel
theorem dL_lay_17 : decode cL_lay 17 = .ok (.iload 4, 2) := by decide +kernel
theorem dL_lay_19 : decode cL_lay 19 = .ok (.aload_n 0, 1) := by decide +kernel
theorem dL_lay_20 : decode cL_lay 20 = .ok (.aload_n 1, 1) := by decide +kernel
theorem dL_lay_21 : decode cL_lay 21 = .ok (.invokestatic 20, 3) := by decide +kernel
theorem dL_lay_24 : decode cL_lay 24 = .ok (.aload_n 1, 1) := by decide +kernel
theorem dL_lay_25 : decode cL_lay 25 = .ok (.bipush 9, 2) := by decide +kernel
theorem dL_lay_27 : decode cL_lay 27 = .ok (.iload 4, 2) := by decide +kernel
theorem dL_lay_29 : decode cL_lay 29 = .ok (.imul, 1) := by decide +kernel
theorem dL_lay_30 : decode cL_lay 30 = .ok (.iconst 5, 1) := by decide +kernel
theorem dL_lay_31 : decode cL_lay 31 = .ok (.iadd, 1) := by decide +kernel
theorem dL_lay_32 : decode cL_lay 32 = .ok (.iconst (-1), 1) := by decide +kernel
theorem dL_lay_33 : decode cL_lay 33 = .ok (.iastore, 1) := by decide +kernel
theorem dL_lay_34 : decode cL_lay 34 = .ok (.aload_n 1, 1) := by decide +kernel
theorem dL_lay_35 : decode cL_lay 35 = .ok (.bipush 9, 2) := by decide +kernel
theorem dL_lay_37 : decode cL_lay 37 = .ok (.iload 4, 2) := by decide +kernel
theorem dL_lay_39 : decode cL_lay 39 = .ok (.imul, 1) := by decide +kernel
theorem dL_lay_40 : decode cL_lay 40 = .ok (.bipush 6, 2) := by decide +kernel
theorem dL_lay_42 : decode cL_lay 42 = .ok (.iadd, 1) := by decide +kernel
theorem dL_lay_43 : decode cL_lay 43 = .ok (.iconst (-1), 1) := by decide +kernel
theorem dL_lay_44 : decode cL_lay 44 = .ok (.iastore, 1) := by decide +kernel
theorem dL_lay_45 : decode cL_lay 45 = .ok (.iinc 4 1, 3) := by decide +kernel
theorem dL_lay_48 : decode cL_lay 48 = .ok (.goto (-38), 3) := by decide +kernel
theorem dL_lay_51 : decode cL_lay 51 = .ok (.iconst 0, 1) := by decide +kernel
theorem dL_lay_52 : decode cL_lay 52 = .ok (.istore 4, 2) := by decide +kernel
theorem dL_lay_54 : decode cL_lay 54 = .ok (.iload 4, 2) := by decide +kernel
theorem dL_lay_56 : decode cL_lay 56 = .ok (.bipush 6, 2) := by decide +kernel
theorem dL_lay_58 : decode cL_lay 58 = .ok (.if_icmp .ge 200, 3) := by decide +kernel
theorem dL_lay_61 : decode cL_lay 61 = .ok (.iconst (-1), 1) := by decide +kernel
theorem dL_lay_62 : decode cL_lay 62 = .ok (.istore 5, 2) := by decide +kernel
theorem dL_lay_64 : decode cL_lay 64 = .ok (.iconst 0, 1) := by decide +kernel
theorem dL_lay_65 : decode cL_lay 65 = .ok (.istore 6, 2) := by decide +kernel
theorem dL_lay_67 : decode cL_lay 67 = .ok (.iload 6, 2) := by decide +kernel
theorem dL_lay_69 : decode cL_lay 69 = .ok (.bipush 6, 2) := by decide +kernel
theorem dL_lay_71 : decode cL_lay 71 = .ok (.if_icmp .ge 46, 3) := by decide +kernel
theorem dL_lay_74 : decode cL_lay 74 = .ok (.aload_n 3, 1) := by decide +kernel
theorem dL_lay_75 : decode cL_lay 75 = .ok (.iload 6, 2) := by decide +kernel
theorem dL_lay_77 : decode cL_lay 77 = .ok (.iaload, 1) := by decide +kernel
theorem dL_lay_78 : decode cL_lay 78 = .ok (.ifCond .ne 33, 3) := by decide +kernel
theorem dL_lay_81 : decode cL_lay 81 = .ok (.iload 5, 2) := by decide +kernel
theorem dL_lay_83 : decode cL_lay 83 = .ok (.ifCond .lt 24, 3) := by decide +kernel
theorem dL_lay_86 : decode cL_lay 86 = .ok (.aload_n 1, 1) := by decide +kernel
theorem dL_lay_87 : decode cL_lay 87 = .ok (.bipush 9, 2) := by decide +kernel
theorem dL_lay_89 : decode cL_lay 89 = .ok (.iload 6, 2) := by decide +kernel
theorem dL_lay_91 : decode cL_lay 91 = .ok (.imul, 1) := by decide +kernel
theorem dL_lay_92 : decode cL_lay 92 = .ok (.iconst 4, 1) := by decide +kernel
theorem dL_lay_93 : decode cL_lay 93 = .ok (.iadd, 1) := by decide +kernel
theorem dL_lay_94 : decode cL_lay 94 = .ok (.iaload, 1) := by decide +kernel
theorem dL_lay_95 : decode cL_lay 95 = .ok (.aload_n 1, 1) := by decide +kernel
theorem dL_lay_96 : decode cL_lay 96 = .ok (.bipush 9, 2) := by decide +kernel
theorem dL_lay_98 : decode cL_lay 98 = .ok (.iload 5, 2) := by decide +kernel
theorem dL_lay_100 : decode cL_lay 100 = .ok (.imul, 1) := by decide +kernel
theorem dL_lay_101 : decode cL_lay 101 = .ok (.iconst 4, 1) := by decide +kernel
theorem dL_lay_102 : decode cL_lay 102 = .ok (.iadd, 1) := by decide +kernel
theorem dL_lay_103 : decode cL_lay 103 = .ok (.iaload, 1) := by decide +kernel
theorem dL_lay_104 : decode cL_lay 104 = .ok (.if_icmp .le 7, 3) := by decide +kernel
theorem dL_lay_107 : decode cL_lay 107 = .ok (.iload 6, 2) := by decide +kernel
theorem dL_lay_109 : decode cL_lay 109 = .ok (.istore 5, 2) := by decide +kernel
theorem dL_lay_111 : decode cL_lay 111 = .ok (.iinc 6 1, 3) := by decide +kernel
theorem dL_lay_114 : decode cL_lay 114 = .ok (.goto (-47), 3) := by decide +kernel
theorem dL_lay_117 : decode cL_lay 117 = .ok (.aload_n 3, 1) := by decide +kernel
theorem dL_lay_118 : decode cL_lay 118 = .ok (.iload 5, 2) := by decide +kernel
theorem dL_lay_120 : decode cL_lay 120 = .ok (.iconst 1, 1) := by decide +kernel
theorem dL_lay_121 : decode cL_lay 121 = .ok (.iastore, 1) := by decide +kernel
theorem dL_lay_122 : decode cL_lay 122 = .ok (.iload 5, 2) := by decide +kernel
theorem dL_lay_124 : decode cL_lay 124 = .ok (.aload_n 0, 1) := by decide +kernel
theorem dL_lay_125 : decode cL_lay 125 = .ok (.aload_n 1, 1) := by decide +kernel
theorem dL_lay_126 : decode cL_lay 126 = .ok (.invokestatic 26, 3) := by decide +kernel
theorem dL_lay_129 : decode cL_lay 129 = .ok (.istore 6, 2) := by decide +kernel
theorem dL_lay_131 : decode cL_lay 131 = .ok (.iconst 0, 1) := by decide +kernel
theorem dL_lay_132 : decode cL_lay 132 = .ok (.istore 7, 2) := by decide +kernel
theorem dL_lay_134 : decode cL_lay 134 = .ok (.iload 7, 2) := by decide +kernel
theorem dL_lay_136 : decode cL_lay 136 = .ok (.aload_n 0, 1) := by decide +kernel
theorem dL_lay_137 : decode cL_lay 137 = .ok (.iconst 0, 1) := by decide +kernel
theorem dL_lay_138 : decode cL_lay 138 = .ok (.iaload, 1) := by decide +kernel
theorem dL_lay_139 : decode cL_lay 139 = .ok (.if_icmp .ge 25, 3) := by decide +kernel
theorem dL_lay_142 : decode cL_lay 142 = .ok (.iload 6, 2) := by decide +kernel
theorem dL_lay_144 : decode cL_lay 144 = .ok (.iload 7, 2) := by decide +kernel
theorem dL_lay_146 : decode cL_lay 146 = .ok (.iadd, 1) := by decide +kernel
theorem dL_lay_147 : decode cL_lay 147 = .ok (.aload_n 0, 1) := by decide +kernel
theorem dL_lay_148 : decode cL_lay 148 = .ok (.iconst 0, 1) := by decide +kernel
theorem dL_lay_149 : decode cL_lay 149 = .ok (.iaload, 1) := by decide +kernel
theorem dL_lay_150 : decode cL_lay 150 = .ok (.irem, 1) := by decide +kernel
theorem dL_lay_151 : decode cL_lay 151 = .ok (.aload_n 1, 1) := by decide +kernel
theorem dL_lay_152 : decode cL_lay 152 = .ok (.invokestatic 30, 3) := by decide +kernel
theorem dL_lay_155 : decode cL_lay 155 = .ok (.ifCond .lt 9, 3) := by decide +kernel
theorem dL_lay_158 : decode cL_lay 158 = .ok (.iinc 7 1, 3) := by decide +kernel
theorem dL_lay_161 : decode cL_lay 161 = .ok (.goto (-27), 3) := by decide +kernel
theorem dL_lay_164 : decode cL_lay 164 = .ok (.iload 7, 2) := by decide +kernel
theorem dL_lay_166 : decode cL_lay 166 = .ok (.aload_n 0, 1) := by decide +kernel
theorem dL_lay_167 : decode cL_lay 167 = .ok (.iconst 0, 1) := by decide +kernel
theorem dL_lay_168 : decode cL_lay 168 = .ok (.iaload, 1) := by decide +kernel
theorem dL_lay_169 : decode cL_lay 169 = .ok (.if_icmp .ne 6, 3) := by decide +kernel
theorem dL_lay_172 : decode cL_lay 172 = .ok (.goto 80, 3) := by decide +kernel
theorem dL_lay_175 : decode cL_lay 175 = .ok (.aload_n 1, 1) := by decide +kernel
theorem dL_lay_176 : decode cL_lay 176 = .ok (.bipush 9, 2) := by decide +kernel
theorem dL_lay_178 : decode cL_lay 178 = .ok (.iload 5, 2) := by decide +kernel
theorem dL_lay_180 : decode cL_lay 180 = .ok (.imul, 1) := by decide +kernel
theorem dL_lay_181 : decode cL_lay 181 = .ok (.iconst 5, 1) := by decide +kernel
theorem dL_lay_182 : decode cL_lay 182 = .ok (.iadd, 1) := by decide +kernel
theorem dL_lay_183 : decode cL_lay 183 = .ok (.iload 6, 2) := by decide +kernel
theorem dL_lay_185 : decode cL_lay 185 = .ok (.iload 7, 2) := by decide +kernel
theorem dL_lay_187 : decode cL_lay 187 = .ok (.iadd, 1) := by decide +kernel
theorem dL_lay_188 : decode cL_lay 188 = .ok (.aload_n 0, 1) := by decide +kernel
theorem dL_lay_189 : decode cL_lay 189 = .ok (.iconst 0, 1) := by decide +kernel
theorem dL_lay_190 : decode cL_lay 190 = .ok (.iaload, 1) := by decide +kernel
theorem dL_lay_191 : decode cL_lay 191 = .ok (.irem, 1) := by decide +kernel
theorem dL_lay_192 : decode cL_lay 192 = .ok (.iastore, 1) := by decide +kernel
theorem dL_lay_193 : decode cL_lay 193 = .ok (.aload_n 1, 1) := by decide +kernel
theorem dL_lay_194 : decode cL_lay 194 = .ok (.bipush 9, 2) := by decide +kernel
theorem dL_lay_196 : decode cL_lay 196 = .ok (.iload 5, 2) := by decide +kernel
theorem dL_lay_198 : decode cL_lay 198 = .ok (.imul, 1) := by decide +kernel
theorem dL_lay_199 : decode cL_lay 199 = .ok (.bipush 6, 2) := by decide +kernel
theorem dL_lay_201 : decode cL_lay 201 = .ok (.iadd, 1) := by decide +kernel
theorem dL_lay_202 : decode cL_lay 202 = .ok (.iload 7, 2) := by decide +kernel
theorem dL_lay_204 : decode cL_lay 204 = .ok (.iastore, 1) := by decide +kernel
theorem dL_lay_205 : decode cL_lay 205 = .ok (.aload_n 1, 1) := by decide +kernel
theorem dL_lay_206 : decode cL_lay 206 = .ok (.bipush 9, 2) := by decide +kernel
theorem dL_lay_208 : decode cL_lay 208 = .ok (.iload 5, 2) := by decide +kernel
theorem dL_lay_210 : decode cL_lay 210 = .ok (.imul, 1) := by decide +kernel
theorem dL_lay_211 : decode cL_lay 211 = .ok (.bipush 7, 2) := by decide +kernel
theorem dL_lay_213 : decode cL_lay 213 = .ok (.iadd, 1) := by decide +kernel
theorem dL_lay_214 : decode cL_lay 214 = .ok (.aload_n 1, 1) := by decide +kernel
theorem dL_lay_215 : decode cL_lay 215 = .ok (.bipush 9, 2) := by decide +kernel
theorem dL_lay_217 : decode cL_lay 217 = .ok (.iload 5, 2) := by decide +kernel
theorem dL_lay_219 : decode cL_lay 219 = .ok (.imul, 1) := by decide +kernel
theorem dL_lay_220 : decode cL_lay 220 = .ok (.iconst 4, 1) := by decide +kernel
theorem dL_lay_221 : decode cL_lay 221 = .ok (.iadd, 1) := by decide +kernel
theorem dL_lay_222 : decode cL_lay 222 = .ok (.iaload, 1) := by decide +kernel
theorem dL_lay_223 : decode cL_lay 223 = .ok (.iastore, 1) := by decide +kernel
theorem dL_lay_224 : decode cL_lay 224 = .ok (.aload_n 0, 1) := by decide +kernel
theorem dL_lay_225 : decode cL_lay 225 = .ok (.iconst 3, 1) := by decide +kernel
theorem dL_lay_226 : decode cL_lay 226 = .ok (.aload_n 1, 1) := by decide +kernel
theorem dL_lay_227 : decode cL_lay 227 = .ok (.bipush 9, 2) := by decide +kernel
theorem dL_lay_229 : decode cL_lay 229 = .ok (.iload 5, 2) := by decide +kernel
theorem dL_lay_231 : decode cL_lay 231 = .ok (.imul, 1) := by decide +kernel
theorem dL_lay_232 : decode cL_lay 232 = .ok (.iaload, 1) := by decide +kernel
theorem dL_lay_233 : decode cL_lay 233 = .ok (.iadd, 1) := by decide +kernel
theorem dL_lay_234 : decode cL_lay 234 = .ok (.dup2, 1) := by decide +kernel
theorem dL_lay_235 : decode cL_lay 235 = .ok (.iaload, 1) := by decide +kernel
theorem dL_lay_236 : decode cL_lay 236 = .ok (.aload_n 1, 1) := by decide +kernel
theorem dL_lay_237 : decode cL_lay 237 = .ok (.bipush 9, 2) := by decide +kernel
theorem dL_lay_239 : decode cL_lay 239 = .ok (.iload 5, 2) := by decide +kernel
theorem dL_lay_241 : decode cL_lay 241 = .ok (.imul, 1) := by decide +kernel
theorem dL_lay_242 : decode cL_lay 242 = .ok (.iconst 4, 1) := by decide +kernel
theorem dL_lay_243 : decode cL_lay 243 = .ok (.iadd, 1) := by decide +kernel
theorem dL_lay_244 : decode cL_lay 244 = .ok (.iaload, 1) := by decide +kernel
theorem dL_lay_245 : decode cL_lay 245 = .ok (.iadd, 1) := by decide +kernel
theorem dL_lay_246 : decode cL_lay 246 = .ok (.iastore, 1) := by decide +kernel
theorem dL_lay_247 : decode cL_lay 247 = .ok (.iload_n 2, 1) := by decide +kernel
theorem dL_lay_248 : decode cL_lay 248 = .ok (.iload 7, 2) := by decide +kernel
theorem dL_lay_250 : decode cL_lay 250 = .ok (.iadd, 1) := by decide +kernel
theorem dL_lay_251 : decode cL_lay 251 = .ok (.istore_n 2, 1) := by decide +kernel
theorem dL_lay_252 : decode cL_lay 252 = .ok (.iinc 4 1, 3) := by decide +kernel
theorem dL_lay_255 : decode cL_lay 255 = .ok (.goto (-201), 3) := by decide +kernel
theorem dL_lay_258 : decode cL_lay 258 = .ok (.iload_n 2, 1) := by decide +kernel
theorem dL_lay_259 : decode cL_lay 259 = .ok (.ireturn, 1) := by decide +kernel
set_option maxRecDepth 20000 in
theorem ggL_run_L_refund : GoodIn wsL_run wsL_refund := goodIn_r _ [4] (by decide +kernel) (by decide +kernel)
set_option maxRecDepth 20000 in
theorem gL_run_L_refund : GoodIn wsL_run (va_wsS RL 20 yL_refund wsL_refund) := goodIn_app (goodIn_of _ (by decide +kernel)) ggL_run_L_refund
theorem dL_run_0 : decode cL_run 0 = .ok (.iload_n 0, 1) := by decide +kernel
theorem dL_run_1 : decode cL_run 1 = .ok (.istore 4, 2) := by decide +kernel
theorem dL_run_3 : decode cL_run 3 = .ok (.iconst (-1), 1) := by decide +kernel
theorem dL_run_4 : decode cL_run 4 = .ok (.istore 5, 2) := by decide +kernel
theorem dL_run_6 : decode cL_run 6 = .ok (.iconst 0, 1) := by decide +kernel
theorem dL_run_7 : decode cL_run 7 = .ok (.istore 6, 2) := by decide +kernel
theorem dL_run_9 : decode cL_run 9 = .ok (.iload 6, 2) := by decide +kernel
theorem dL_run_11 : decode cL_run 11 = .ok (.bipush 100, 2) := by decide +kernel
theorem dL_run_13 : decode cL_run 13 = .ok (.if_icmp .ge 258, 3) := by decide +kernel
theorem dL_run_16 : decode cL_run 16 = .ok (.aload_n 1, 1) := by decide +kernel
theorem dL_run_17 : decode cL_run 17 = .ok (.iconst 2, 1) := by decide +kernel
theorem dL_run_18 : decode cL_run 18 = .ok (.iconst 3, 1) := by decide +kernel
theorem dL_run_19 : decode cL_run 19 = .ok (.iastore, 1) := by decide +kernel
theorem dL_run_20 : decode cL_run 20 = .ok (.iload 4, 2) := by decide +kernel
theorem dL_run_22 : decode cL_run 22 = .ok (.iconst 5, 1) := by decide +kernel
theorem dL_run_23 : decode cL_run 23 = .ok (.if_icmp .gt 15, 3) := by decide +kernel
theorem dL_run_26 : decode cL_run 26 = .ok (.aload_n 2, 1) := by decide +kernel
theorem dL_run_27 : decode cL_run 27 = .ok (.bipush 9, 2) := by decide +kernel
theorem dL_run_29 : decode cL_run 29 = .ok (.iload 4, 2) := by decide +kernel
theorem dL_run_31 : decode cL_run 31 = .ok (.imul, 1) := by decide +kernel
theorem dL_run_32 : decode cL_run 32 = .ok (.iconst 5, 1) := by decide +kernel
theorem dL_run_33 : decode cL_run 33 = .ok (.iadd, 1) := by decide +kernel
theorem dL_run_34 : decode cL_run 34 = .ok (.iaload, 1) := by decide +kernel
theorem dL_run_35 : decode cL_run 35 = .ok (.ifCond .ge 5, 3) := by decide +kernel
theorem dL_run_38 : decode cL_run 38 = .ok (.iconst 3, 1) := by decide +kernel
theorem dL_run_39 : decode cL_run 39 = .ok (.ireturn, 1) := by decide +kernel
theorem dL_run_40 : decode cL_run 40 = .ok (.aload_n 1, 1) := by decide +kernel
theorem dL_run_41 : decode cL_run 41 = .ok (.iconst 2, 1) := by decide +kernel
theorem dL_run_42 : decode cL_run 42 = .ok (.iconst 1, 1) := by decide +kernel
theorem dL_run_43 : decode cL_run 43 = .ok (.iastore, 1) := by decide +kernel
theorem dL_run_44 : decode cL_run 44 = .ok (.iload 5, 2) := by decide +kernel
theorem dL_run_46 : decode cL_run 46 = .ok (.ifCond .lt 31, 3) := by decide +kernel
theorem dL_run_49 : decode cL_run 49 = .ok (.aload_n 2, 1) := by decide +kernel
theorem dL_run_50 : decode cL_run 50 = .ok (.bipush 9, 2) := by decide +kernel
theorem dL_run_52 : decode cL_run 52 = .ok (.iload 4, 2) := by decide +kernel
theorem dL_run_54 : decode cL_run 54 = .ok (.imul, 1) := by decide +kernel
theorem dL_run_55 : decode cL_run 55 = .ok (.iconst 3, 1) := by decide +kernel
theorem dL_run_56 : decode cL_run 56 = .ok (.iadd, 1) := by decide +kernel
theorem dL_run_57 : decode cL_run 57 = .ok (.iaload, 1) := by decide +kernel
theorem dL_run_58 : decode cL_run 58 = .ok (.ifCond .lt 19, 3) := by decide +kernel
theorem dL_run_61 : decode cL_run 61 = .ok (.aload_n 2, 1) := by decide +kernel
theorem dL_run_62 : decode cL_run 62 = .ok (.bipush 9, 2) := by decide +kernel
theorem dL_run_64 : decode cL_run 64 = .ok (.iload 4, 2) := by decide +kernel
theorem dL_run_66 : decode cL_run 66 = .ok (.imul, 1) := by decide +kernel
theorem dL_run_67 : decode cL_run 67 = .ok (.iconst 3, 1) := by decide +kernel
theorem dL_run_68 : decode cL_run 68 = .ok (.iadd, 1) := by decide +kernel
theorem dL_run_69 : decode cL_run 69 = .ok (.iaload, 1) := by decide +kernel
theorem dL_run_70 : decode cL_run 70 = .ok (.iload 5, 2) := by decide +kernel
theorem dL_run_72 : decode cL_run 72 = .ok (.if_icmp .eq 5, 3) := by decide +kernel
theorem dL_run_75 : decode cL_run 75 = .ok (.iconst 1, 1) := by decide +kernel
theorem dL_run_76 : decode cL_run 76 = .ok (.ireturn, 1) := by decide +kernel
theorem dL_run_77 : decode cL_run 77 = .ok (.aload_n 1, 1) := by decide +kernel
theorem dL_run_78 : decode cL_run 78 = .ok (.iconst 2, 1) := by decide +kernel
theorem dL_run_79 : decode cL_run 79 = .ok (.iconst 2, 1) := by decide +kernel
theorem dL_run_80 : decode cL_run 80 = .ok (.iastore, 1) := by decide +kernel
theorem dL_run_81 : decode cL_run 81 = .ok (.iload 6, 2) := by decide +kernel
theorem dL_run_83 : decode cL_run 83 = .ok (.bipush 99, 2) := by decide +kernel
theorem dL_run_85 : decode cL_run 85 = .ok (.if_icmp .ne 5, 3) := by decide +kernel
theorem dL_run_88 : decode cL_run 88 = .ok (.iconst 2, 1) := by decide +kernel
theorem dL_run_89 : decode cL_run 89 = .ok (.ireturn, 1) := by decide +kernel
theorem dL_run_90 : decode cL_run 90 = .ok (.iconst 0, 1) := by decide +kernel
theorem dL_run_91 : decode cL_run 91 = .ok (.istore 7, 2) := by decide +kernel
theorem dL_run_93 : decode cL_run 93 = .ok (.aload_n 1, 1) := by decide +kernel
theorem dL_run_94 : decode cL_run 94 = .ok (.iconst 1, 1) := by decide +kernel
theorem dL_run_95 : decode cL_run 95 = .ok (.iaload, 1) := by decide +kernel
theorem dL_run_96 : decode cL_run 96 = .ok (.aload_n 1, 1) := by decide +kernel
theorem dL_run_97 : decode cL_run 97 = .ok (.iconst 0, 1) := by decide +kernel
theorem dL_run_98 : decode cL_run 98 = .ok (.iaload, 1) := by decide +kernel
theorem dL_run_99 : decode cL_run 99 = .ok (.irem, 1) := by decide +kernel
theorem dL_run_100 : decode cL_run 100 = .ok (.aload_n 2, 1) := by decide +kernel
theorem dL_run_101 : decode cL_run 101 = .ok (.bipush 9, 2) := by decide +kernel
theorem dL_run_103 : decode cL_run 103 = .ok (.iload 4, 2) := by decide +kernel
theorem dL_run_105 : decode cL_run 105 = .ok (.imul, 1) := by decide +kernel
theorem dL_run_106 : decode cL_run 106 = .ok (.iconst 5, 1) := by decide +kernel
theorem dL_run_107 : decode cL_run 107 = .ok (.iadd, 1) := by decide +kernel
theorem dL_run_108 : decode cL_run 108 = .ok (.iaload, 1) := by decide +kernel
theorem dL_run_109 : decode cL_run 109 = .ok (.if_icmp .eq 16, 3) := by decide +kernel
theorem dL_run_112 : decode cL_run 112 = .ok (.aload_n 1, 1) := by decide +kernel
theorem dL_run_113 : decode cL_run 113 = .ok (.iconst 1, 1) := by decide +kernel
theorem dL_run_114 : decode cL_run 114 = .ok (.dup2, 1) := by decide +kernel
theorem dL_run_115 : decode cL_run 115 = .ok (.iaload, 1) := by decide +kernel
theorem dL_run_116 : decode cL_run 116 = .ok (.iconst 1, 1) := by decide +kernel
theorem dL_run_117 : decode cL_run 117 = .ok (.iadd, 1) := by decide +kernel
theorem dL_run_118 : decode cL_run 118 = .ok (.iastore, 1) := by decide +kernel
theorem dL_run_119 : decode cL_run 119 = .ok (.iinc 7 1, 3) := by decide +kernel
theorem dL_run_122 : decode cL_run 122 = .ok (.goto (-29), 3) := by decide +kernel
theorem dL_run_125 : decode cL_run 125 = .ok (.aload_n 2, 1) := by decide +kernel
theorem dL_run_126 : decode cL_run 126 = .ok (.bipush 9, 2) := by decide +kernel
theorem dL_run_128 : decode cL_run 128 = .ok (.iload 4, 2) := by decide +kernel
theorem dL_run_130 : decode cL_run 130 = .ok (.imul, 1) := by decide +kernel
theorem dL_run_131 : decode cL_run 131 = .ok (.bipush 8, 2) := by decide +kernel
theorem dL_run_133 : decode cL_run 133 = .ok (.iadd, 1) := by decide +kernel
theorem dL_run_134 : decode cL_run 134 = .ok (.iload 7, 2) := by decide +kernel
theorem dL_run_136 : decode cL_run 136 = .ok (.iastore, 1) := by decide +kernel
theorem dL_run_137 : decode cL_run 137 = .ok (.iload 5, 2) := by decide +kernel
theorem dL_run_139 : decode cL_run 139 = .ok (.ifCond .lt 15, 3) := by decide +kernel
theorem dL_run_142 : decode cL_run 142 = .ok (.iload 7, 2) := by decide +kernel
theorem dL_run_144 : decode cL_run 144 = .ok (.ifCond .le 10, 3) := by decide +kernel
theorem dL_run_147 : decode cL_run 147 = .ok (.iload 4, 2) := by decide +kernel
theorem dL_run_149 : decode cL_run 149 = .ok (.aload_n 1, 1) := by decide +kernel
theorem dL_run_150 : decode cL_run 150 = .ok (.aload_n 2, 1) := by decide +kernel
theorem dL_run_151 : decode cL_run 151 = .ok (.invokestatic 20, 3) := by decide +kernel
theorem dL_run_154 : decode cL_run 154 = .ok (.aload_n 2, 1) := by decide +kernel
theorem dL_run_155 : decode cL_run 155 = .ok (.bipush 9, 2) := by decide +kernel
theorem dL_run_157 : decode cL_run 157 = .ok (.iload 4, 2) := by decide +kernel
theorem dL_run_159 : decode cL_run 159 = .ok (.imul, 1) := by decide +kernel
theorem dL_run_160 : decode cL_run 160 = .ok (.bipush 7, 2) := by decide +kernel
theorem dL_run_162 : decode cL_run 162 = .ok (.iadd, 1) := by decide +kernel
theorem dL_run_163 : decode cL_run 163 = .ok (.iload 5, 2) := by decide +kernel
theorem dL_run_165 : decode cL_run 165 = .ok (.ifCond .lt 7, 3) := by decide +kernel
theorem dL_run_168 : decode cL_run 168 = .ok (.iconst 0, 1) := by decide +kernel
theorem dL_run_169 : decode cL_run 169 = .ok (.goto 13, 3) := by decide +kernel
theorem dL_run_172 : decode cL_run 172 = .ok (.aload_n 2, 1) := by decide +kernel
theorem dL_run_173 : decode cL_run 173 = .ok (.bipush 9, 2) := by decide +kernel
theorem dL_run_175 : decode cL_run 175 = .ok (.iload 4, 2) := by decide +kernel
theorem dL_run_177 : decode cL_run 177 = .ok (.imul, 1) := by decide +kernel
theorem dL_run_178 : decode cL_run 178 = .ok (.bipush 7, 2) := by decide +kernel
theorem dL_run_180 : decode cL_run 180 = .ok (.iadd, 1) := by decide +kernel
theorem dL_run_181 : decode cL_run 181 = .ok (.iaload, 1) := by decide +kernel
theorem dL_run_182 : decode cL_run 182 = .ok (.iastore, 1) := by decide +kernel
theorem dL_run_183 : decode cL_run 183 = .ok (.aload_n 1, 1) := by decide +kernel
theorem dL_run_184 : decode cL_run 184 = .ok (.iconst 1, 1) := by decide +kernel
theorem dL_run_185 : decode cL_run 185 = .ok (.dup2, 1) := by decide +kernel
theorem dL_run_186 : decode cL_run 186 = .ok (.iaload, 1) := by decide +kernel
theorem dL_run_187 : decode cL_run 187 = .ok (.iconst 1, 1) := by decide +kernel
theorem dL_run_188 : decode cL_run 188 = .ok (.aload_n 2, 1) := by decide +kernel
theorem dL_run_189 : decode cL_run 189 = .ok (.bipush 9, 2) := by decide +kernel
theorem dL_run_191 : decode cL_run 191 = .ok (.iload 4, 2) := by decide +kernel
theorem dL_run_193 : decode cL_run 193 = .ok (.imul, 1) := by decide +kernel
theorem dL_run_194 : decode cL_run 194 = .ok (.iconst 1, 1) := by decide +kernel
theorem dL_run_195 : decode cL_run 195 = .ok (.iadd, 1) := by decide +kernel
theorem dL_run_196 : decode cL_run 196 = .ok (.iaload, 1) := by decide +kernel
theorem dL_run_197 : decode cL_run 197 = .ok (.iadd, 1) := by decide +kernel
theorem dL_run_198 : decode cL_run 198 = .ok (.iadd, 1) := by decide +kernel
theorem dL_run_199 : decode cL_run 199 = .ok (.iastore, 1) := by decide +kernel
theorem dL_run_200 : decode cL_run 200 = .ok (.aload_n 1, 1) := by decide +kernel
theorem dL_run_201 : decode cL_run 201 = .ok (.iconst 2, 1) := by decide +kernel
theorem dL_run_202 : decode cL_run 202 = .ok (.iconst 0, 1) := by decide +kernel
theorem dL_run_203 : decode cL_run 203 = .ok (.iastore, 1) := by decide +kernel
theorem dL_run_204 : decode cL_run 204 = .ok (.iload 4, 2) := by decide +kernel
theorem dL_run_206 : decode cL_run 206 = .ok (.istore 5, 2) := by decide +kernel
theorem dL_run_208 : decode cL_run 208 = .ok (.aload_n 2, 1) := by decide +kernel
theorem dL_run_209 : decode cL_run 209 = .ok (.bipush 9, 2) := by decide +kernel
theorem dL_run_211 : decode cL_run 211 = .ok (.iload 5, 2) := by decide +kernel
theorem dL_run_213 : decode cL_run 213 = .ok (.imul, 1) := by decide +kernel
theorem dL_run_214 : decode cL_run 214 = .ok (.iconst 2, 1) := by decide +kernel
theorem dL_run_215 : decode cL_run 215 = .ok (.iadd, 1) := by decide +kernel
theorem dL_run_216 : decode cL_run 216 = .ok (.iaload, 1) := by decide +kernel
theorem dL_run_217 : decode cL_run 217 = .ok (.istore 4, 2) := by decide +kernel
theorem dL_run_219 : decode cL_run 219 = .ok (.iload 4, 2) := by decide +kernel
theorem dL_run_221 : decode cL_run 221 = .ok (.ifCond .ge 5, 3) := by decide +kernel
theorem dL_run_224 : decode cL_run 224 = .ok (.iconst 0, 1) := by decide +kernel
theorem dL_run_225 : decode cL_run 225 = .ok (.ireturn, 1) := by decide +kernel
theorem dL_run_226 : decode cL_run 226 = .ok (.aload_n 1, 1) := by decide +kernel
theorem dL_run_227 : decode cL_run 227 = .ok (.bipush 11, 2) := by decide +kernel
theorem dL_run_229 : decode cL_run 229 = .ok (.dup2, 1) := by decide +kernel
theorem dL_run_230 : decode cL_run 230 = .ok (.iaload, 1) := by decide +kernel
theorem dL_run_231 : decode cL_run 231 = .ok (.aload_n 3, 1) := by decide +kernel
theorem dL_run_232 : decode cL_run 232 = .ok (.bipush 8, 2) := by decide +kernel
theorem dL_run_234 : decode cL_run 234 = .ok (.iload 5, 2) := by decide +kernel
theorem dL_run_236 : decode cL_run 236 = .ok (.imul, 1) := by decide +kernel
theorem dL_run_237 : decode cL_run 237 = .ok (.iload 4, 2) := by decide +kernel
theorem dL_run_239 : decode cL_run 239 = .ok (.iadd, 1) := by decide +kernel
theorem dL_run_240 : decode cL_run 240 = .ok (.iaload, 1) := by decide +kernel
theorem dL_run_241 : decode cL_run 241 = .ok (.ifCond .ne 7, 3) := by decide +kernel
theorem dL_run_244 : decode cL_run 244 = .ok (.iconst 1, 1) := by decide +kernel
theorem dL_run_245 : decode cL_run 245 = .ok (.goto 4, 3) := by decide +kernel
theorem dL_run_248 : decode cL_run 248 = .ok (.iconst 0, 1) := by decide +kernel
theorem dL_run_249 : decode cL_run 249 = .ok (.iadd, 1) := by decide +kernel
theorem dL_run_250 : decode cL_run 250 = .ok (.iastore, 1) := by decide +kernel
theorem dL_run_251 : decode cL_run 251 = .ok (.aload_n 3, 1) := by decide +kernel
theorem dL_run_252 : decode cL_run 252 = .ok (.bipush 8, 2) := by decide +kernel
theorem dL_run_254 : decode cL_run 254 = .ok (.iload 5, 2) := by decide +kernel
theorem dL_run_256 : decode cL_run 256 = .ok (.imul, 1) := by decide +kernel
theorem dL_run_257 : decode cL_run 257 = .ok (.iload 4, 2) := by decide +kernel
theorem dL_run_259 : decode cL_run 259 = .ok (.iadd, 1) := by decide +kernel
theorem dL_run_260 : decode cL_run 260 = .ok (.dup2, 1) := by decide +kernel
theorem dL_run_261 : decode cL_run 261 = .ok (.iaload, 1) := by decide +kernel
theorem dL_run_262 : decode cL_run 262 = .ok (.iconst 1, 1) := by decide +kernel
theorem dL_run_263 : decode cL_run 263 = .ok (.iadd, 1) := by decide +kernel
theorem dL_run_264 : decode cL_run 264 = .ok (.iastore, 1) := by decide +kernel
theorem dL_run_265 : decode cL_run 265 = .ok (.iinc 6 1, 3) := by decide +kernel
theorem dL_run_268 : decode cL_run 268 = .ok (.goto (-259), 3) := by decide +kernel
theorem dL_run_271 : decode cL_run 271 = .ok (.iconst (-1), 1) := by decide +kernel
theorem dL_run_272 : decode cL_run 272 = .ok (.ireturn, 1) := by decide +kernel
set_option maxRecDepth 20000 in
theorem ggL_same_X4_order : GoodIn wsL_same wsX4_order := goodIn_ca (goodIn_ca (goodIn_r _ [5, 6, 7, 8, 9, 10, 11, 12, 13, 14, 15, 16, 90, 91, 92, 93, 94, 95, 96, 97, 98, 99, 100, 101, 102, 103, 104, 105, 106, 107, 108, 109, 110, 111, 112] (by decide +kernel) (by decide +kernel)) (goodIn_sub (fun _ h => List.mem_cons_of_mem _ (List.mem_append_left _ (List.mem_append_right _ h))) (by decide +kernel))) (goodIn_sub (fun _ h => List.mem_cons_of_mem _ (List.mem_append_right _ h)) (by decide +kernel))
set_option maxRecDepth 20000 in
theorem gL_same_X4_order : GoodIn wsL_same (wsV RL 34 RX4 yX4_order wsX4_order) := goodIn_app (goodIn_of _ (by decide +kernel)) ggL_same_X4_order
set_option maxRecDepth 20000 in
theorem ggL_same_X4_waits : GoodIn wsL_same wsX4_waits := goodIn_ca (goodIn_r _ [20, 6, 7, 10, 11, 12, 13, 14, 15, 16, 21, 22, 23, 24, 25, 26, 27, 28, 29, 30, 31, 32, 33, 34, 35, 36, 37, 38, 39, 40, 90, 91, 92, 93, 94, 95, 96, 97, 98, 99, 100, 101, 102, 103, 104, 105, 106, 107, 108, 109, 110, 111, 112] (by decide +kernel) (by decide +kernel)) (goodIn_sub (fun _ h => List.mem_cons_of_mem _ (List.mem_append_left _ (List.mem_append_right _ h))) (by decide +kernel))
set_option maxRecDepth 20000 in
theorem gL_same_X4_waits : GoodIn wsL_same (wsV RL 37 RX4 yX4_waits wsX4_waits) := goodIn_app (goodIn_of _ (by decide +kernel)) ggL_same_X4_waits
set_option maxRecDepth 20000 in
theorem ggL_same_X4_at : GoodIn wsL_same wsX4_at := goodIn_ca (goodIn_r _ [44, 6, 7, 10, 45, 46, 47, 14, 48, 36, 49, 50, 51, 52, 25, 31, 12, 13, 15, 16, 90, 91, 92, 93, 94, 95, 96, 97, 98, 99, 100, 101, 102, 103, 104, 105, 106, 107, 108, 109, 110, 111, 112] (by decide +kernel) (by decide +kernel)) (goodIn_sub (fun _ h => List.mem_cons_of_mem _ (List.mem_append_left _ (List.mem_append_right _ h))) (by decide +kernel))
set_option maxRecDepth 20000 in
theorem gL_same_X4_at : GoodIn wsL_same (wsV RL 41 RX4 yX4_at wsX4_at) := goodIn_app (goodIn_of _ (by decide +kernel)) ggL_same_X4_at
set_option maxRecDepth 20000 in
theorem ggL_same_X4_author : GoodIn wsL_same wsX4_author := goodIn_ca (goodIn_ca (goodIn_r _ [56, 6, 7, 8, 9, 10, 57, 58, 4, 59, 60, 61, 62, 14, 63, 64, 31, 12, 13, 15, 16, 90, 91, 92, 93, 94, 95, 96, 97, 98, 99, 100, 101, 102, 103, 104, 105, 106, 107, 108, 109, 110, 111, 112] (by decide +kernel) (by decide +kernel)) (goodIn_sub (fun _ h => List.mem_cons_of_mem _ (List.mem_append_left _ (List.mem_append_right _ h))) (by decide +kernel))) (goodIn_sub (fun _ h => List.mem_cons_of_mem _ (List.mem_append_right _ h)) (by decide +kernel))
set_option maxRecDepth 20000 in
theorem gL_same_X4_author : GoodIn wsL_same (wsV RL 43 RX4 yX4_author wsX4_author) := goodIn_app (goodIn_of _ (by decide +kernel)) ggL_same_X4_author
set_option maxRecDepth 20000 in
theorem ggL_same_X4_jump : GoodIn wsL_same wsX4_jump := goodIn_ca (goodIn_r _ [68, 8, 9, 10, 69, 70, 71, 72, 73, 74, 75, 76, 77, 90, 91, 92, 93, 94, 95, 96, 97, 98, 99, 100, 101, 102, 103, 104, 105, 106, 107, 108, 109, 110, 111, 112, 113, 114, 115, 116] (by decide +kernel) (by decide +kernel)) (goodIn_sub (fun _ h => List.mem_cons_of_mem _ (List.mem_append_right _ h)) (by decide +kernel))
set_option maxRecDepth 20000 in
theorem gL_same_X4_jump : GoodIn wsL_same (wsV RL 46 RX4 yX4_jump wsX4_jump) := goodIn_app (goodIn_of _ (by decide +kernel)) ggL_same_X4_jump
set_option maxRecDepth 20000 in
theorem ggL_same_X4_about : GoodIn wsL_same wsX4_about := goodIn_ca (goodIn_r _ [81, 8, 9, 10, 82, 33, 34, 14, 35, 36, 37, 38, 39, 40, 83, 84, 85, 86, 25, 31, 12, 13, 15, 16, 87, 88, 4, 89, 90, 91, 92, 93, 94, 95, 96, 97, 98, 99, 100, 101, 102, 103, 104, 105, 106, 107, 108, 109, 110, 111, 112, 113, 114, 115, 116] (by decide +kernel) (by decide +kernel)) (goodIn_sub (fun _ h => List.mem_cons_of_mem _ (List.mem_append_right _ h)) (by decide +kernel))
set_option maxRecDepth 20000 in
theorem gL_same_X4_about : GoodIn wsL_same (wsV RL 49 RX4 yX4_about wsX4_about) := goodIn_app (goodIn_of _ (by decide +kernel)) ggL_same_X4_about
theorem dL_same_0 : decode cL_same 0 = .ok (.iconst 0, 1) := by decide +kernel
theorem dL_same_1 : decode cL_same 1 = .ok (.istore 4, 2) := by decide +kernel
theorem dL_same_3 : decode cL_same 3 = .ok (.iconst 0, 1) := by decide +kernel
theorem dL_same_4 : decode cL_same 4 = .ok (.istore 5, 2) := by decide +kernel
theorem dL_same_6 : decode cL_same 6 = .ok (.iconst 0, 1) := by decide +kernel
theorem dL_same_7 : decode cL_same 7 = .ok (.istore 6, 2) := by decide +kernel
theorem dL_same_9 : decode cL_same 9 = .ok (.iconst 0, 1) := by decide +kernel
theorem dL_same_10 : decode cL_same 10 = .ok (.istore 7, 2) := by decide +kernel
theorem dL_same_12 : decode cL_same 12 = .ok (.iconst 0, 1) := by decide +kernel
theorem dL_same_13 : decode cL_same 13 = .ok (.istore 8, 2) := by decide +kernel
theorem dL_same_15 : decode cL_same 15 = .ok (.iload 8, 2) := by decide +kernel
theorem dL_same_17 : decode cL_same 17 = .ok (.bipush 6, 2) := by decide +kernel
theorem dL_same_19 : decode cL_same 19 = .ok (.if_icmp .ge 157, 3) := by decide +kernel
theorem dL_same_22 : decode cL_same 22 = .ok (.bipush 9, 2) := by decide +kernel
theorem dL_same_24 : decode cL_same 24 = .ok (.iload 8, 2) := by decide +kernel
theorem dL_same_26 : decode cL_same 26 = .ok (.imul, 1) := by decide +kernel
theorem dL_same_27 : decode cL_same 27 = .ok (.istore 9, 2) := by decide +kernel
theorem dL_same_29 : decode cL_same 29 = .ok (.iconst 0, 1) := by decide +kernel
theorem dL_same_30 : decode cL_same 30 = .ok (.istore 10, 2) := by decide +kernel
theorem dL_same_32 : decode cL_same 32 = .ok (.iload 10, 2) := by decide +kernel
theorem dL_same_34 : decode cL_same 34 = .ok (.bipush 8, 2) := by decide +kernel
theorem dL_same_36 : decode cL_same 36 = .ok (.if_icmp .gt 29, 3) := by decide +kernel
theorem dL_same_39 : decode cL_same 39 = .ok (.aload_n 0, 1) := by decide +kernel
theorem dL_same_40 : decode cL_same 40 = .ok (.iload 8, 2) := by decide +kernel
theorem dL_same_42 : decode cL_same 42 = .ok (.iload 10, 2) := by decide +kernel
theorem dL_same_44 : decode cL_same 44 = .ok (.invokevirtual 34, 3) := by decide +kernel
theorem dL_same_47 : decode cL_same 47 = .ok (.aload_n 2, 1) := by decide +kernel
theorem dL_same_48 : decode cL_same 48 = .ok (.iload 9, 2) := by decide +kernel
theorem dL_same_50 : decode cL_same 50 = .ok (.iload 10, 2) := by decide +kernel
theorem dL_same_52 : decode cL_same 52 = .ok (.iadd, 1) := by decide +kernel
theorem dL_same_53 : decode cL_same 53 = .ok (.iaload, 1) := by decide +kernel
theorem dL_same_54 : decode cL_same 54 = .ok (.if_icmp .eq 5, 3) := by decide +kernel
theorem dL_same_57 : decode cL_same 57 = .ok (.iconst 0, 1) := by decide +kernel
theorem dL_same_58 : decode cL_same 58 = .ok (.ireturn, 1) := by decide +kernel
theorem dL_same_59 : decode cL_same 59 = .ok (.iinc 10 1, 3) := by decide +kernel
theorem dL_same_62 : decode cL_same 62 = .ok (.goto (-30), 3) := by decide +kernel
theorem dL_same_65 : decode cL_same 65 = .ok (.aload_n 2, 1) := by decide +kernel
theorem dL_same_66 : decode cL_same 66 = .ok (.iload 9, 2) := by decide +kernel
theorem dL_same_68 : decode cL_same 68 = .ok (.iconst 5, 1) := by decide +kernel
theorem dL_same_69 : decode cL_same 69 = .ok (.iadd, 1) := by decide +kernel
theorem dL_same_70 : decode cL_same 70 = .ok (.iaload, 1) := by decide +kernel
theorem dL_same_71 : decode cL_same 71 = .ok (.ifCond .ge 7, 3) := by decide +kernel
theorem dL_same_74 : decode cL_same 74 = .ok (.iconst (-1), 1) := by decide +kernel
theorem dL_same_75 : decode cL_same 75 = .ok (.goto 25, 3) := by decide +kernel
theorem dL_same_78 : decode cL_same 78 = .ok (.aload_n 2, 1) := by decide +kernel
theorem dL_same_79 : decode cL_same 79 = .ok (.iload 9, 2) := by decide +kernel
theorem dL_same_81 : decode cL_same 81 = .ok (.iconst 5, 1) := by decide +kernel
theorem dL_same_82 : decode cL_same 82 = .ok (.iadd, 1) := by decide +kernel
theorem dL_same_83 : decode cL_same 83 = .ok (.iaload, 1) := by decide +kernel
theorem dL_same_84 : decode cL_same 84 = .ok (.aload_n 1, 1) := by decide +kernel
theorem dL_same_85 : decode cL_same 85 = .ok (.iconst 1, 1) := by decide +kernel
theorem dL_same_86 : decode cL_same 86 = .ok (.iaload, 1) := by decide +kernel
theorem dL_same_87 : decode cL_same 87 = .ok (.aload_n 1, 1) := by decide +kernel
theorem dL_same_88 : decode cL_same 88 = .ok (.iconst 0, 1) := by decide +kernel
theorem dL_same_89 : decode cL_same 89 = .ok (.iaload, 1) := by decide +kernel
theorem dL_same_90 : decode cL_same 90 = .ok (.irem, 1) := by decide +kernel
theorem dL_same_91 : decode cL_same 91 = .ok (.isub, 1) := by decide +kernel
theorem dL_same_92 : decode cL_same 92 = .ok (.aload_n 1, 1) := by decide +kernel
theorem dL_same_93 : decode cL_same 93 = .ok (.iconst 0, 1) := by decide +kernel
theorem dL_same_94 : decode cL_same 94 = .ok (.iaload, 1) := by decide +kernel
theorem dL_same_95 : decode cL_same 95 = .ok (.iadd, 1) := by decide +kernel
theorem dL_same_96 : decode cL_same 96 = .ok (.aload_n 1, 1) := by decide +kernel
theorem dL_same_97 : decode cL_same 97 = .ok (.iconst 0, 1) := by decide +kernel
theorem dL_same_98 : decode cL_same 98 = .ok (.iaload, 1) := by decide +kernel
theorem dL_same_99 : decode cL_same 99 = .ok (.irem, 1) := by decide +kernel
theorem dL_same_100 : decode cL_same 100 = .ok (.istore 10, 2) := by decide +kernel
theorem dL_same_102 : decode cL_same 102 = .ok (.aload_n 0, 1) := by decide +kernel
theorem dL_same_103 : decode cL_same 103 = .ok (.iload 8, 2) := by decide +kernel
theorem dL_same_105 : decode cL_same 105 = .ok (.invokevirtual 37, 3) := by decide +kernel
theorem dL_same_108 : decode cL_same 108 = .ok (.iload 10, 2) := by decide +kernel
theorem dL_same_110 : decode cL_same 110 = .ok (.if_icmp .ne 27, 3) := by decide +kernel
theorem dL_same_113 : decode cL_same 113 = .ok (.aload_n 2, 1) := by decide +kernel
theorem dL_same_114 : decode cL_same 114 = .ok (.iload 9, 2) := by decide +kernel
theorem dL_same_116 : decode cL_same 116 = .ok (.iconst 5, 1) := by decide +kernel
theorem dL_same_117 : decode cL_same 117 = .ok (.iadd, 1) := by decide +kernel
theorem dL_same_118 : decode cL_same 118 = .ok (.iaload, 1) := by decide +kernel
theorem dL_same_119 : decode cL_same 119 = .ok (.ifCond .lt 20, 3) := by decide +kernel
theorem dL_same_122 : decode cL_same 122 = .ok (.aload_n 0, 1) := by decide +kernel
theorem dL_same_123 : decode cL_same 123 = .ok (.aload_n 2, 1) := by decide +kernel
theorem dL_same_124 : decode cL_same 124 = .ok (.iload 9, 2) := by decide +kernel
theorem dL_same_126 : decode cL_same 126 = .ok (.iconst 5, 1) := by decide +kernel
theorem dL_same_127 : decode cL_same 127 = .ok (.iadd, 1) := by decide +kernel
theorem dL_same_128 : decode cL_same 128 = .ok (.iaload, 1) := by decide +kernel
theorem dL_same_129 : decode cL_same 129 = .ok (.invokevirtual 41, 3) := by decide +kernel
theorem dL_same_132 : decode cL_same 132 = .ok (.iload 8, 2) := by decide +kernel
theorem dL_same_134 : decode cL_same 134 = .ok (.if_icmp .eq 5, 3) := by decide +kernel
theorem dL_same_137 : decode cL_same 137 = .ok (.iconst 0, 1) := by decide +kernel
theorem dL_same_138 : decode cL_same 138 = .ok (.ireturn, 1) := by decide +kernel
theorem dL_same_139 : decode cL_same 139 = .ok (.iload 6, 2) := by decide +kernel
theorem dL_same_141 : decode cL_same 141 = .ok (.aload_n 2, 1) := by decide +kernel
theorem dL_same_142 : decode cL_same 142 = .ok (.iload 9, 2) := by decide +kernel
theorem dL_same_144 : decode cL_same 144 = .ok (.bipush 7, 2) := by decide +kernel
theorem dL_same_146 : decode cL_same 146 = .ok (.iadd, 1) := by decide +kernel
theorem dL_same_147 : decode cL_same 147 = .ok (.iaload, 1) := by decide +kernel
theorem dL_same_148 : decode cL_same 148 = .ok (.iadd, 1) := by decide +kernel
theorem dL_same_149 : decode cL_same 149 = .ok (.istore 6, 2) := by decide +kernel
theorem dL_same_151 : decode cL_same 151 = .ok (.iload 7, 2) := by decide +kernel
theorem dL_same_153 : decode cL_same 153 = .ok (.aload_n 2, 1) := by decide +kernel
theorem dL_same_154 : decode cL_same 154 = .ok (.iload 9, 2) := by decide +kernel
theorem dL_same_156 : decode cL_same 156 = .ok (.iconst 5, 1) := by decide +kernel
theorem dL_same_157 : decode cL_same 157 = .ok (.iadd, 1) := by decide +kernel
theorem dL_same_158 : decode cL_same 158 = .ok (.iaload, 1) := by decide +kernel
theorem dL_same_159 : decode cL_same 159 = .ok (.ifCond .lt 7, 3) := by decide +kernel
theorem dL_same_162 : decode cL_same 162 = .ok (.iconst 1, 1) := by decide +kernel
theorem dL_same_163 : decode cL_same 163 = .ok (.goto 4, 3) := by decide +kernel
theorem dL_same_166 : decode cL_same 166 = .ok (.iconst 0, 1) := by decide +kernel
theorem dL_same_167 : decode cL_same 167 = .ok (.iadd, 1) := by decide +kernel
theorem dL_same_168 : decode cL_same 168 = .ok (.istore 7, 2) := by decide +kernel
theorem dL_same_170 : decode cL_same 170 = .ok (.iinc 8 1, 3) := by decide +kernel
theorem dL_same_173 : decode cL_same 173 = .ok (.goto (-158), 3) := by decide +kernel
theorem dL_same_176 : decode cL_same 176 = .ok (.iconst 0, 1) := by decide +kernel
theorem dL_same_177 : decode cL_same 177 = .ok (.istore 8, 2) := by decide +kernel
theorem dL_same_179 : decode cL_same 179 = .ok (.iload 8, 2) := by decide +kernel
theorem dL_same_181 : decode cL_same 181 = .ok (.iconst 4, 1) := by decide +kernel
theorem dL_same_182 : decode cL_same 182 = .ok (.if_icmp .ge 67, 3) := by decide +kernel
theorem dL_same_185 : decode cL_same 185 = .ok (.aload_n 0, 1) := by decide +kernel
theorem dL_same_186 : decode cL_same 186 = .ok (.iload 8, 2) := by decide +kernel
theorem dL_same_188 : decode cL_same 188 = .ok (.iconst 1, 1) := by decide +kernel
theorem dL_same_189 : decode cL_same 189 = .ok (.invokevirtual 43, 3) := by decide +kernel
theorem dL_same_192 : decode cL_same 192 = .ok (.aload_n 1, 1) := by decide +kernel
theorem dL_same_193 : decode cL_same 193 = .ok (.iconst 3, 1) := by decide +kernel
theorem dL_same_194 : decode cL_same 194 = .ok (.iload 8, 2) := by decide +kernel
theorem dL_same_196 : decode cL_same 196 = .ok (.iadd, 1) := by decide +kernel
theorem dL_same_197 : decode cL_same 197 = .ok (.iaload, 1) := by decide +kernel
theorem dL_same_198 : decode cL_same 198 = .ok (.if_icmp .ne 20, 3) := by decide +kernel
theorem dL_same_201 : decode cL_same 201 = .ok (.aload_n 0, 1) := by decide +kernel
theorem dL_same_202 : decode cL_same 202 = .ok (.iload 8, 2) := by decide +kernel
theorem dL_same_204 : decode cL_same 204 = .ok (.iconst 2, 1) := by decide +kernel
theorem dL_same_205 : decode cL_same 205 = .ok (.invokevirtual 43, 3) := by decide +kernel
theorem dL_same_208 : decode cL_same 208 = .ok (.aload_n 1, 1) := by decide +kernel
theorem dL_same_209 : decode cL_same 209 = .ok (.bipush 7, 2) := by decide +kernel
theorem dL_same_211 : decode cL_same 211 = .ok (.iload 8, 2) := by decide +kernel
theorem dL_same_213 : decode cL_same 213 = .ok (.iadd, 1) := by decide +kernel
theorem dL_same_214 : decode cL_same 214 = .ok (.iaload, 1) := by decide +kernel
theorem dL_same_215 : decode cL_same 215 = .ok (.if_icmp .eq 5, 3) := by decide +kernel
theorem dL_same_218 : decode cL_same 218 = .ok (.iconst 0, 1) := by decide +kernel
theorem dL_same_219 : decode cL_same 219 = .ok (.ireturn, 1) := by decide +kernel
theorem dL_same_220 : decode cL_same 220 = .ok (.iload 4, 2) := by decide +kernel
theorem dL_same_222 : decode cL_same 222 = .ok (.aload_n 1, 1) := by decide +kernel
theorem dL_same_223 : decode cL_same 223 = .ok (.iconst 3, 1) := by decide +kernel
theorem dL_same_224 : decode cL_same 224 = .ok (.iload 8, 2) := by decide +kernel
theorem dL_same_226 : decode cL_same 226 = .ok (.iadd, 1) := by decide +kernel
theorem dL_same_227 : decode cL_same 227 = .ok (.iaload, 1) := by decide +kernel
theorem dL_same_228 : decode cL_same 228 = .ok (.iadd, 1) := by decide +kernel
theorem dL_same_229 : decode cL_same 229 = .ok (.istore 4, 2) := by decide +kernel
theorem dL_same_231 : decode cL_same 231 = .ok (.iload 5, 2) := by decide +kernel
theorem dL_same_233 : decode cL_same 233 = .ok (.aload_n 1, 1) := by decide +kernel
theorem dL_same_234 : decode cL_same 234 = .ok (.bipush 7, 2) := by decide +kernel
theorem dL_same_236 : decode cL_same 236 = .ok (.iload 8, 2) := by decide +kernel
theorem dL_same_238 : decode cL_same 238 = .ok (.iadd, 1) := by decide +kernel
theorem dL_same_239 : decode cL_same 239 = .ok (.iaload, 1) := by decide +kernel
theorem dL_same_240 : decode cL_same 240 = .ok (.iadd, 1) := by decide +kernel
theorem dL_same_241 : decode cL_same 241 = .ok (.istore 5, 2) := by decide +kernel
theorem dL_same_243 : decode cL_same 243 = .ok (.iinc 8 1, 3) := by decide +kernel
theorem dL_same_246 : decode cL_same 246 = .ok (.goto (-67), 3) := by decide +kernel
theorem dL_same_249 : decode cL_same 249 = .ok (.iconst 0, 1) := by decide +kernel
theorem dL_same_250 : decode cL_same 250 = .ok (.istore 8, 2) := by decide +kernel
theorem dL_same_252 : decode cL_same 252 = .ok (.iload 8, 2) := by decide +kernel
theorem dL_same_254 : decode cL_same 254 = .ok (.aload_n 1, 1) := by decide +kernel
theorem dL_same_255 : decode cL_same 255 = .ok (.bipush 11, 2) := by decide +kernel
theorem dL_same_257 : decode cL_same 257 = .ok (.iaload, 1) := by decide +kernel
theorem dL_same_258 : decode cL_same 258 = .ok (.if_icmp .ge 52, 3) := by decide +kernel
theorem dL_same_261 : decode cL_same 261 = .ok (.aload_n 0, 1) := by decide +kernel
theorem dL_same_262 : decode cL_same 262 = .ok (.iload 8, 2) := by decide +kernel
theorem dL_same_264 : decode cL_same 264 = .ok (.iconst 2, 1) := by decide +kernel
theorem dL_same_265 : decode cL_same 265 = .ok (.invokevirtual 46, 3) := by decide +kernel
theorem dL_same_268 : decode cL_same 268 = .ok (.aload_n 3, 1) := by decide +kernel
theorem dL_same_269 : decode cL_same 269 = .ok (.bipush 8, 2) := by decide +kernel
theorem dL_same_271 : decode cL_same 271 = .ok (.aload_n 0, 1) := by decide +kernel
theorem dL_same_272 : decode cL_same 272 = .ok (.iload 8, 2) := by decide +kernel
theorem dL_same_274 : decode cL_same 274 = .ok (.iconst 0, 1) := by decide +kernel
theorem dL_same_275 : decode cL_same 275 = .ok (.invokevirtual 46, 3) := by decide +kernel
theorem dL_same_278 : decode cL_same 278 = .ok (.imul, 1) := by decide +kernel
theorem dL_same_279 : decode cL_same 279 = .ok (.aload_n 0, 1) := by decide +kernel
theorem dL_same_280 : decode cL_same 280 = .ok (.iload 8, 2) := by decide +kernel
theorem dL_same_282 : decode cL_same 282 = .ok (.iconst 1, 1) := by decide +kernel
theorem dL_same_283 : decode cL_same 283 = .ok (.invokevirtual 46, 3) := by decide +kernel
theorem dL_same_286 : decode cL_same 286 = .ok (.iadd, 1) := by decide +kernel
theorem dL_same_287 : decode cL_same 287 = .ok (.iaload, 1) := by decide +kernel
theorem dL_same_288 : decode cL_same 288 = .ok (.if_icmp .ne 14, 3) := by decide +kernel
theorem dL_same_291 : decode cL_same 291 = .ok (.aload_n 0, 1) := by decide +kernel
theorem dL_same_292 : decode cL_same 292 = .ok (.iload 8, 2) := by decide +kernel
theorem dL_same_294 : decode cL_same 294 = .ok (.iconst 2, 1) := by decide +kernel
theorem dL_same_295 : decode cL_same 295 = .ok (.invokevirtual 46, 3) := by decide +kernel
theorem dL_same_298 : decode cL_same 298 = .ok (.iconst 1, 1) := by decide +kernel
theorem dL_same_299 : decode cL_same 299 = .ok (.if_icmp .ge 5, 3) := by decide +kernel
theorem dL_same_302 : decode cL_same 302 = .ok (.iconst 0, 1) := by decide +kernel
theorem dL_same_303 : decode cL_same 303 = .ok (.ireturn, 1) := by decide +kernel
theorem dL_same_304 : decode cL_same 304 = .ok (.iinc 8 1, 3) := by decide +kernel
theorem dL_same_307 : decode cL_same 307 = .ok (.goto (-55), 3) := by decide +kernel
theorem dL_same_310 : decode cL_same 310 = .ok (.aload_n 0, 1) := by decide +kernel
theorem dL_same_311 : decode cL_same 311 = .ok (.iconst 0, 1) := by decide +kernel
theorem dL_same_312 : decode cL_same 312 = .ok (.invokevirtual 49, 3) := by decide +kernel
theorem dL_same_315 : decode cL_same 315 = .ok (.aload_n 1, 1) := by decide +kernel
theorem dL_same_316 : decode cL_same 316 = .ok (.iconst 0, 1) := by decide +kernel
theorem dL_same_317 : decode cL_same 317 = .ok (.iaload, 1) := by decide +kernel
theorem dL_same_318 : decode cL_same 318 = .ok (.if_icmp .ne 113, 3) := by decide +kernel
theorem dL_same_321 : decode cL_same 321 = .ok (.aload_n 0, 1) := by decide +kernel
theorem dL_same_322 : decode cL_same 322 = .ok (.iconst 2, 1) := by decide +kernel
theorem dL_same_323 : decode cL_same 323 = .ok (.invokevirtual 49, 3) := by decide +kernel
theorem dL_same_326 : decode cL_same 326 = .ok (.aload_n 1, 1) := by decide +kernel
theorem dL_same_327 : decode cL_same 327 = .ok (.iconst 1, 1) := by decide +kernel
theorem dL_same_328 : decode cL_same 328 = .ok (.iaload, 1) := by decide +kernel
theorem dL_same_329 : decode cL_same 329 = .ok (.if_icmp .ne 102, 3) := by decide +kernel
theorem dL_same_332 : decode cL_same 332 = .ok (.aload_n 0, 1) := by decide +kernel
theorem dL_same_333 : decode cL_same 333 = .ok (.iconst 3, 1) := by decide +kernel
theorem dL_same_334 : decode cL_same 334 = .ok (.invokevirtual 49, 3) := by decide +kernel
theorem dL_same_337 : decode cL_same 337 = .ok (.aload_n 1, 1) := by decide +kernel
theorem dL_same_338 : decode cL_same 338 = .ok (.iconst 1, 1) := by decide +kernel
theorem dL_same_339 : decode cL_same 339 = .ok (.iaload, 1) := by decide +kernel
theorem dL_same_340 : decode cL_same 340 = .ok (.aload_n 1, 1) := by decide +kernel
theorem dL_same_341 : decode cL_same 341 = .ok (.iconst 0, 1) := by decide +kernel
theorem dL_same_342 : decode cL_same 342 = .ok (.iaload, 1) := by decide +kernel
theorem dL_same_343 : decode cL_same 343 = .ok (.irem, 1) := by decide +kernel
theorem dL_same_344 : decode cL_same 344 = .ok (.if_icmp .ne 87, 3) := by decide +kernel
theorem dL_same_347 : decode cL_same 347 = .ok (.aload_n 0, 1) := by decide +kernel
theorem dL_same_348 : decode cL_same 348 = .ok (.iconst 4, 1) := by decide +kernel
theorem dL_same_349 : decode cL_same 349 = .ok (.invokevirtual 49, 3) := by decide +kernel
theorem dL_same_352 : decode cL_same 352 = .ok (.iload 7, 2) := by decide +kernel
theorem dL_same_354 : decode cL_same 354 = .ok (.if_icmp .ne 77, 3) := by decide +kernel
theorem dL_same_357 : decode cL_same 357 = .ok (.aload_n 0, 1) := by decide +kernel
theorem dL_same_358 : decode cL_same 358 = .ok (.iconst 5, 1) := by decide +kernel
theorem dL_same_359 : decode cL_same 359 = .ok (.invokevirtual 49, 3) := by decide +kernel
theorem dL_same_362 : decode cL_same 362 = .ok (.iload 4, 2) := by decide +kernel
theorem dL_same_364 : decode cL_same 364 = .ok (.if_icmp .ne 67, 3) := by decide +kernel
theorem dL_same_367 : decode cL_same 367 = .ok (.aload_n 0, 1) := by decide +kernel
theorem dL_same_368 : decode cL_same 368 = .ok (.bipush 6, 2) := by decide +kernel
theorem dL_same_370 : decode cL_same 370 = .ok (.invokevirtual 49, 3) := by decide +kernel
theorem dL_same_373 : decode cL_same 373 = .ok (.iload 5, 2) := by decide +kernel
theorem dL_same_375 : decode cL_same 375 = .ok (.if_icmp .ne 56, 3) := by decide +kernel
theorem dL_same_378 : decode cL_same 378 = .ok (.aload_n 0, 1) := by decide +kernel
theorem dL_same_379 : decode cL_same 379 = .ok (.bipush 7, 2) := by decide +kernel
theorem dL_same_381 : decode cL_same 381 = .ok (.invokevirtual 49, 3) := by decide +kernel
theorem dL_same_384 : decode cL_same 384 = .ok (.iload 6, 2) := by decide +kernel
theorem dL_same_386 : decode cL_same 386 = .ok (.if_icmp .ne 45, 3) := by decide +kernel
theorem dL_same_389 : decode cL_same 389 = .ok (.aload_n 0, 1) := by decide +kernel
theorem dL_same_390 : decode cL_same 390 = .ok (.bipush 8, 2) := by decide +kernel
theorem dL_same_392 : decode cL_same 392 = .ok (.invokevirtual 49, 3) := by decide +kernel
theorem dL_same_395 : decode cL_same 395 = .ok (.aload_n 1, 1) := by decide +kernel
theorem dL_same_396 : decode cL_same 396 = .ok (.bipush 11, 2) := by decide +kernel
theorem dL_same_398 : decode cL_same 398 = .ok (.iaload, 1) := by decide +kernel
theorem dL_same_399 : decode cL_same 399 = .ok (.if_icmp .ne 32, 3) := by decide +kernel
theorem dL_same_402 : decode cL_same 402 = .ok (.aload_n 0, 1) := by decide +kernel
theorem dL_same_403 : decode cL_same 403 = .ok (.bipush 9, 2) := by decide +kernel
theorem dL_same_405 : decode cL_same 405 = .ok (.invokevirtual 49, 3) := by decide +kernel
theorem dL_same_408 : decode cL_same 408 = .ok (.aload_n 1, 1) := by decide +kernel
theorem dL_same_409 : decode cL_same 409 = .ok (.iconst 2, 1) := by decide +kernel
theorem dL_same_410 : decode cL_same 410 = .ok (.iaload, 1) := by decide +kernel
theorem dL_same_411 : decode cL_same 411 = .ok (.if_icmp .ne 20, 3) := by decide +kernel
theorem dL_same_414 : decode cL_same 414 = .ok (.aload_n 0, 1) := by decide +kernel
theorem dL_same_415 : decode cL_same 415 = .ok (.aload_n 1, 1) := by decide +kernel
theorem dL_same_416 : decode cL_same 416 = .ok (.bipush 11, 2) := by decide +kernel
theorem dL_same_418 : decode cL_same 418 = .ok (.iaload, 1) := by decide +kernel
theorem dL_same_419 : decode cL_same 419 = .ok (.iconst 0, 1) := by decide +kernel
theorem dL_same_420 : decode cL_same 420 = .ok (.invokevirtual 46, 3) := by decide +kernel
theorem dL_same_423 : decode cL_same 423 = .ok (.iconst (-1), 1) := by decide +kernel
theorem dL_same_424 : decode cL_same 424 = .ok (.if_icmp .ne 7, 3) := by decide +kernel
theorem dL_same_427 : decode cL_same 427 = .ok (.iconst 1, 1) := by decide +kernel
theorem dL_same_428 : decode cL_same 428 = .ok (.goto 4, 3) := by decide +kernel
theorem dL_same_431 : decode cL_same 431 = .ok (.iconst 0, 1) := by decide +kernel
theorem dL_same_432 : decode cL_same 432 = .ok (.ireturn, 1) := by decide +kernel
theorem dL_copy_0 : decode cL_copy 0 = .ok (.iconst 0, 1) := by decide +kernel
theorem dL_copy_1 : decode cL_copy 1 = .ok (.istore_n 2, 1) := by decide +kernel
theorem dL_copy_2 : decode cL_copy 2 = .ok (.iload_n 2, 1) := by decide +kernel
theorem dL_copy_3 : decode cL_copy 3 = .ok (.aload_n 0, 1) := by decide +kernel
theorem dL_copy_4 : decode cL_copy 4 = .ok (.arraylength, 1) := by decide +kernel
theorem dL_copy_5 : decode cL_copy 5 = .ok (.if_icmp .ge 15, 3) := by decide +kernel
theorem dL_copy_8 : decode cL_copy 8 = .ok (.aload_n 1, 1) := by decide +kernel
theorem dL_copy_9 : decode cL_copy 9 = .ok (.iload_n 2, 1) := by decide +kernel
theorem dL_copy_10 : decode cL_copy 10 = .ok (.aload_n 0, 1) := by decide +kernel
theorem dL_copy_11 : decode cL_copy 11 = .ok (.iload_n 2, 1) := by decide +kernel
theorem dL_copy_12 : decode cL_copy 12 = .ok (.iaload, 1) := by decide +kernel
theorem dL_copy_13 : decode cL_copy 13 = .ok (.iastore, 1) := by decide +kernel
theorem dL_copy_14 : decode cL_copy 14 = .ok (.iinc 2 1, 3) := by decide +kernel
theorem dL_copy_17 : decode cL_copy 17 = .ok (.goto (-15), 3) := by decide +kernel
theorem dL_copy_20 : decode cL_copy 20 = .ok (.return_, 1) := by decide +kernel
set_option maxRecDepth 20000 in
theorem ggL_would_L_copy : GoodIn wsL_would wsL_copy := goodIn_r _ [4] (by decide +kernel) (by decide +kernel)
set_option maxRecDepth 20000 in
theorem gL_would_L_copy : GoodIn wsL_would (va_wsS RL 52 yL_copy wsL_copy) := goodIn_app (goodIn_of _ (by decide +kernel)) ggL_would_L_copy
set_option maxRecDepth 20000 in
theorem ggL_would_L_run : GoodIn wsL_would wsL_run := goodIn_r _ [7, 8, 9, 3, 10] (by decide +kernel) (by decide +kernel)
set_option maxRecDepth 20000 in
theorem gL_would_L_run : GoodIn wsL_would (va_wsS RL 56 yL_run wsL_run) := goodIn_app (goodIn_of _ (by decide +kernel)) ggL_would_L_run
set_option maxRecDepth 20000 in
theorem ggL_would_X4_time : GoodIn wsL_would wsX4_time := goodIn_ca (goodIn_r _ [15, 16, 17, 18, 19, 20, 21, 22, 23, 24, 25, 26, 27, 14, 28, 29, 30, 31, 32, 33, 34, 35, 36, 37, 38, 39, 40, 41, 42, 43, 44, 45, 46, 47, 48, 49, 50, 51, 52, 53, 54, 55, 56, 57, 58, 59, 60, 61, 62, 63, 64, 65, 66, 67, 68, 69, 70, 71, 72, 73, 74, 75, 76, 77, 78, 79, 80, 81, 82, 83, 84, 85, 86, 87, 88, 89, 90, 91, 147, 148, 149, 150, 151, 152, 153, 154, 155, 156, 157, 158, 159, 160, 161, 162, 163, 164, 165, 166, 167, 168, 169, 170, 171, 172, 173] (by decide +kernel) (by decide +kernel)) (goodIn_sub (fun _ h => List.mem_cons_of_mem _ (List.mem_append_right _ h)) (by decide +kernel))
set_option maxRecDepth 20000 in
theorem gL_would_X4_time : GoodIn wsL_would (wsV RL 60 RX4 yX4_time wsX4_time) := goodIn_app (goodIn_of _ (by decide +kernel)) ggL_would_X4_time
set_option maxRecDepth 20000 in
theorem ggL_would_L_lay : GoodIn wsL_would wsL_lay := goodIn_r _ [94, 95, 8, 9, 3, 10, 96, 97, 98, 99, 100, 101] (by decide +kernel) (by decide +kernel)
set_option maxRecDepth 20000 in
theorem gL_would_L_lay : GoodIn wsL_would (va_wsS RL 63 yL_lay wsL_lay) := goodIn_app (goodIn_of _ (by decide +kernel)) ggL_would_L_lay
set_option maxRecDepth 20000 in
theorem ggL_would_X4_saves : GoodIn wsL_would wsX4_saves := goodIn_ca (goodIn_r _ [105, 16, 17, 18, 106, 19, 20, 21, 22, 23, 24, 30, 31, 32, 33, 34, 35, 36, 37, 38, 39, 40, 41, 42, 43, 44, 45, 46, 47, 48, 49, 50, 51, 52, 53, 54, 55, 56, 57, 58, 59, 60, 107, 108, 109, 110, 111, 112, 113, 114, 69, 115, 116, 117, 118, 82, 83, 84, 85, 86, 14, 87, 119, 120, 121, 122, 123, 124, 125, 126, 127, 128, 129, 130, 74, 75, 76, 77, 78, 79, 80, 81, 65, 66, 67, 68, 131, 132, 133, 134, 25, 26, 27, 28, 29, 61, 62, 63, 64, 70, 71, 72, 73, 88, 89, 90, 91, 147, 148, 149, 150, 151, 152, 153, 154, 155, 156, 157, 158, 159, 160, 161, 162, 163, 164, 165, 166, 167, 168, 169, 170, 171, 172, 173] (by decide +kernel) (by decide +kernel)) (goodIn_sub (fun _ h => List.mem_cons_of_mem _ (List.mem_append_right _ h)) (by decide +kernel))
set_option maxRecDepth 20000 in
theorem gL_would_X4_saves : GoodIn wsL_would (wsV RL 67 RX4 yX4_saves wsX4_saves) := goodIn_app (goodIn_of _ (by decide +kernel)) ggL_would_X4_saves
set_option maxRecDepth 20000 in
theorem ggL_would_L_at : GoodIn wsL_would wsL_at := goodIn_r _ [101] (by decide +kernel) (by decide +kernel)
set_option maxRecDepth 20000 in
theorem gL_would_L_at : GoodIn wsL_would (va_wsS RL 30 yL_at wsL_at) := goodIn_app (goodIn_of _ (by decide +kernel)) ggL_would_L_at
set_option maxRecDepth 20000 in
theorem ggL_would_X4_bestPlace : GoodIn wsL_would wsX4_bestPlace := goodIn_ca (goodIn_r _ [138, 16, 17, 18, 106, 19, 20, 21, 22, 23, 24, 30, 31, 32, 33, 34, 35, 36, 37, 38, 39, 40, 41, 42, 43, 44, 45, 46, 47, 48, 49, 50, 51, 52, 53, 54, 55, 56, 57, 58, 59, 60, 139, 140, 141, 142, 131, 132, 133, 134, 69, 25, 26, 27, 14, 28, 29, 61, 62, 63, 64, 65, 66, 67, 68, 70, 71, 72, 73, 74, 75, 76, 77, 78, 79, 80, 81, 82, 83, 84, 85, 86, 87, 88, 89, 90, 91, 147, 148, 149, 150, 151, 152, 153, 154, 155, 156, 157, 158, 159, 160, 161, 162, 163, 164, 165, 166, 167, 168, 169, 170, 171, 172, 173] (by decide +kernel) (by decide +kernel)) (goodIn_sub (fun _ h => List.mem_cons_of_mem _ (List.mem_append_right _ h)) (by decide +kernel))
set_option maxRecDepth 20000 in
theorem gL_would_X4_bestPlace : GoodIn wsL_would (wsV RL 70 RX4 yX4_bestPlace wsX4_bestPlace) := goodIn_app (goodIn_of _ (by decide +kernel)) ggL_would_X4_bestPlace
set_option maxRecDepth 20000 in
theorem ggL_would_X4_leastBribe : GoodIn wsL_would wsX4_leastBribe := goodIn_ca (goodIn_r _ [146, 16, 17, 18, 106, 19, 20, 21, 22, 23, 24, 30, 31, 32, 33, 34, 35, 36, 37, 38, 39, 40, 41, 42, 43, 44, 45, 46, 47, 48, 49, 50, 51, 52, 53, 54, 55, 56, 57, 58, 59, 60, 107, 108, 109, 110, 111, 112, 113, 114, 69, 115, 116, 117, 118, 82, 83, 84, 85, 86, 14, 87, 119, 120, 121, 122, 123, 124, 125, 126, 127, 128, 129, 130, 74, 75, 76, 77, 78, 79, 80, 81, 65, 66, 67, 68, 131, 132, 133, 134, 147, 148, 149, 150, 151, 152, 153, 154, 155, 156, 157, 158, 159, 160, 161, 162, 163, 164, 165, 166, 167, 168, 169, 170, 171, 172, 173] (by decide +kernel) (by decide +kernel)) (goodIn_sub (fun _ h => List.mem_cons_of_mem _ (List.mem_append_right _ h)) (by decide +kernel))
set_option maxRecDepth 20000 in
theorem gL_would_X4_leastBribe : GoodIn wsL_would (wsV RL 73 RX4 yX4_leastBribe wsX4_leastBribe) := goodIn_app (goodIn_of _ (by decide +kernel)) ggL_would_X4_leastBribe
theorem dL_would_0 : decode cL_would 0 = .ok (.aload_n 3, 1) := by decide +kernel
theorem dL_would_1 : decode cL_would 1 = .ok (.aload 6, 2) := by decide +kernel
theorem dL_would_3 : decode cL_would 3 = .ok (.invokestatic 52, 3) := by decide +kernel
theorem dL_would_6 : decode cL_would 6 = .ok (.aload 4, 2) := by decide +kernel
theorem dL_would_8 : decode cL_would 8 = .ok (.aload 7, 2) := by decide +kernel
theorem dL_would_10 : decode cL_would 10 = .ok (.invokestatic 52, 3) := by decide +kernel
theorem dL_would_13 : decode cL_would 13 = .ok (.aload 5, 2) := by decide +kernel
theorem dL_would_15 : decode cL_would 15 = .ok (.aload 8, 2) := by decide +kernel
theorem dL_would_17 : decode cL_would 17 = .ok (.invokestatic 52, 3) := by decide +kernel
theorem dL_would_20 : decode cL_would 20 = .ok (.iload_n 2, 1) := by decide +kernel
theorem dL_would_21 : decode cL_would 21 = .ok (.aload 6, 2) := by decide +kernel
theorem dL_would_23 : decode cL_would 23 = .ok (.aload 7, 2) := by decide +kernel
theorem dL_would_25 : decode cL_would 25 = .ok (.aload 8, 2) := by decide +kernel
theorem dL_would_27 : decode cL_would 27 = .ok (.invokestatic 56, 3) := by decide +kernel
theorem dL_would_30 : decode cL_would 30 = .ok (.pop, 1) := by decide +kernel
theorem dL_would_31 : decode cL_would 31 = .ok (.aload 6, 2) := by decide +kernel
theorem dL_would_33 : decode cL_would 33 = .ok (.iconst 1, 1) := by decide +kernel
theorem dL_would_34 : decode cL_would 34 = .ok (.iaload, 1) := by decide +kernel
theorem dL_would_35 : decode cL_would 35 = .ok (.aload_n 3, 1) := by decide +kernel
theorem dL_would_36 : decode cL_would 36 = .ok (.iconst 1, 1) := by decide +kernel
theorem dL_would_37 : decode cL_would 37 = .ok (.iaload, 1) := by decide +kernel
theorem dL_would_38 : decode cL_would 38 = .ok (.isub, 1) := by decide +kernel
theorem dL_would_39 : decode cL_would 39 = .ok (.istore 9, 2) := by decide +kernel
theorem dL_would_41 : decode cL_would 41 = .ok (.aload_n 0, 1) := by decide +kernel
theorem dL_would_42 : decode cL_would 42 = .ok (.iload_n 2, 1) := by decide +kernel
theorem dL_would_43 : decode cL_would 43 = .ok (.invokevirtual 60, 3) := by decide +kernel
theorem dL_would_46 : decode cL_would 46 = .ok (.iload 9, 2) := by decide +kernel
theorem dL_would_48 : decode cL_would 48 = .ok (.if_icmp .eq 5, 3) := by decide +kernel
theorem dL_would_51 : decode cL_would 51 = .ok (.iconst 0, 1) := by decide +kernel
theorem dL_would_52 : decode cL_would 52 = .ok (.ireturn, 1) := by decide +kernel
theorem dL_would_53 : decode cL_would 53 = .ok (.aload_n 3, 1) := by decide +kernel
theorem dL_would_54 : decode cL_would 54 = .ok (.aload 6, 2) := by decide +kernel
theorem dL_would_56 : decode cL_would 56 = .ok (.invokestatic 52, 3) := by decide +kernel
theorem dL_would_59 : decode cL_would 59 = .ok (.aload 4, 2) := by decide +kernel
theorem dL_would_61 : decode cL_would 61 = .ok (.aload 7, 2) := by decide +kernel
theorem dL_would_63 : decode cL_would 63 = .ok (.invokestatic 52, 3) := by decide +kernel
theorem dL_would_66 : decode cL_would 66 = .ok (.aload 6, 2) := by decide +kernel
theorem dL_would_68 : decode cL_would 68 = .ok (.aload 7, 2) := by decide +kernel
theorem dL_would_70 : decode cL_would 70 = .ok (.invokestatic 63, 3) := by decide +kernel
theorem dL_would_73 : decode cL_would 73 = .ok (.pop, 1) := by decide +kernel
theorem dL_would_74 : decode cL_would 74 = .ok (.iload_n 2, 1) := by decide +kernel
theorem dL_would_75 : decode cL_would 75 = .ok (.aload 6, 2) := by decide +kernel
theorem dL_would_77 : decode cL_would 77 = .ok (.aload 7, 2) := by decide +kernel
theorem dL_would_79 : decode cL_would 79 = .ok (.aload 8, 2) := by decide +kernel
theorem dL_would_81 : decode cL_would 81 = .ok (.invokestatic 56, 3) := by decide +kernel
theorem dL_would_84 : decode cL_would 84 = .ok (.pop, 1) := by decide +kernel
theorem dL_would_85 : decode cL_would 85 = .ok (.aload_n 0, 1) := by decide +kernel
theorem dL_would_86 : decode cL_would 86 = .ok (.iload_n 2, 1) := by decide +kernel
theorem dL_would_87 : decode cL_would 87 = .ok (.invokevirtual 67, 3) := by decide +kernel
theorem dL_would_90 : decode cL_would 90 = .ok (.iload 9, 2) := by decide +kernel
theorem dL_would_92 : decode cL_would 92 = .ok (.aload 6, 2) := by decide +kernel
theorem dL_would_94 : decode cL_would 94 = .ok (.iconst 1, 1) := by decide +kernel
theorem dL_would_95 : decode cL_would 95 = .ok (.iaload, 1) := by decide +kernel
theorem dL_would_96 : decode cL_would 96 = .ok (.aload_n 3, 1) := by decide +kernel
theorem dL_would_97 : decode cL_would 97 = .ok (.iconst 1, 1) := by decide +kernel
theorem dL_would_98 : decode cL_would 98 = .ok (.iaload, 1) := by decide +kernel
theorem dL_would_99 : decode cL_would 99 = .ok (.isub, 1) := by decide +kernel
theorem dL_would_100 : decode cL_would 100 = .ok (.isub, 1) := by decide +kernel
theorem dL_would_101 : decode cL_would 101 = .ok (.if_icmp .eq 5, 3) := by decide +kernel
theorem dL_would_104 : decode cL_would 104 = .ok (.iconst 0, 1) := by decide +kernel
theorem dL_would_105 : decode cL_would 105 = .ok (.ireturn, 1) := by decide +kernel
theorem dL_would_106 : decode cL_would 106 = .ok (.iconst (-1), 1) := by decide +kernel
theorem dL_would_107 : decode cL_would 107 = .ok (.istore 10, 2) := by decide +kernel
theorem dL_would_109 : decode cL_would 109 = .ok (.iconst 0, 1) := by decide +kernel
theorem dL_would_110 : decode cL_would 110 = .ok (.istore 11, 2) := by decide +kernel
theorem dL_would_112 : decode cL_would 112 = .ok (.iconst 0, 1) := by decide +kernel
theorem dL_would_113 : decode cL_would 113 = .ok (.istore 12, 2) := by decide +kernel
theorem dL_would_115 : decode cL_would 115 = .ok (.iload 12, 2) := by decide +kernel
theorem dL_would_117 : decode cL_would 117 = .ok (.aload_n 3, 1) := by decide +kernel
theorem dL_would_118 : decode cL_would 118 = .ok (.iconst 0, 1) := by decide +kernel
theorem dL_would_119 : decode cL_would 119 = .ok (.iaload, 1) := by decide +kernel
theorem dL_would_120 : decode cL_would 120 = .ok (.if_icmp .ge 115, 3) := by decide +kernel
theorem dL_would_123 : decode cL_would 123 = .ok (.iload 12, 2) := by decide +kernel
theorem dL_would_125 : decode cL_would 125 = .ok (.aload 4, 2) := by decide +kernel
theorem dL_would_127 : decode cL_would 127 = .ok (.invokestatic 30, 3) := by decide +kernel
theorem dL_would_130 : decode cL_would 130 = .ok (.ifCond .lt 17, 3) := by decide +kernel
theorem dL_would_133 : decode cL_would 133 = .ok (.iload 12, 2) := by decide +kernel
theorem dL_would_135 : decode cL_would 135 = .ok (.aload 4, 2) := by decide +kernel
theorem dL_would_137 : decode cL_would 137 = .ok (.invokestatic 30, 3) := by decide +kernel
theorem dL_would_140 : decode cL_would 140 = .ok (.iload_n 1, 1) := by decide +kernel
theorem dL_would_141 : decode cL_would 141 = .ok (.if_icmp .eq 6, 3) := by decide +kernel
theorem dL_would_144 : decode cL_would 144 = .ok (.goto 85, 3) := by decide +kernel
theorem dL_would_147 : decode cL_would 147 = .ok (.aload_n 3, 1) := by decide +kernel
theorem dL_would_148 : decode cL_would 148 = .ok (.aload 6, 2) := by decide +kernel
theorem dL_would_150 : decode cL_would 150 = .ok (.invokestatic 52, 3) := by decide +kernel
theorem dL_would_153 : decode cL_would 153 = .ok (.aload 4, 2) := by decide +kernel
theorem dL_would_155 : decode cL_would 155 = .ok (.aload 7, 2) := by decide +kernel
theorem dL_would_157 : decode cL_would 157 = .ok (.invokestatic 52, 3) := by decide +kernel
theorem dL_would_160 : decode cL_would 160 = .ok (.aload 7, 2) := by decide +kernel
theorem dL_would_162 : decode cL_would 162 = .ok (.bipush 9, 2) := by decide +kernel
theorem dL_would_164 : decode cL_would 164 = .ok (.iload_n 1, 1) := by decide +kernel
theorem dL_would_165 : decode cL_would 165 = .ok (.imul, 1) := by decide +kernel
theorem dL_would_166 : decode cL_would 166 = .ok (.iconst 5, 1) := by decide +kernel
theorem dL_would_167 : decode cL_would 167 = .ok (.iadd, 1) := by decide +kernel
theorem dL_would_168 : decode cL_would 168 = .ok (.iload 12, 2) := by decide +kernel
theorem dL_would_170 : decode cL_would 170 = .ok (.iastore, 1) := by decide +kernel
theorem dL_would_171 : decode cL_would 171 = .ok (.iload_n 2, 1) := by decide +kernel
theorem dL_would_172 : decode cL_would 172 = .ok (.aload 6, 2) := by decide +kernel
theorem dL_would_174 : decode cL_would 174 = .ok (.aload 7, 2) := by decide +kernel
theorem dL_would_176 : decode cL_would 176 = .ok (.aload 8, 2) := by decide +kernel
theorem dL_would_178 : decode cL_would 178 = .ok (.invokestatic 56, 3) := by decide +kernel
theorem dL_would_181 : decode cL_would 181 = .ok (.pop, 1) := by decide +kernel
theorem dL_would_182 : decode cL_would 182 = .ok (.aload 6, 2) := by decide +kernel
theorem dL_would_184 : decode cL_would 184 = .ok (.iconst 1, 1) := by decide +kernel
theorem dL_would_185 : decode cL_would 185 = .ok (.iaload, 1) := by decide +kernel
theorem dL_would_186 : decode cL_would 186 = .ok (.aload_n 3, 1) := by decide +kernel
theorem dL_would_187 : decode cL_would 187 = .ok (.iconst 1, 1) := by decide +kernel
theorem dL_would_188 : decode cL_would 188 = .ok (.iaload, 1) := by decide +kernel
theorem dL_would_189 : decode cL_would 189 = .ok (.isub, 1) := by decide +kernel
theorem dL_would_190 : decode cL_would 190 = .ok (.istore 13, 2) := by decide +kernel
theorem dL_would_192 : decode cL_would 192 = .ok (.iload 10, 2) := by decide +kernel
theorem dL_would_194 : decode cL_would 194 = .ok (.ifCond .lt 10, 3) := by decide +kernel
theorem dL_would_197 : decode cL_would 197 = .ok (.iload 13, 2) := by decide +kernel
theorem dL_would_199 : decode cL_would 199 = .ok (.iload 11, 2) := by decide +kernel
theorem dL_would_201 : decode cL_would 201 = .ok (.if_icmp .ge 8, 3) := by decide +kernel
theorem dL_would_204 : decode cL_would 204 = .ok (.iload 12, 2) := by decide +kernel
theorem dL_would_206 : decode cL_would 206 = .ok (.goto 5, 3) := by decide +kernel
theorem dL_would_209 : decode cL_would 209 = .ok (.iload 10, 2) := by decide +kernel
theorem dL_would_211 : decode cL_would 211 = .ok (.istore 10, 2) := by decide +kernel
theorem dL_would_213 : decode cL_would 213 = .ok (.iload 10, 2) := by decide +kernel
theorem dL_would_215 : decode cL_would 215 = .ok (.iload 12, 2) := by decide +kernel
theorem dL_would_217 : decode cL_would 217 = .ok (.if_icmp .ne 8, 3) := by decide +kernel
theorem dL_would_220 : decode cL_would 220 = .ok (.iload 13, 2) := by decide +kernel
theorem dL_would_222 : decode cL_would 222 = .ok (.goto 5, 3) := by decide +kernel
theorem dL_would_225 : decode cL_would 225 = .ok (.iload 11, 2) := by decide +kernel
theorem dL_would_227 : decode cL_would 227 = .ok (.istore 11, 2) := by decide +kernel
theorem dL_would_229 : decode cL_would 229 = .ok (.iinc 12 1, 3) := by decide +kernel
theorem dL_would_232 : decode cL_would 232 = .ok (.goto (-117), 3) := by decide +kernel
theorem dL_would_235 : decode cL_would 235 = .ok (.aload_n 0, 1) := by decide +kernel
theorem dL_would_236 : decode cL_would 236 = .ok (.iload_n 1, 1) := by decide +kernel
theorem dL_would_237 : decode cL_would 237 = .ok (.iload_n 2, 1) := by decide +kernel
theorem dL_would_238 : decode cL_would 238 = .ok (.invokevirtual 70, 3) := by decide +kernel
theorem dL_would_241 : decode cL_would 241 = .ok (.iload 10, 2) := by decide +kernel
theorem dL_would_243 : decode cL_would 243 = .ok (.if_icmp .eq 5, 3) := by decide +kernel
theorem dL_would_246 : decode cL_would 246 = .ok (.iconst 0, 1) := by decide +kernel
theorem dL_would_247 : decode cL_would 247 = .ok (.ireturn, 1) := by decide +kernel
theorem dL_would_248 : decode cL_would 248 = .ok (.iconst (-1), 1) := by decide +kernel
theorem dL_would_249 : decode cL_would 249 = .ok (.istore 12, 2) := by decide +kernel
theorem dL_would_251 : decode cL_would 251 = .ok (.bipush 99, 2) := by decide +kernel
theorem dL_would_253 : decode cL_would 253 = .ok (.istore 13, 2) := by decide +kernel
theorem dL_would_255 : decode cL_would 255 = .ok (.iload 13, 2) := by decide +kernel
theorem dL_would_257 : decode cL_would 257 = .ok (.ifCond .lt 63, 3) := by decide +kernel
theorem dL_would_260 : decode cL_would 260 = .ok (.aload_n 3, 1) := by decide +kernel
theorem dL_would_261 : decode cL_would 261 = .ok (.aload 6, 2) := by decide +kernel
theorem dL_would_263 : decode cL_would 263 = .ok (.invokestatic 52, 3) := by decide +kernel
theorem dL_would_266 : decode cL_would 266 = .ok (.aload 4, 2) := by decide +kernel
theorem dL_would_268 : decode cL_would 268 = .ok (.aload 7, 2) := by decide +kernel
theorem dL_would_270 : decode cL_would 270 = .ok (.invokestatic 52, 3) := by decide +kernel
theorem dL_would_273 : decode cL_would 273 = .ok (.aload 7, 2) := by decide +kernel
theorem dL_would_275 : decode cL_would 275 = .ok (.bipush 9, 2) := by decide +kernel
theorem dL_would_277 : decode cL_would 277 = .ok (.iload_n 1, 1) := by decide +kernel
theorem dL_would_278 : decode cL_would 278 = .ok (.imul, 1) := by decide +kernel
theorem dL_would_279 : decode cL_would 279 = .ok (.iconst 4, 1) := by decide +kernel
theorem dL_would_280 : decode cL_would 280 = .ok (.iadd, 1) := by decide +kernel
theorem dL_would_281 : decode cL_would 281 = .ok (.iload 13, 2) := by decide +kernel
theorem dL_would_283 : decode cL_would 283 = .ok (.iastore, 1) := by decide +kernel
theorem dL_would_284 : decode cL_would 284 = .ok (.aload 6, 2) := by decide +kernel
theorem dL_would_286 : decode cL_would 286 = .ok (.aload 7, 2) := by decide +kernel
theorem dL_would_288 : decode cL_would 288 = .ok (.invokestatic 63, 3) := by decide +kernel
theorem dL_would_291 : decode cL_would 291 = .ok (.pop, 1) := by decide +kernel
theorem dL_would_292 : decode cL_would 292 = .ok (.aload 7, 2) := by decide +kernel
theorem dL_would_294 : decode cL_would 294 = .ok (.bipush 9, 2) := by decide +kernel
theorem dL_would_296 : decode cL_would 296 = .ok (.iload_n 1, 1) := by decide +kernel
theorem dL_would_297 : decode cL_would 297 = .ok (.imul, 1) := by decide +kernel
theorem dL_would_298 : decode cL_would 298 = .ok (.bipush 6, 2) := by decide +kernel
theorem dL_would_300 : decode cL_would 300 = .ok (.iadd, 1) := by decide +kernel
theorem dL_would_301 : decode cL_would 301 = .ok (.iaload, 1) := by decide +kernel
theorem dL_would_302 : decode cL_would 302 = .ok (.ifCond .ne 8, 3) := by decide +kernel
theorem dL_would_305 : decode cL_would 305 = .ok (.iload 13, 2) := by decide +kernel
theorem dL_would_307 : decode cL_would 307 = .ok (.goto 5, 3) := by decide +kernel
theorem dL_would_310 : decode cL_would 310 = .ok (.iload 12, 2) := by decide +kernel
theorem dL_would_312 : decode cL_would 312 = .ok (.istore 12, 2) := by decide +kernel
theorem dL_would_314 : decode cL_would 314 = .ok (.iinc 13 (-1), 3) := by decide +kernel
theorem dL_would_317 : decode cL_would 317 = .ok (.goto (-62), 3) := by decide +kernel
theorem dL_would_320 : decode cL_would 320 = .ok (.aload_n 0, 1) := by decide +kernel
theorem dL_would_321 : decode cL_would 321 = .ok (.iload_n 1, 1) := by decide +kernel
theorem dL_would_322 : decode cL_would 322 = .ok (.invokevirtual 73, 3) := by decide +kernel
theorem dL_would_325 : decode cL_would 325 = .ok (.iload 12, 2) := by decide +kernel
theorem dL_would_327 : decode cL_would 327 = .ok (.if_icmp .ne 7, 3) := by decide +kernel
theorem dL_would_330 : decode cL_would 330 = .ok (.iconst 1, 1) := by decide +kernel
theorem dL_would_331 : decode cL_would 331 = .ok (.goto 4, 3) := by decide +kernel
theorem dL_would_334 : decode cL_would 334 = .ok (.iconst 0, 1) := by decide +kernel
theorem dL_would_335 : decode cL_would 335 = .ok (.ireturn, 1) := by decide +kernel
