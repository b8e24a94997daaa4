set_option maxRecDepth 20000 in
theorem ggX4_init_X3_init : GoodIn wsX4_init wsX3_init := goodIn_r _ [22, 23, 2, 3, 24, 25, 58, 59] (by decide +kernel) (by decide +kernel)
set_option maxRecDepth 20000 in
theorem gX4_init_X3_init_n9 : GoodIn wsX4_init (wsX3_init) := ggX4_init_X3_init
set_option maxRecDepth 20000 in
theorem ggX4_init_X2_init : GoodIn wsX4_init wsX2_init := goodIn_r _ [27, 28, 2, 3, 29, 30, 24, 31, 32, 33, 34, 35, 36, 37, 38, 39, 40, 41, 42, 43, 44, 45, 46, 47, 48, 49, 50, 51, 67, 68, 69, 70, 71, 72, 73, 74, 75, 76, 77, 78, 79, 80, 81, 82, 86, 87, 88, 89] (by decide +kernel) (by decide +kernel)
set_option maxRecDepth 20000 in
theorem gX4_init_X2_init_n18 : GoodIn wsX4_init (wsX2_init) := ggX4_init_X2_init
set_option maxRecDepth 20000 in
theorem ggX4_init_X1_init : GoodIn wsX4_init wsX1_init := goodIn_r _ [54, 55, 2, 3, 56, 57, 9, 10, 26, 27, 28, 29, 30, 24, 31, 32, 33, 34, 35, 36, 37, 38, 39, 40, 41, 42, 43, 44, 45, 46, 47, 48, 49, 50, 51, 83, 84, 85, 67, 68, 69, 70, 71, 72, 73, 74, 75, 76, 77, 78, 79, 80, 81, 82, 86, 87, 88, 89] (by decide +kernel) (by decide +kernel)
set_option maxRecDepth 20000 in
theorem gX4_init_X1_init : GoodIn wsX4_init (wsX1_init) := ggX4_init_X1_init
theorem dX4_init_0 : decode cX4_init 0 = .ok (.aload_n 0, 1) := by decide +kernel
theorem dX4_init_1 : decode cX4_init 1 = .ok (.invokespecial 1, 3) := by decide +kernel
theorem dX4_init_4 : decode cX4_init 4 = .ok (.aload_n 0, 1) := by decide +kernel
theorem dX4_init_5 : decode cX4_init 5 = .ok (.new 7, 3) := by decide +kernel
theorem dX4_init_8 : decode cX4_init 8 = .ok (.dup, 1) := by decide +kernel
theorem dX4_init_9 : decode cX4_init 9 = .ok (.invokespecial 9, 3) := by decide +kernel
theorem dX4_init_12 : decode cX4_init 12 = .ok (.putfield 10, 3) := by decide +kernel
theorem dX4_init_15 : decode cX4_init 15 = .ok (.aload_n 0, 1) := by decide +kernel
theorem dX4_init_16 : decode cX4_init 16 = .ok (.new 16, 3) := by decide +kernel
theorem dX4_init_19 : decode cX4_init 19 = .ok (.dup, 1) := by decide +kernel
theorem dX4_init_20 : decode cX4_init 20 = .ok (.invokespecial 18, 3) := by decide +kernel
theorem dX4_init_23 : decode cX4_init 23 = .ok (.putfield 19, 3) := by decide +kernel
theorem dX4_init_26 : decode cX4_init 26 = .ok (.aload_n 0, 1) := by decide +kernel
theorem dX4_init_27 : decode cX4_init 27 = .ok (.new 16, 3) := by decide +kernel
theorem dX4_init_30 : decode cX4_init 30 = .ok (.dup, 1) := by decide +kernel
theorem dX4_init_31 : decode cX4_init 31 = .ok (.invokespecial 18, 3) := by decide +kernel
theorem dX4_init_34 : decode cX4_init 34 = .ok (.putfield 23, 3) := by decide +kernel
theorem dX4_init_37 : decode cX4_init 37 = .ok (.aload_n 0, 1) := by decide +kernel
theorem dX4_init_38 : decode cX4_init 38 = .ok (.new 16, 3) := by decide +kernel
theorem dX4_init_41 : decode cX4_init 41 = .ok (.dup, 1) := by decide +kernel
theorem dX4_init_42 : decode cX4_init 42 = .ok (.invokespecial 18, 3) := by decide +kernel
theorem dX4_init_45 : decode cX4_init 45 = .ok (.putfield 26, 3) := by decide +kernel
theorem dX4_init_48 : decode cX4_init 48 = .ok (.aload_n 0, 1) := by decide +kernel
theorem dX4_init_49 : decode cX4_init 49 = .ok (.new 29, 3) := by decide +kernel
theorem dX4_init_52 : decode cX4_init 52 = .ok (.dup, 1) := by decide +kernel
theorem dX4_init_53 : decode cX4_init 53 = .ok (.invokespecial 31, 3) := by decide +kernel
theorem dX4_init_56 : decode cX4_init 56 = .ok (.putfield 32, 3) := by decide +kernel
theorem dX4_init_59 : decode cX4_init 59 = .ok (.aload_n 0, 1) := by decide +kernel
theorem dX4_init_60 : decode cX4_init 60 = .ok (.iconst 2, 1) := by decide +kernel
theorem dX4_init_61 : decode cX4_init 61 = .ok (.anewarray 16, 3) := by decide +kernel
theorem dX4_init_64 : decode cX4_init 64 = .ok (.dup, 1) := by decide +kernel
theorem dX4_init_65 : decode cX4_init 65 = .ok (.iconst 0, 1) := by decide +kernel
theorem dX4_init_66 : decode cX4_init 66 = .ok (.new 16, 3) := by decide +kernel
theorem dX4_init_69 : decode cX4_init 69 = .ok (.dup, 1) := by decide +kernel
theorem dX4_init_70 : decode cX4_init 70 = .ok (.invokespecial 18, 3) := by decide +kernel
theorem dX4_init_73 : decode cX4_init 73 = .ok (.aastore, 1) := by decide +kernel
theorem dX4_init_74 : decode cX4_init 74 = .ok (.dup, 1) := by decide +kernel
theorem dX4_init_75 : decode cX4_init 75 = .ok (.iconst 1, 1) := by decide +kernel
theorem dX4_init_76 : decode cX4_init 76 = .ok (.new 16, 3) := by decide +kernel
theorem dX4_init_79 : decode cX4_init 79 = .ok (.dup, 1) := by decide +kernel
theorem dX4_init_80 : decode cX4_init 80 = .ok (.invokespecial 18, 3) := by decide +kernel
theorem dX4_init_83 : decode cX4_init 83 = .ok (.aastore, 1) := by decide +kernel
theorem dX4_init_84 : decode cX4_init 84 = .ok (.putfield 36, 3) := by decide +kernel
theorem dX4_init_87 : decode cX4_init 87 = .ok (.aload_n 0, 1) := by decide +kernel
theorem dX4_init_88 : decode cX4_init 88 = .ok (.iconst 2, 1) := by decide +kernel
theorem dX4_init_89 : decode cX4_init 89 = .ok (.newarray .boolean, 2) := by decide +kernel
theorem dX4_init_91 : decode cX4_init 91 = .ok (.putfield 40, 3) := by decide +kernel
theorem dX4_init_94 : decode cX4_init 94 = .ok (.return_, 1) := by decide +kernel
set_option maxRecDepth 20000 in
theorem ggX4_about_X2_around : GoodIn wsX4_about wsX2_around := goodIn_r _ [8, 9, 10, 11, 12, 13, 35, 36, 37, 38, 39, 40, 41, 42, 43, 44, 45, 46, 47, 48, 49, 50] (by decide +kernel) (by decide +kernel)
set_option maxRecDepth 20000 in
theorem gX4_about_X2_around : GoodIn wsX4_about (wsV RX4 90 RX2 yX2_around wsX2_around) := goodIn_app (goodIn_of _ (by decide +kernel)) ggX4_about_X2_around
set_option maxRecDepth 20000 in
theorem ggX4_about_X2_laidOrders : GoodIn wsX4_about wsX2_laidOrders := goodIn_r _ [17, 18, 19, 20, 21, 7, 22, 23, 35, 36, 37, 38, 39, 40, 41, 42, 43, 44, 45, 46, 47, 48, 49, 50] (by decide +kernel) (by decide +kernel)
set_option maxRecDepth 20000 in
theorem gX4_about_X2_laidOrders : GoodIn wsX4_about (wsV RX4 93 RX2 yX2_laidOrders wsX2_laidOrders) := goodIn_app (goodIn_of _ (by decide +kernel)) ggX4_about_X2_laidOrders
set_option maxRecDepth 20000 in
theorem ggX4_about_X4_sum : GoodIn wsX4_about wsX4_sum := goodIn_r _ [27] (by decide +kernel) (by decide +kernel)
set_option maxRecDepth 20000 in
theorem gX4_about_X4_sum : GoodIn wsX4_about (va_wsS RX4 100 yX4_sum wsX4_sum) := goodIn_app (goodIn_of _ (by decide +kernel)) ggX4_about_X4_sum
theorem dX4_about_0 : decode cX4_about 0 = .ok (.iload_n 1, 1) := by decide +kernel
theorem dX4_about_1 : decode cX4_about 1 = .ok (.tableswitch 154 0 9 #[55, 63, 71, 79, 94, 102, 113, 124, 135, 146], 55) := by decide +kernel
theorem dX4_about_56 : decode cX4_about 56 = .ok (.aload_n 0, 1) := by decide +kernel
theorem dX4_about_57 : decode cX4_about 57 = .ok (.getfield 19, 3) := by decide +kernel
theorem dX4_about_60 : decode cX4_about 60 = .ok (.getfield 84, 3) := by decide +kernel
theorem dX4_about_63 : decode cX4_about 63 = .ok (.ireturn, 1) := by decide +kernel
theorem dX4_about_64 : decode cX4_about 64 = .ok (.aload_n 0, 1) := by decide +kernel
theorem dX4_about_65 : decode cX4_about 65 = .ok (.getfield 19, 3) := by decide +kernel
theorem dX4_about_68 : decode cX4_about 68 = .ok (.getfield 80, 3) := by decide +kernel
theorem dX4_about_71 : decode cX4_about 71 = .ok (.ireturn, 1) := by decide +kernel
theorem dX4_about_72 : decode cX4_about 72 = .ok (.aload_n 0, 1) := by decide +kernel
theorem dX4_about_73 : decode cX4_about 73 = .ok (.getfield 19, 3) := by decide +kernel
theorem dX4_about_76 : decode cX4_about 76 = .ok (.getfield 87, 3) := by decide +kernel
theorem dX4_about_79 : decode cX4_about 79 = .ok (.ireturn, 1) := by decide +kernel
theorem dX4_about_80 : decode cX4_about 80 = .ok (.aload_n 0, 1) := by decide +kernel
theorem dX4_about_81 : decode cX4_about 81 = .ok (.getfield 19, 3) := by decide +kernel
theorem dX4_about_84 : decode cX4_about 84 = .ok (.aload_n 0, 1) := by decide +kernel
theorem dX4_about_85 : decode cX4_about 85 = .ok (.getfield 19, 3) := by decide +kernel
theorem dX4_about_88 : decode cX4_about 88 = .ok (.getfield 87, 3) := by decide +kernel
theorem dX4_about_91 : decode cX4_about 91 = .ok (.invokevirtual 90, 3) := by decide +kernel
theorem dX4_about_94 : decode cX4_about 94 = .ok (.ireturn, 1) := by decide +kernel
theorem dX4_about_95 : decode cX4_about 95 = .ok (.aload_n 0, 1) := by decide +kernel
theorem dX4_about_96 : decode cX4_about 96 = .ok (.getfield 19, 3) := by decide +kernel
theorem dX4_about_99 : decode cX4_about 99 = .ok (.invokevirtual 93, 3) := by decide +kernel
theorem dX4_about_102 : decode cX4_about 102 = .ok (.ireturn, 1) := by decide +kernel
theorem dX4_about_103 : decode cX4_about 103 = .ok (.aload_n 0, 1) := by decide +kernel
theorem dX4_about_104 : decode cX4_about 104 = .ok (.getfield 19, 3) := by decide +kernel
theorem dX4_about_107 : decode cX4_about 107 = .ok (.getfield 96, 3) := by decide +kernel
theorem dX4_about_110 : decode cX4_about 110 = .ok (.invokestatic 100, 3) := by decide +kernel
theorem dX4_about_113 : decode cX4_about 113 = .ok (.ireturn, 1) := by decide +kernel
theorem dX4_about_114 : decode cX4_about 114 = .ok (.aload_n 0, 1) := by decide +kernel
theorem dX4_about_115 : decode cX4_about 115 = .ok (.getfield 19, 3) := by decide +kernel
theorem dX4_about_118 : decode cX4_about 118 = .ok (.getfield 104, 3) := by decide +kernel
theorem dX4_about_121 : decode cX4_about 121 = .ok (.invokestatic 100, 3) := by decide +kernel
theorem dX4_about_124 : decode cX4_about 124 = .ok (.ireturn, 1) := by decide +kernel
theorem dX4_about_125 : decode cX4_about 125 = .ok (.aload_n 0, 1) := by decide +kernel
theorem dX4_about_126 : decode cX4_about 126 = .ok (.getfield 19, 3) := by decide +kernel
theorem dX4_about_129 : decode cX4_about 129 = .ok (.getfield 107, 3) := by decide +kernel
theorem dX4_about_132 : decode cX4_about 132 = .ok (.invokestatic 100, 3) := by decide +kernel
theorem dX4_about_135 : decode cX4_about 135 = .ok (.ireturn, 1) := by decide +kernel
theorem dX4_about_136 : decode cX4_about 136 = .ok (.aload_n 0, 1) := by decide +kernel
theorem dX4_about_137 : decode cX4_about 137 = .ok (.getfield 19, 3) := by decide +kernel
theorem dX4_about_140 : decode cX4_about 140 = .ok (.getfield 110, 3) := by decide +kernel
theorem dX4_about_143 : decode cX4_about 143 = .ok (.getfield 114, 3) := by decide +kernel
theorem dX4_about_146 : decode cX4_about 146 = .ok (.ireturn, 1) := by decide +kernel
theorem dX4_about_147 : decode cX4_about 147 = .ok (.aload_n 0, 1) := by decide +kernel
theorem dX4_about_148 : decode cX4_about 148 = .ok (.getfield 19, 3) := by decide +kernel
theorem dX4_about_151 : decode cX4_about 151 = .ok (.getfield 119, 3) := by decide +kernel
theorem dX4_about_154 : decode cX4_about 154 = .ok (.ireturn, 1) := by decide +kernel
theorem dX4_about_155 : decode cX4_about 155 = .ok (.new 44, 3) := by decide +kernel
theorem dX4_about_158 : decode cX4_about 158 = .ok (.dup, 1) := by decide +kernel
theorem dX4_about_159 : decode cX4_about 159 = .ok (.ldc 122, 2) := by decide +kernel
theorem dX4_about_161 : decode cX4_about 161 = .ok (.invokespecial 48, 3) := by decide +kernel
theorem dX4_about_164 : decode cX4_about 164 = .ok (.athrow, 1) := by decide +kernel
set_option maxRecDepth 20000 in
theorem ggX4_order_X2_has : GoodIn wsX4_order wsX2_has := goodIn_r _ [10, 11, 19, 20, 21, 22, 23, 24, 25, 26, 27, 28, 29, 30, 31, 32, 33, 34] (by decide +kernel) (by decide +kernel)
set_option maxRecDepth 20000 in
theorem gX4_order_X2_has : GoodIn wsX4_order (wsV RX4 124 RX2 yX2_has wsX2_has) := goodIn_app (goodIn_of _ (by decide +kernel)) ggX4_order_X2_has
theorem dX4_order_0 : decode cX4_order 0 = .ok (.aload_n 0, 1) := by decide +kernel
theorem dX4_order_1 : decode cX4_order 1 = .ok (.getfield 19, 3) := by decide +kernel
theorem dX4_order_4 : decode cX4_order 4 = .ok (.iload_n 1, 1) := by decide +kernel
theorem dX4_order_5 : decode cX4_order 5 = .ok (.invokevirtual 124, 3) := by decide +kernel
theorem dX4_order_8 : decode cX4_order 8 = .ok (.ifCond .ne 13, 3) := by decide +kernel
theorem dX4_order_11 : decode cX4_order 11 = .ok (.new 128, 3) := by decide +kernel
theorem dX4_order_14 : decode cX4_order 14 = .ok (.dup, 1) := by decide +kernel
theorem dX4_order_15 : decode cX4_order 15 = .ok (.ldc 130, 2) := by decide +kernel
theorem dX4_order_17 : decode cX4_order 17 = .ok (.invokespecial 132, 3) := by decide +kernel
theorem dX4_order_20 : decode cX4_order 20 = .ok (.athrow, 1) := by decide +kernel
theorem dX4_order_21 : decode cX4_order 21 = .ok (.iload_n 2, 1) := by decide +kernel
theorem dX4_order_22 : decode cX4_order 22 = .ok (.tableswitch 140 0 8 #[50, 60, 70, 80, 90, 100, 110, 120, 130], 50) := by decide +kernel
theorem dX4_order_72 : decode cX4_order 72 = .ok (.aload_n 0, 1) := by decide +kernel
theorem dX4_order_73 : decode cX4_order 73 = .ok (.getfield 19, 3) := by decide +kernel
theorem dX4_order_76 : decode cX4_order 76 = .ok (.getfield 133, 3) := by decide +kernel
theorem dX4_order_79 : decode cX4_order 79 = .ok (.iload_n 1, 1) := by decide +kernel
theorem dX4_order_80 : decode cX4_order 80 = .ok (.iaload, 1) := by decide +kernel
theorem dX4_order_81 : decode cX4_order 81 = .ok (.ireturn, 1) := by decide +kernel
theorem dX4_order_82 : decode cX4_order 82 = .ok (.aload_n 0, 1) := by decide +kernel
theorem dX4_order_83 : decode cX4_order 83 = .ok (.getfield 19, 3) := by decide +kernel
theorem dX4_order_86 : decode cX4_order 86 = .ok (.getfield 136, 3) := by decide +kernel
theorem dX4_order_89 : decode cX4_order 89 = .ok (.iload_n 1, 1) := by decide +kernel
theorem dX4_order_90 : decode cX4_order 90 = .ok (.iaload, 1) := by decide +kernel
theorem dX4_order_91 : decode cX4_order 91 = .ok (.ireturn, 1) := by decide +kernel
theorem dX4_order_92 : decode cX4_order 92 = .ok (.aload_n 0, 1) := by decide +kernel
theorem dX4_order_93 : decode cX4_order 93 = .ok (.getfield 19, 3) := by decide +kernel
theorem dX4_order_96 : decode cX4_order 96 = .ok (.getfield 139, 3) := by decide +kernel
theorem dX4_order_99 : decode cX4_order 99 = .ok (.iload_n 1, 1) := by decide +kernel
theorem dX4_order_100 : decode cX4_order 100 = .ok (.iaload, 1) := by decide +kernel
theorem dX4_order_101 : decode cX4_order 101 = .ok (.ireturn, 1) := by decide +kernel
theorem dX4_order_102 : decode cX4_order 102 = .ok (.aload_n 0, 1) := by decide +kernel
theorem dX4_order_103 : decode cX4_order 103 = .ok (.getfield 19, 3) := by decide +kernel
theorem dX4_order_106 : decode cX4_order 106 = .ok (.getfield 142, 3) := by decide +kernel
theorem dX4_order_109 : decode cX4_order 109 = .ok (.iload_n 1, 1) := by decide +kernel
theorem dX4_order_110 : decode cX4_order 110 = .ok (.iaload, 1) := by decide +kernel
theorem dX4_order_111 : decode cX4_order 111 = .ok (.ireturn, 1) := by decide +kernel
theorem dX4_order_112 : decode cX4_order 112 = .ok (.aload_n 0, 1) := by decide +kernel
theorem dX4_order_113 : decode cX4_order 113 = .ok (.getfield 19, 3) := by decide +kernel
theorem dX4_order_116 : decode cX4_order 116 = .ok (.getfield 145, 3) := by decide +kernel
theorem dX4_order_119 : decode cX4_order 119 = .ok (.iload_n 1, 1) := by decide +kernel
theorem dX4_order_120 : decode cX4_order 120 = .ok (.iaload, 1) := by decide +kernel
theorem dX4_order_121 : decode cX4_order 121 = .ok (.ireturn, 1) := by decide +kernel
theorem dX4_order_122 : decode cX4_order 122 = .ok (.aload_n 0, 1) := by decide +kernel
theorem dX4_order_123 : decode cX4_order 123 = .ok (.getfield 19, 3) := by decide +kernel
theorem dX4_order_126 : decode cX4_order 126 = .ok (.getfield 148, 3) := by decide +kernel
theorem dX4_order_129 : decode cX4_order 129 = .ok (.iload_n 1, 1) := by decide +kernel
theorem dX4_order_130 : decode cX4_order 130 = .ok (.iaload, 1) := by decide +kernel
theorem dX4_order_131 : decode cX4_order 131 = .ok (.ireturn, 1) := by decide +kernel
theorem dX4_order_132 : decode cX4_order 132 = .ok (.aload_n 0, 1) := by decide +kernel
theorem dX4_order_133 : decode cX4_order 133 = .ok (.getfield 19, 3) := by decide +kernel
theorem dX4_order_136 : decode cX4_order 136 = .ok (.getfield 151, 3) := by decide +kernel
theorem dX4_order_139 : decode cX4_order 139 = .ok (.iload_n 1, 1) := by decide +kernel
theorem dX4_order_140 : decode cX4_order 140 = .ok (.iaload, 1) := by decide +kernel
theorem dX4_order_141 : decode cX4_order 141 = .ok (.ireturn, 1) := by decide +kernel
theorem dX4_order_142 : decode cX4_order 142 = .ok (.aload_n 0, 1) := by decide +kernel
theorem dX4_order_143 : decode cX4_order 143 = .ok (.getfield 19, 3) := by decide +kernel
theorem dX4_order_146 : decode cX4_order 146 = .ok (.getfield 107, 3) := by decide +kernel
theorem dX4_order_149 : decode cX4_order 149 = .ok (.iload_n 1, 1) := by decide +kernel
theorem dX4_order_150 : decode cX4_order 150 = .ok (.iaload, 1) := by decide +kernel
theorem dX4_order_151 : decode cX4_order 151 = .ok (.ireturn, 1) := by decide +kernel
theorem dX4_order_152 : decode cX4_order 152 = .ok (.aload_n 0, 1) := by decide +kernel
theorem dX4_order_153 : decode cX4_order 153 = .ok (.getfield 19, 3) := by decide +kernel
theorem dX4_order_156 : decode cX4_order 156 = .ok (.getfield 154, 3) := by decide +kernel
theorem dX4_order_159 : decode cX4_order 159 = .ok (.iload_n 1, 1) := by decide +kernel
theorem dX4_order_160 : decode cX4_order 160 = .ok (.iaload, 1) := by decide +kernel
theorem dX4_order_161 : decode cX4_order 161 = .ok (.ireturn, 1) := by decide +kernel
theorem dX4_order_162 : decode cX4_order 162 = .ok (.new 44, 3) := by decide +kernel
theorem dX4_order_165 : decode cX4_order 165 = .ok (.dup, 1) := by decide +kernel
theorem dX4_order_166 : decode cX4_order 166 = .ok (.ldc 157, 2) := by decide +kernel
theorem dX4_order_168 : decode cX4_order 168 = .ok (.invokespecial 48, 3) := by decide +kernel
theorem dX4_order_171 : decode cX4_order 171 = .ok (.athrow, 1) := by decide +kernel
set_option maxRecDepth 20000 in
theorem ggX4_author_X4_isAuthor : GoodIn wsX4_author wsX4_isAuthor := goodIn_r _ [9] (by decide +kernel) (by decide +kernel)
set_option maxRecDepth 20000 in
theorem gX4_author_X4_isAuthor : GoodIn wsX4_author (va_wsS RX4 159 yX4_isAuthor wsX4_isAuthor) := goodIn_app (goodIn_of _ (by decide +kernel)) ggX4_author_X4_isAuthor
set_option maxRecDepth 20000 in
theorem ggX4_author_X2_ordersOf : GoodIn wsX4_author wsX2_ordersOf := goodIn_r _ [14, 15, 16, 17, 18, 13, 19, 20, 28, 29, 30, 31, 32, 33, 34, 35, 36, 37, 38, 39, 40, 41, 42, 43] (by decide +kernel) (by decide +kernel)
set_option maxRecDepth 20000 in
theorem gX4_author_X2_ordersOf : GoodIn wsX4_author (wsV RX4 164 RX2 yX2_ordersOf wsX2_ordersOf) := goodIn_app (goodIn_of _ (by decide +kernel)) ggX4_author_X2_ordersOf
theorem dX4_author_0 : decode cX4_author 0 = .ok (.iload_n 1, 1) := by decide +kernel
theorem dX4_author_1 : decode cX4_author 1 = .ok (.invokestatic 159, 3) := by decide +kernel
theorem dX4_author_4 : decode cX4_author 4 = .ok (.ifCond .ne 13, 3) := by decide +kernel
theorem dX4_author_7 : decode cX4_author 7 = .ok (.new 128, 3) := by decide +kernel
theorem dX4_author_10 : decode cX4_author 10 = .ok (.dup, 1) := by decide +kernel
theorem dX4_author_11 : decode cX4_author 11 = .ok (.ldc 162, 2) := by decide +kernel
theorem dX4_author_13 : decode cX4_author 13 = .ok (.invokespecial 132, 3) := by decide +kernel
theorem dX4_author_16 : decode cX4_author 16 = .ok (.athrow, 1) := by decide +kernel
theorem dX4_author_17 : decode cX4_author 17 = .ok (.iload_n 2, 1) := by decide +kernel
theorem dX4_author_18 : decode cX4_author 18 = .ok (.tableswitch 55 0 2 #[26, 35, 45], 26) := by decide +kernel
theorem dX4_author_44 : decode cX4_author 44 = .ok (.aload_n 0, 1) := by decide +kernel
theorem dX4_author_45 : decode cX4_author 45 = .ok (.getfield 19, 3) := by decide +kernel
theorem dX4_author_48 : decode cX4_author 48 = .ok (.iload_n 1, 1) := by decide +kernel
theorem dX4_author_49 : decode cX4_author 49 = .ok (.invokevirtual 164, 3) := by decide +kernel
theorem dX4_author_52 : decode cX4_author 52 = .ok (.ireturn, 1) := by decide +kernel
theorem dX4_author_53 : decode cX4_author 53 = .ok (.aload_n 0, 1) := by decide +kernel
theorem dX4_author_54 : decode cX4_author 54 = .ok (.getfield 19, 3) := by decide +kernel
theorem dX4_author_57 : decode cX4_author 57 = .ok (.getfield 96, 3) := by decide +kernel
theorem dX4_author_60 : decode cX4_author 60 = .ok (.iload_n 1, 1) := by decide +kernel
theorem dX4_author_61 : decode cX4_author 61 = .ok (.iaload, 1) := by decide +kernel
theorem dX4_author_62 : decode cX4_author 62 = .ok (.ireturn, 1) := by decide +kernel
theorem dX4_author_63 : decode cX4_author 63 = .ok (.aload_n 0, 1) := by decide +kernel
theorem dX4_author_64 : decode cX4_author 64 = .ok (.getfield 19, 3) := by decide +kernel
theorem dX4_author_67 : decode cX4_author 67 = .ok (.getfield 104, 3) := by decide +kernel
theorem dX4_author_70 : decode cX4_author 70 = .ok (.iload_n 1, 1) := by decide +kernel
theorem dX4_author_71 : decode cX4_author 71 = .ok (.iaload, 1) := by decide +kernel
theorem dX4_author_72 : decode cX4_author 72 = .ok (.ireturn, 1) := by decide +kernel
theorem dX4_author_73 : decode cX4_author 73 = .ok (.new 44, 3) := by decide +kernel
theorem dX4_author_76 : decode cX4_author 76 = .ok (.dup, 1) := by decide +kernel
theorem dX4_author_77 : decode cX4_author 77 = .ok (.ldc 167, 2) := by decide +kernel
theorem dX4_author_79 : decode cX4_author 79 = .ok (.invokespecial 48, 3) := by decide +kernel
theorem dX4_author_82 : decode cX4_author 82 = .ok (.athrow, 1) := by decide +kernel
set_option maxRecDepth 20000 in
theorem ggX4_at_X2_hasPlace : GoodIn wsX4_at wsX2_hasPlace := goodIn_r _ [8, 9, 27, 28, 29, 30, 31, 32, 33, 34, 35, 36, 37, 38, 39, 40, 41, 42] (by decide +kernel) (by decide +kernel)
set_option maxRecDepth 20000 in
theorem gX4_at_X2_hasPlace : GoodIn wsX4_at (wsV RX4 169 RX2 yX2_hasPlace wsX2_hasPlace) := goodIn_app (goodIn_of _ (by decide +kernel)) ggX4_at_X2_hasPlace
set_option maxRecDepth 20000 in
theorem ggX4_at_X2_orderOn : GoodIn wsX4_at wsX2_orderOn := goodIn_r _ [13, 14, 15, 16, 17, 7, 18, 19, 27, 28, 29, 30, 31, 32, 33, 34, 35, 36, 37, 38, 39, 40, 41, 42] (by decide +kernel) (by decide +kernel)
set_option maxRecDepth 20000 in
theorem gX4_at_X2_orderOn : GoodIn wsX4_at (wsV RX4 174 RX2 yX2_orderOn wsX2_orderOn) := goodIn_app (goodIn_of _ (by decide +kernel)) ggX4_at_X2_orderOn
theorem dX4_at_0 : decode cX4_at 0 = .ok (.aload_n 0, 1) := by decide +kernel
theorem dX4_at_1 : decode cX4_at 1 = .ok (.getfield 19, 3) := by decide +kernel
theorem dX4_at_4 : decode cX4_at 4 = .ok (.iload_n 1, 1) := by decide +kernel
theorem dX4_at_5 : decode cX4_at 5 = .ok (.invokevirtual 169, 3) := by decide +kernel
theorem dX4_at_8 : decode cX4_at 8 = .ok (.ifCond .ne 13, 3) := by decide +kernel
theorem dX4_at_11 : decode cX4_at 11 = .ok (.new 128, 3) := by decide +kernel
theorem dX4_at_14 : decode cX4_at 14 = .ok (.dup, 1) := by decide +kernel
theorem dX4_at_15 : decode cX4_at 15 = .ok (.ldc 172, 2) := by decide +kernel
theorem dX4_at_17 : decode cX4_at 17 = .ok (.invokespecial 132, 3) := by decide +kernel
theorem dX4_at_20 : decode cX4_at 20 = .ok (.athrow, 1) := by decide +kernel
theorem dX4_at_21 : decode cX4_at 21 = .ok (.aload_n 0, 1) := by decide +kernel
theorem dX4_at_22 : decode cX4_at 22 = .ok (.getfield 19, 3) := by decide +kernel
theorem dX4_at_25 : decode cX4_at 25 = .ok (.iload_n 1, 1) := by decide +kernel
theorem dX4_at_26 : decode cX4_at 26 = .ok (.invokevirtual 174, 3) := by decide +kernel
theorem dX4_at_29 : decode cX4_at 29 = .ok (.ireturn, 1) := by decide +kernel
set_option maxRecDepth 20000 in
theorem ggX4_jump_X0_number : GoodIn wsX4_jump wsX0_number := goodIn_r _ [8, 9, 10, 11, 12, 36, 37, 38, 39] (by decide +kernel) (by decide +kernel)
set_option maxRecDepth 20000 in
theorem gX4_jump_X0_number : GoodIn wsX4_jump (wsV RX4 179 RX0 yX0_number wsX0_number) := goodIn_app (goodIn_of _ (by decide +kernel)) ggX4_jump_X0_number
theorem dX4_jump_0 : decode cX4_jump 0 = .ok (.iload_n 1, 1) := by decide +kernel
theorem dX4_jump_1 : decode cX4_jump 1 = .ok (.ifCond .lt 12, 3) := by decide +kernel
theorem dX4_jump_4 : decode cX4_jump 4 = .ok (.iload_n 2, 1) := by decide +kernel
theorem dX4_jump_5 : decode cX4_jump 5 = .ok (.ifCond .lt 8, 3) := by decide +kernel
theorem dX4_jump_8 : decode cX4_jump 8 = .ok (.iload_n 2, 1) := by decide +kernel
theorem dX4_jump_9 : decode cX4_jump 9 = .ok (.iconst 2, 1) := by decide +kernel
theorem dX4_jump_10 : decode cX4_jump 10 = .ok (.if_icmp .le 13, 3) := by decide +kernel
theorem dX4_jump_13 : decode cX4_jump 13 = .ok (.new 44, 3) := by decide +kernel
theorem dX4_jump_16 : decode cX4_jump 16 = .ok (.dup, 1) := by decide +kernel
theorem dX4_jump_17 : decode cX4_jump 17 = .ok (.ldc 177, 2) := by decide +kernel
theorem dX4_jump_19 : decode cX4_jump 19 = .ok (.invokespecial 48, 3) := by decide +kernel
theorem dX4_jump_22 : decode cX4_jump 22 = .ok (.athrow, 1) := by decide +kernel
theorem dX4_jump_23 : decode cX4_jump 23 = .ok (.aload_n 0, 1) := by decide +kernel
theorem dX4_jump_24 : decode cX4_jump 24 = .ok (.getfield 19, 3) := by decide +kernel
theorem dX4_jump_27 : decode cX4_jump 27 = .ok (.getfield 110, 3) := by decide +kernel
theorem dX4_jump_30 : decode cX4_jump 30 = .ok (.iload_n 1, 1) := by decide +kernel
theorem dX4_jump_31 : decode cX4_jump 31 = .ok (.iload_n 2, 1) := by decide +kernel
theorem dX4_jump_32 : decode cX4_jump 32 = .ok (.invokevirtual 179, 3) := by decide +kernel
theorem dX4_jump_35 : decode cX4_jump 35 = .ok (.ireturn, 1) := by decide +kernel
set_option maxRecDepth 20000 in
theorem ggX4_setDrum_X1_remember : GoodIn wsX4_setDrum wsX1_remember := goodIn_r _ [9, 10, 11, 12, 13, 14, 15, 16, 17, 18, 19, 20, 21, 22, 23, 24, 25, 26, 27, 28, 29, 30, 31, 32, 33, 34, 35, 36, 37, 38, 39, 40, 41, 42, 43, 44, 45, 88, 89, 90, 72, 73, 74, 75, 76, 77, 78, 79, 80, 81, 82, 83, 84, 85, 86, 87, 91, 92, 93, 94] (by decide +kernel) (by decide +kernel)
set_option maxRecDepth 20000 in
theorem gX4_setDrum_X1_remember : GoodIn wsX4_setDrum (wsV RX4 191 RX1 yX1_remember wsX1_remember) := goodIn_app (goodIn_of _ (by decide +kernel)) ggX4_setDrum_X1_remember
set_option maxRecDepth 20000 in
theorem ggX4_setDrum_X2_takeAllOff : GoodIn wsX4_setDrum wsX2_takeAllOff := goodIn_r _ [49, 50, 51, 52, 16, 53, 19, 54, 55, 56, 57, 27, 28, 58, 59, 60, 61, 29, 22, 32, 62, 63, 64, 72, 73, 74, 75, 76, 77, 78, 79, 80, 81, 82, 83, 84, 85, 86, 87] (by decide +kernel) (by decide +kernel)
set_option maxRecDepth 20000 in
theorem gX4_setDrum_X2_takeAllOff : GoodIn wsX4_setDrum (wsV RX4 194 RX2 yX2_takeAllOff wsX2_takeAllOff) := goodIn_app (goodIn_of _ (by decide +kernel)) ggX4_setDrum_X2_takeAllOff
theorem dX4_setDrum_0 : decode cX4_setDrum 0 = .ok (.iload_n 1, 1) := by decide +kernel
theorem dX4_setDrum_1 : decode cX4_setDrum 1 = .ok (.bipush 6, 2) := by decide +kernel
theorem dX4_setDrum_3 : decode cX4_setDrum 3 = .ok (.if_icmp .lt 9, 3) := by decide +kernel
theorem dX4_setDrum_6 : decode cX4_setDrum 6 = .ok (.iload_n 1, 1) := by decide +kernel
theorem dX4_setDrum_7 : decode cX4_setDrum 7 = .ok (.bipush 40, 2) := by decide +kernel
theorem dX4_setDrum_9 : decode cX4_setDrum 9 = .ok (.if_icmp .le 13, 3) := by decide +kernel
theorem dX4_setDrum_12 : decode cX4_setDrum 12 = .ok (.new 44, 3) := by decide +kernel
theorem dX4_setDrum_15 : decode cX4_setDrum 15 = .ok (.dup, 1) := by decide +kernel
theorem dX4_setDrum_16 : decode cX4_setDrum 16 = .ok (.ldc 189, 2) := by decide +kernel
theorem dX4_setDrum_18 : decode cX4_setDrum 18 = .ok (.invokespecial 48, 3) := by decide +kernel
theorem dX4_setDrum_21 : decode cX4_setDrum 21 = .ok (.athrow, 1) := by decide +kernel
theorem dX4_setDrum_22 : decode cX4_setDrum 22 = .ok (.aload_n 0, 1) := by decide +kernel
theorem dX4_setDrum_23 : decode cX4_setDrum 23 = .ok (.getfield 32, 3) := by decide +kernel
theorem dX4_setDrum_26 : decode cX4_setDrum 26 = .ok (.aload_n 0, 1) := by decide +kernel
theorem dX4_setDrum_27 : decode cX4_setDrum 27 = .ok (.getfield 19, 3) := by decide +kernel
theorem dX4_setDrum_30 : decode cX4_setDrum 30 = .ok (.invokevirtual 191, 3) := by decide +kernel
theorem dX4_setDrum_33 : decode cX4_setDrum 33 = .ok (.aload_n 0, 1) := by decide +kernel
theorem dX4_setDrum_34 : decode cX4_setDrum 34 = .ok (.getfield 19, 3) := by decide +kernel
theorem dX4_setDrum_37 : decode cX4_setDrum 37 = .ok (.getfield 84, 3) := by decide +kernel
theorem dX4_setDrum_40 : decode cX4_setDrum 40 = .ok (.istore_n 2, 1) := by decide +kernel
theorem dX4_setDrum_41 : decode cX4_setDrum 41 = .ok (.aload_n 0, 1) := by decide +kernel
theorem dX4_setDrum_42 : decode cX4_setDrum 42 = .ok (.getfield 19, 3) := by decide +kernel
theorem dX4_setDrum_45 : decode cX4_setDrum 45 = .ok (.invokevirtual 194, 3) := by decide +kernel
theorem dX4_setDrum_48 : decode cX4_setDrum 48 = .ok (.aload_n 0, 1) := by decide +kernel
theorem dX4_setDrum_49 : decode cX4_setDrum 49 = .ok (.getfield 19, 3) := by decide +kernel
theorem dX4_setDrum_52 : decode cX4_setDrum 52 = .ok (.iload_n 1, 1) := by decide +kernel
theorem dX4_setDrum_53 : decode cX4_setDrum 53 = .ok (.putfield 84, 3) := by decide +kernel
theorem dX4_setDrum_56 : decode cX4_setDrum 56 = .ok (.iload_n 2, 1) := by decide +kernel
theorem dX4_setDrum_57 : decode cX4_setDrum 57 = .ok (.ireturn, 1) := by decide +kernel
set_option maxRecDepth 20000 in
theorem ggX4_addOrder_X4_isAuthor : GoodIn wsX4_addOrder wsX4_isAuthor := goodIn_r _ [10] (by decide +kernel) (by decide +kernel)
set_option maxRecDepth 20000 in
theorem gX4_addOrder_X4_isAuthor : GoodIn wsX4_addOrder (va_wsS RX4 159 yX4_isAuthor wsX4_isAuthor) := goodIn_app (goodIn_of _ (by decide +kernel)) ggX4_addOrder_X4_isAuthor
set_option maxRecDepth 20000 in
theorem ggX4_addOrder_X4_isWork : GoodIn wsX4_addOrder wsX4_isWork := goodIn_r _ [13] (by decide +kernel) (by decide +kernel)
set_option maxRecDepth 20000 in
theorem gX4_addOrder_X4_isWork : GoodIn wsX4_addOrder (va_wsS RX4 197 yX4_isWork wsX4_isWork) := goodIn_app (goodIn_of _ (by decide +kernel)) ggX4_addOrder_X4_isWork
set_option maxRecDepth 20000 in
theorem ggX4_addOrder_X4_isLink : GoodIn wsX4_addOrder wsX4_isLink := goodIn_r _ [16] (by decide +kernel) (by decide +kernel)
set_option maxRecDepth 20000 in
theorem gX4_addOrder_X4_isLink : GoodIn wsX4_addOrder (va_wsS RX4 200 yX4_isLink wsX4_isLink) := goodIn_app (goodIn_of _ (by decide +kernel)) ggX4_addOrder_X4_isLink
set_option maxRecDepth 20000 in
theorem ggX4_addOrder_X4_isBribe : GoodIn wsX4_addOrder wsX4_isBribe := goodIn_r _ [19] (by decide +kernel) (by decide +kernel)
set_option maxRecDepth 20000 in
theorem gX4_addOrder_X4_isBribe : GoodIn wsX4_addOrder (va_wsS RX4 203 yX4_isBribe wsX4_isBribe) := goodIn_app (goodIn_of _ (by decide +kernel)) ggX4_addOrder_X4_isBribe
set_option maxRecDepth 20000 in
theorem ggX4_addOrder_X1_remember : GoodIn wsX4_addOrder wsX1_remember := goodIn_r _ [24, 25, 26, 27, 28, 29, 30, 31, 32, 33, 34, 35, 36, 37, 38, 39, 40, 41, 42, 43, 44, 45, 46, 47, 48, 49, 50, 51, 52, 53, 54, 55, 56, 57, 58, 59, 60, 88, 89, 90, 72, 73, 74, 75, 76, 77, 78, 79, 80, 81, 82, 83, 84, 85, 86, 87, 91, 92, 93, 94] (by decide +kernel) (by decide +kernel)
set_option maxRecDepth 20000 in
theorem gX4_addOrder_X1_remember : GoodIn wsX4_addOrder (wsV RX4 191 RX1 yX1_remember wsX1_remember) := goodIn_app (goodIn_of _ (by decide +kernel)) ggX4_addOrder_X1_remember
set_option maxRecDepth 20000 in
theorem ggX4_addOrder_X2_addNew : GoodIn wsX4_addOrder wsX2_addNew := goodIn_r _ [64, 34, 37, 38, 39, 40, 41, 42, 43, 44, 45, 72, 73, 74, 75, 76, 77, 78, 79, 80, 81, 82, 83, 84, 85, 86, 87] (by decide +kernel) (by decide +kernel)
set_option maxRecDepth 20000 in
theorem gX4_addOrder_X2_addNew : GoodIn wsX4_addOrder (wsV RX4 210 RX2 yX2_addNew wsX2_addNew) := goodIn_app (goodIn_of _ (by decide +kernel)) ggX4_addOrder_X2_addNew
theorem dX4_addOrder_0 : decode cX4_addOrder 0 = .ok (.iload_n 1, 1) := by decide +kernel
theorem dX4_addOrder_1 : decode cX4_addOrder 1 = .ok (.invokestatic 159, 3) := by decide +kernel
theorem dX4_addOrder_4 : decode cX4_addOrder 4 = .ok (.ifCond .eq 33, 3) := by decide +kernel
theorem dX4_addOrder_7 : decode cX4_addOrder 7 = .ok (.iload_n 2, 1) := by decide +kernel
theorem dX4_addOrder_8 : decode cX4_addOrder 8 = .ok (.invokestatic 197, 3) := by decide +kernel
theorem dX4_addOrder_11 : decode cX4_addOrder 11 = .ok (.ifCond .eq 26, 3) := by decide +kernel
theorem dX4_addOrder_14 : decode cX4_addOrder 14 = .ok (.iload_n 3, 1) := by decide +kernel
theorem dX4_addOrder_15 : decode cX4_addOrder 15 = .ok (.invokestatic 200, 3) := by decide +kernel
theorem dX4_addOrder_18 : decode cX4_addOrder 18 = .ok (.ifCond .eq 19, 3) := by decide +kernel
theorem dX4_addOrder_21 : decode cX4_addOrder 21 = .ok (.iload 4, 2) := by decide +kernel
theorem dX4_addOrder_23 : decode cX4_addOrder 23 = .ok (.invokestatic 200, 3) := by decide +kernel
theorem dX4_addOrder_26 : decode cX4_addOrder 26 = .ok (.ifCond .eq 11, 3) := by decide +kernel
theorem dX4_addOrder_29 : decode cX4_addOrder 29 = .ok (.iload 5, 2) := by decide +kernel
theorem dX4_addOrder_31 : decode cX4_addOrder 31 = .ok (.invokestatic 203, 3) := by decide +kernel
theorem dX4_addOrder_34 : decode cX4_addOrder 34 = .ok (.ifCond .ne 13, 3) := by decide +kernel
theorem dX4_addOrder_37 : decode cX4_addOrder 37 = .ok (.new 44, 3) := by decide +kernel
theorem dX4_addOrder_40 : decode cX4_addOrder 40 = .ok (.dup, 1) := by decide +kernel
theorem dX4_addOrder_41 : decode cX4_addOrder 41 = .ok (.ldc 206, 2) := by decide +kernel
theorem dX4_addOrder_43 : decode cX4_addOrder 43 = .ok (.invokespecial 48, 3) := by decide +kernel
theorem dX4_addOrder_46 : decode cX4_addOrder 46 = .ok (.athrow, 1) := by decide +kernel
theorem dX4_addOrder_47 : decode cX4_addOrder 47 = .ok (.aload_n 0, 1) := by decide +kernel
theorem dX4_addOrder_48 : decode cX4_addOrder 48 = .ok (.getfield 19, 3) := by decide +kernel
theorem dX4_addOrder_51 : decode cX4_addOrder 51 = .ok (.getfield 80, 3) := by decide +kernel
theorem dX4_addOrder_54 : decode cX4_addOrder 54 = .ok (.bipush 16, 2) := by decide +kernel
theorem dX4_addOrder_56 : decode cX4_addOrder 56 = .ok (.if_icmp .lt 13, 3) := by decide +kernel
theorem dX4_addOrder_59 : decode cX4_addOrder 59 = .ok (.new 55, 3) := by decide +kernel
theorem dX4_addOrder_62 : decode cX4_addOrder 62 = .ok (.dup, 1) := by decide +kernel
theorem dX4_addOrder_63 : decode cX4_addOrder 63 = .ok (.ldc 208, 2) := by decide +kernel
theorem dX4_addOrder_65 : decode cX4_addOrder 65 = .ok (.invokespecial 59, 3) := by decide +kernel
theorem dX4_addOrder_68 : decode cX4_addOrder 68 = .ok (.athrow, 1) := by decide +kernel
theorem dX4_addOrder_69 : decode cX4_addOrder 69 = .ok (.aload_n 0, 1) := by decide +kernel
theorem dX4_addOrder_70 : decode cX4_addOrder 70 = .ok (.getfield 32, 3) := by decide +kernel
theorem dX4_addOrder_73 : decode cX4_addOrder 73 = .ok (.aload_n 0, 1) := by decide +kernel
theorem dX4_addOrder_74 : decode cX4_addOrder 74 = .ok (.getfield 19, 3) := by decide +kernel
theorem dX4_addOrder_77 : decode cX4_addOrder 77 = .ok (.invokevirtual 191, 3) := by decide +kernel
theorem dX4_addOrder_80 : decode cX4_addOrder 80 = .ok (.aload_n 0, 1) := by decide +kernel
theorem dX4_addOrder_81 : decode cX4_addOrder 81 = .ok (.getfield 19, 3) := by decide +kernel
theorem dX4_addOrder_84 : decode cX4_addOrder 84 = .ok (.iload_n 1, 1) := by decide +kernel
theorem dX4_addOrder_85 : decode cX4_addOrder 85 = .ok (.iload_n 2, 1) := by decide +kernel
theorem dX4_addOrder_86 : decode cX4_addOrder 86 = .ok (.iload_n 3, 1) := by decide +kernel
theorem dX4_addOrder_87 : decode cX4_addOrder 87 = .ok (.iload 4, 2) := by decide +kernel
theorem dX4_addOrder_89 : decode cX4_addOrder 89 = .ok (.iload 5, 2) := by decide +kernel
theorem dX4_addOrder_91 : decode cX4_addOrder 91 = .ok (.invokevirtual 210, 3) := by decide +kernel
theorem dX4_addOrder_94 : decode cX4_addOrder 94 = .ok (.ireturn, 1) := by decide +kernel
set_option maxRecDepth 20000 in
theorem ggX4_change_X2_has : GoodIn wsX4_change wsX2_has := goodIn_r _ [11, 12, 83, 84, 85, 86, 87, 88, 89, 90, 91, 92, 93, 94, 95, 96, 97, 98] (by decide +kernel) (by decide +kernel)
set_option maxRecDepth 20000 in
theorem gX4_change_X2_has : GoodIn wsX4_change (wsV RX4 124 RX2 yX2_has wsX2_has) := goodIn_app (goodIn_of _ (by decide +kernel)) ggX4_change_X2_has
set_option maxRecDepth 20000 in
theorem ggX4_change_X4_isNumberOfOrder : GoodIn wsX4_change wsX4_isNumberOfOrder := goodIn_r _ [16, 17, 18, 15, 19, 20, 21, 22, 23, 24, 25, 26, 27, 28] (by decide +kernel) (by decide +kernel)
set_option maxRecDepth 20000 in
theorem gX4_change_X4_isNumberOfOrder : GoodIn wsX4_change (va_wsS RX4 214 yX4_isNumberOfOrder wsX4_isNumberOfOrder) := goodIn_app (goodIn_of _ (by decide +kernel)) ggX4_change_X4_isNumberOfOrder
set_option maxRecDepth 20000 in
theorem ggX4_change_X1_remember : GoodIn wsX4_change wsX1_remember := goodIn_r _ [33, 34, 35, 36, 37, 38, 39, 10, 40, 41, 12, 42, 43, 44, 45, 46, 47, 48, 49, 50, 51, 52, 53, 54, 55, 56, 57, 58, 59, 60, 61, 62, 63, 64, 65, 66, 67, 99, 100, 101, 83, 84, 85, 86, 87, 88, 89, 90, 91, 92, 93, 94, 95, 96, 97, 98, 102, 103, 104, 105] (by decide +kernel) (by decide +kernel)
set_option maxRecDepth 20000 in
theorem gX4_change_X1_remember : GoodIn wsX4_change (wsV RX4 191 RX1 yX1_remember wsX1_remember) := goodIn_app (goodIn_of _ (by decide +kernel)) ggX4_change_X1_remember
set_option maxRecDepth 20000 in
theorem ggX4_change_X2_replace : GoodIn wsX4_change wsX2_replace := goodIn_r _ [71, 72, 73, 74, 10, 75, 44, 45, 46, 47, 48, 83, 84, 85, 86, 87, 88, 89, 90, 91, 92, 93, 94, 95, 96, 97, 98] (by decide +kernel) (by decide +kernel)
set_option maxRecDepth 20000 in
theorem gX4_change_X2_replace : GoodIn wsX4_change (wsV RX4 220 RX2 yX2_replace wsX2_replace) := goodIn_app (goodIn_of _ (by decide +kernel)) ggX4_change_X2_replace
theorem dX4_change_0 : decode cX4_change 0 = .ok (.aload_n 0, 1) := by decide +kernel
theorem dX4_change_1 : decode cX4_change 1 = .ok (.getfield 19, 3) := by decide +kernel
theorem dX4_change_4 : decode cX4_change 4 = .ok (.iload_n 1, 1) := by decide +kernel
theorem dX4_change_5 : decode cX4_change 5 = .ok (.invokevirtual 124, 3) := by decide +kernel
theorem dX4_change_8 : decode cX4_change 8 = .ok (.ifCond .ne 13, 3) := by decide +kernel
theorem dX4_change_11 : decode cX4_change 11 = .ok (.new 128, 3) := by decide +kernel
theorem dX4_change_14 : decode cX4_change 14 = .ok (.dup, 1) := by decide +kernel
theorem dX4_change_15 : decode cX4_change 15 = .ok (.ldc 130, 2) := by decide +kernel
theorem dX4_change_17 : decode cX4_change 17 = .ok (.invokespecial 132, 3) := by decide +kernel
theorem dX4_change_20 : decode cX4_change 20 = .ok (.athrow, 1) := by decide +kernel
theorem dX4_change_21 : decode cX4_change 21 = .ok (.iload_n 2, 1) := by decide +kernel
theorem dX4_change_22 : decode cX4_change 22 = .ok (.iload_n 3, 1) := by decide +kernel
theorem dX4_change_23 : decode cX4_change 23 = .ok (.invokestatic 214, 3) := by decide +kernel
theorem dX4_change_26 : decode cX4_change 26 = .ok (.ifCond .ne 13, 3) := by decide +kernel
theorem dX4_change_29 : decode cX4_change 29 = .ok (.new 44, 3) := by decide +kernel
theorem dX4_change_32 : decode cX4_change 32 = .ok (.dup, 1) := by decide +kernel
theorem dX4_change_33 : decode cX4_change 33 = .ok (.ldc 218, 2) := by decide +kernel
theorem dX4_change_35 : decode cX4_change 35 = .ok (.invokespecial 48, 3) := by decide +kernel
theorem dX4_change_38 : decode cX4_change 38 = .ok (.athrow, 1) := by decide +kernel
theorem dX4_change_39 : decode cX4_change 39 = .ok (.aload_n 0, 1) := by decide +kernel
theorem dX4_change_40 : decode cX4_change 40 = .ok (.getfield 32, 3) := by decide +kernel
theorem dX4_change_43 : decode cX4_change 43 = .ok (.aload_n 0, 1) := by decide +kernel
theorem dX4_change_44 : decode cX4_change 44 = .ok (.getfield 19, 3) := by decide +kernel
theorem dX4_change_47 : decode cX4_change 47 = .ok (.invokevirtual 191, 3) := by decide +kernel
theorem dX4_change_50 : decode cX4_change 50 = .ok (.aload_n 0, 1) := by decide +kernel
theorem dX4_change_51 : decode cX4_change 51 = .ok (.getfield 19, 3) := by decide +kernel
theorem dX4_change_54 : decode cX4_change 54 = .ok (.iload_n 1, 1) := by decide +kernel
theorem dX4_change_55 : decode cX4_change 55 = .ok (.iload_n 2, 1) := by decide +kernel
theorem dX4_change_56 : decode cX4_change 56 = .ok (.iload_n 3, 1) := by decide +kernel
theorem dX4_change_57 : decode cX4_change 57 = .ok (.invokevirtual 220, 3) := by decide +kernel
theorem dX4_change_60 : decode cX4_change 60 = .ok (.ireturn, 1) := by decide +kernel
set_option maxRecDepth 20000 in
theorem ggX4_move_X2_has : GoodIn wsX4_move wsX2_has := goodIn_r _ [11, 12, 83, 84, 85, 86, 87, 88, 89, 90, 91, 92, 93, 94, 95, 96, 97, 98] (by decide +kernel) (by decide +kernel)
set_option maxRecDepth 20000 in
theorem gX4_move_X2_has : GoodIn wsX4_move (wsV RX4 124 RX2 yX2_has wsX2_has) := goodIn_app (goodIn_of _ (by decide +kernel)) ggX4_move_X2_has
set_option maxRecDepth 20000 in
theorem ggX4_move_X2_hasPlace : GoodIn wsX4_move wsX2_hasPlace := goodIn_r _ [16, 17, 83, 84, 85, 86, 87, 88, 89, 90, 91, 92, 93, 94, 95, 96, 97, 98] (by decide +kernel) (by decide +kernel)
set_option maxRecDepth 20000 in
theorem gX4_move_X2_hasPlace : GoodIn wsX4_move (wsV RX4 169 RX2 yX2_hasPlace wsX2_hasPlace) := goodIn_app (goodIn_of _ (by decide +kernel)) ggX4_move_X2_hasPlace
set_option maxRecDepth 20000 in
theorem ggX4_move_X2_isFreeFor : GoodIn wsX4_move wsX2_isFreeFor := goodIn_r _ [21, 22, 23, 24, 10, 25, 26, 27, 8, 9, 11, 12, 83, 84, 85, 86, 87, 88, 89, 90, 91, 92, 93, 94, 95, 96, 97, 98] (by decide +kernel) (by decide +kernel)
set_option maxRecDepth 20000 in
theorem gX4_move_X2_isFreeFor : GoodIn wsX4_move (wsV RX4 226 RX2 yX2_isFreeFor wsX2_isFreeFor) := goodIn_app (goodIn_of _ (by decide +kernel)) ggX4_move_X2_isFreeFor
set_option maxRecDepth 20000 in
theorem ggX4_move_X1_remember : GoodIn wsX4_move wsX1_remember := goodIn_r _ [32, 33, 34, 35, 36, 37, 38, 10, 39, 17, 12, 40, 41, 42, 43, 44, 45, 46, 26, 47, 48, 49, 50, 51, 52, 53, 54, 55, 56, 57, 58, 59, 60, 61, 62, 63, 64, 99, 100, 101, 83, 84, 85, 86, 87, 88, 89, 90, 91, 92, 93, 94, 95, 96, 97, 98, 102, 103, 104, 105] (by decide +kernel) (by decide +kernel)
set_option maxRecDepth 20000 in
theorem gX4_move_X1_remember : GoodIn wsX4_move (wsV RX4 191 RX1 yX1_remember wsX1_remember) := goodIn_app (goodIn_of _ (by decide +kernel)) ggX4_move_X1_remember
set_option maxRecDepth 20000 in
theorem ggX4_move_X2_put : GoodIn wsX4_move wsX2_put := goodIn_r _ [68, 26, 47, 69, 70, 71, 10, 72, 48, 42, 51, 73, 74, 75, 83, 84, 85, 86, 87, 88, 89, 90, 91, 92, 93, 94, 95, 96, 97, 98] (by decide +kernel) (by decide +kernel)
set_option maxRecDepth 20000 in
theorem gX4_move_X2_put : GoodIn wsX4_move (wsV RX4 231 RX2 yX2_put wsX2_put) := goodIn_app (goodIn_of _ (by decide +kernel)) ggX4_move_X2_put
theorem dX4_move_0 : decode cX4_move 0 = .ok (.aload_n 0, 1) := by decide +kernel
theorem dX4_move_1 : decode cX4_move 1 = .ok (.getfield 19, 3) := by decide +kernel
theorem dX4_move_4 : decode cX4_move 4 = .ok (.iload_n 1, 1) := by decide +kernel
theorem dX4_move_5 : decode cX4_move 5 = .ok (.invokevirtual 124, 3) := by decide +kernel
theorem dX4_move_8 : decode cX4_move 8 = .ok (.ifCond .eq 14, 3) := by decide +kernel
theorem dX4_move_11 : decode cX4_move 11 = .ok (.aload_n 0, 1) := by decide +kernel
theorem dX4_move_12 : decode cX4_move 12 = .ok (.getfield 19, 3) := by decide +kernel
theorem dX4_move_15 : decode cX4_move 15 = .ok (.iload_n 2, 1) := by decide +kernel
theorem dX4_move_16 : decode cX4_move 16 = .ok (.invokevirtual 169, 3) := by decide +kernel
theorem dX4_move_19 : decode cX4_move 19 = .ok (.ifCond .ne 13, 3) := by decide +kernel
theorem dX4_move_22 : decode cX4_move 22 = .ok (.new 128, 3) := by decide +kernel
theorem dX4_move_25 : decode cX4_move 25 = .ok (.dup, 1) := by decide +kernel
theorem dX4_move_26 : decode cX4_move 26 = .ok (.ldc 224, 2) := by decide +kernel
theorem dX4_move_28 : decode cX4_move 28 = .ok (.invokespecial 132, 3) := by decide +kernel
theorem dX4_move_31 : decode cX4_move 31 = .ok (.athrow, 1) := by decide +kernel
theorem dX4_move_32 : decode cX4_move 32 = .ok (.aload_n 0, 1) := by decide +kernel
theorem dX4_move_33 : decode cX4_move 33 = .ok (.getfield 19, 3) := by decide +kernel
theorem dX4_move_36 : decode cX4_move 36 = .ok (.iload_n 1, 1) := by decide +kernel
theorem dX4_move_37 : decode cX4_move 37 = .ok (.iload_n 2, 1) := by decide +kernel
theorem dX4_move_38 : decode cX4_move 38 = .ok (.invokevirtual 226, 3) := by decide +kernel
theorem dX4_move_41 : decode cX4_move 41 = .ok (.ifCond .ne 13, 3) := by decide +kernel
theorem dX4_move_44 : decode cX4_move 44 = .ok (.new 55, 3) := by decide +kernel
theorem dX4_move_47 : decode cX4_move 47 = .ok (.dup, 1) := by decide +kernel
theorem dX4_move_48 : decode cX4_move 48 = .ok (.ldc 229, 2) := by decide +kernel
theorem dX4_move_50 : decode cX4_move 50 = .ok (.invokespecial 59, 3) := by decide +kernel
theorem dX4_move_53 : decode cX4_move 53 = .ok (.athrow, 1) := by decide +kernel
theorem dX4_move_54 : decode cX4_move 54 = .ok (.aload_n 0, 1) := by decide +kernel
theorem dX4_move_55 : decode cX4_move 55 = .ok (.getfield 32, 3) := by decide +kernel
theorem dX4_move_58 : decode cX4_move 58 = .ok (.aload_n 0, 1) := by decide +kernel
theorem dX4_move_59 : decode cX4_move 59 = .ok (.getfield 19, 3) := by decide +kernel
theorem dX4_move_62 : decode cX4_move 62 = .ok (.invokevirtual 191, 3) := by decide +kernel
theorem dX4_move_65 : decode cX4_move 65 = .ok (.aload_n 0, 1) := by decide +kernel
theorem dX4_move_66 : decode cX4_move 66 = .ok (.getfield 19, 3) := by decide +kernel
theorem dX4_move_69 : decode cX4_move 69 = .ok (.iload_n 1, 1) := by decide +kernel
theorem dX4_move_70 : decode cX4_move 70 = .ok (.iload_n 2, 1) := by decide +kernel
theorem dX4_move_71 : decode cX4_move 71 = .ok (.invokevirtual 231, 3) := by decide +kernel
theorem dX4_move_74 : decode cX4_move 74 = .ok (.ireturn, 1) := by decide +kernel
set_option maxRecDepth 20000 in
theorem ggX4_lay_X1_remember : GoodIn wsX4_lay wsX1_remember := goodIn_r _ [7, 8, 9, 10, 11, 12, 13, 14, 15, 16, 17, 18, 19, 20, 21, 22, 23, 24, 25, 26, 27, 28, 29, 30, 31, 32, 33, 34, 35, 36, 37, 38, 39, 40, 41, 42, 43, 102, 103, 104, 105, 106, 107, 108, 109, 110, 111, 112, 113, 114, 115, 116, 117, 118, 119, 120, 121, 122, 123, 124] (by decide +kernel) (by decide +kernel)
set_option maxRecDepth 20000 in
theorem gX4_lay_X1_remember : GoodIn wsX4_lay (wsV RX4 191 RX1 yX1_remember wsX1_remember) := goodIn_app (goodIn_of _ (by decide +kernel)) ggX4_lay_X1_remember
set_option maxRecDepth 20000 in
theorem ggX4_lay_X2_layAll : GoodIn wsX4_lay wsX2_layAll := goodIn_r _ [47, 26, 48, 49, 50, 14, 51, 52, 53, 54, 55, 17, 56, 57, 58, 59, 25, 60, 61, 62, 63, 27, 20, 30, 64, 65, 66, 67, 68, 69, 70, 24, 71, 72, 73, 74, 16, 29, 75, 76, 77, 78, 22, 21, 79, 80, 81, 82, 83, 84, 85, 86, 87, 88, 89, 90, 91, 92, 93, 94, 105, 106, 107, 108, 109, 110, 111, 112, 113, 114, 115, 116, 117, 118, 119, 120] (by decide +kernel) (by decide +kernel)
set_option maxRecDepth 20000 in
theorem gX4_lay_X2_layAll : GoodIn wsX4_lay (wsV RX4 234 RX2 yX2_layAll wsX2_layAll) := goodIn_app (goodIn_of _ (by decide +kernel)) ggX4_lay_X2_layAll
theorem dX4_lay_0 : decode cX4_lay 0 = .ok (.aload_n 0, 1) := by decide +kernel
theorem dX4_lay_1 : decode cX4_lay 1 = .ok (.getfield 32, 3) := by decide +kernel
theorem dX4_lay_4 : decode cX4_lay 4 = .ok (.aload_n 0, 1) := by decide +kernel
theorem dX4_lay_5 : decode cX4_lay 5 = .ok (.getfield 19, 3) := by decide +kernel
theorem dX4_lay_8 : decode cX4_lay 8 = .ok (.invokevirtual 191, 3) := by decide +kernel
theorem dX4_lay_11 : decode cX4_lay 11 = .ok (.aload_n 0, 1) := by decide +kernel
theorem dX4_lay_12 : decode cX4_lay 12 = .ok (.getfield 19, 3) := by decide +kernel
theorem dX4_lay_15 : decode cX4_lay 15 = .ok (.invokevirtual 234, 3) := by decide +kernel
theorem dX4_lay_18 : decode cX4_lay 18 = .ok (.ireturn, 1) := by decide +kernel
set_option maxRecDepth 20000 in
theorem ggX4_run_X2_has : GoodIn wsX4_run wsX2_has := goodIn_r _ [9, 10, 89, 90, 91, 92, 93, 94, 95, 96, 97, 98, 99, 100, 101, 102, 103, 104] (by decide +kernel) (by decide +kernel)
set_option maxRecDepth 20000 in
theorem gX4_run_X2_has : GoodIn wsX4_run (wsV RX4 124 RX2 yX2_has wsX2_has) := goodIn_app (goodIn_of _ (by decide +kernel)) ggX4_run_X2_has
set_option maxRecDepth 20000 in
theorem ggX4_run_X1_remember : GoodIn wsX4_run wsX1_remember := goodIn_r _ [15, 16, 17, 18, 19, 20, 21, 8, 22, 23, 10, 24, 25, 26, 27, 28, 29, 30, 31, 32, 33, 34, 35, 36, 37, 38, 39, 40, 41, 42, 43, 44, 45, 46, 47, 48, 49, 105, 106, 107, 89, 90, 91, 92, 93, 94, 95, 96, 97, 98, 99, 100, 101, 102, 103, 104, 108, 109, 110, 111] (by decide +kernel) (by decide +kernel)
set_option maxRecDepth 20000 in
theorem gX4_run_X1_remember : GoodIn wsX4_run (wsV RX4 191 RX1 yX1_remember wsX1_remember) := goodIn_app (goodIn_of _ (by decide +kernel)) ggX4_run_X1_remember
set_option maxRecDepth 20000 in
theorem ggX4_run_X2_runFrom : GoodIn wsX4_run wsX2_runFrom := goodIn_r _ [53, 29, 28, 37, 25, 54, 55, 56, 8, 57, 31, 58, 6, 7, 9, 10, 59, 60, 61, 62, 24, 34, 33, 27, 63, 64, 65, 66, 23, 67, 68, 69, 70, 71, 72, 73, 74, 26, 36, 75, 76, 77, 78, 79, 80, 44, 81, 46, 47, 48, 49, 89, 90, 91, 92, 93, 94, 95, 96, 97, 98, 99, 100, 101, 102, 103, 104, 108, 109, 110, 111] (by decide +kernel) (by decide +kernel)
set_option maxRecDepth 20000 in
theorem gX4_run_X2_runFrom : GoodIn wsX4_run (wsV RX4 237 RX2 yX2_runFrom wsX2_runFrom) := goodIn_app (goodIn_of _ (by decide +kernel)) ggX4_run_X2_runFrom
theorem dX4_run_0 : decode cX4_run 0 = .ok (.aload_n 0, 1) := by decide +kernel
theorem dX4_run_1 : decode cX4_run 1 = .ok (.getfield 19, 3) := by decide +kernel
theorem dX4_run_4 : decode cX4_run 4 = .ok (.iload_n 1, 1) := by decide +kernel
theorem dX4_run_5 : decode cX4_run 5 = .ok (.invokevirtual 124, 3) := by decide +kernel
theorem dX4_run_8 : decode cX4_run 8 = .ok (.ifCond .ne 13, 3) := by decide +kernel
theorem dX4_run_11 : decode cX4_run 11 = .ok (.new 128, 3) := by decide +kernel
theorem dX4_run_14 : decode cX4_run 14 = .ok (.dup, 1) := by decide +kernel
theorem dX4_run_15 : decode cX4_run 15 = .ok (.ldc 130, 2) := by decide +kernel
theorem dX4_run_17 : decode cX4_run 17 = .ok (.invokespecial 132, 3) := by decide +kernel
theorem dX4_run_20 : decode cX4_run 20 = .ok (.athrow, 1) := by decide +kernel
theorem dX4_run_21 : decode cX4_run 21 = .ok (.aload_n 0, 1) := by decide +kernel
theorem dX4_run_22 : decode cX4_run 22 = .ok (.getfield 32, 3) := by decide +kernel
theorem dX4_run_25 : decode cX4_run 25 = .ok (.aload_n 0, 1) := by decide +kernel
theorem dX4_run_26 : decode cX4_run 26 = .ok (.getfield 19, 3) := by decide +kernel
theorem dX4_run_29 : decode cX4_run 29 = .ok (.invokevirtual 191, 3) := by decide +kernel
theorem dX4_run_32 : decode cX4_run 32 = .ok (.aload_n 0, 1) := by decide +kernel
theorem dX4_run_33 : decode cX4_run 33 = .ok (.getfield 19, 3) := by decide +kernel
theorem dX4_run_36 : decode cX4_run 36 = .ok (.iload_n 1, 1) := by decide +kernel
theorem dX4_run_37 : decode cX4_run 37 = .ok (.invokevirtual 237, 3) := by decide +kernel
theorem dX4_run_40 : decode cX4_run 40 = .ok (.ireturn, 1) := by decide +kernel
set_option maxRecDepth 20000 in
theorem ggX4_turn_X4_isTurn : GoodIn wsX4_turn wsX4_isTurn := goodIn_r _ [8] (by decide +kernel) (by decide +kernel)
set_option maxRecDepth 20000 in
theorem gX4_turn_X4_isTurn : GoodIn wsX4_turn (va_wsS RX4 240 yX4_isTurn wsX4_isTurn) := goodIn_app (goodIn_of _ (by decide +kernel)) ggX4_turn_X4_isTurn
set_option maxRecDepth 20000 in
theorem ggX4_turn_X1_remember : GoodIn wsX4_turn wsX1_remember := goodIn_r _ [13, 14, 15, 16, 17, 18, 19, 20, 21, 22, 23, 24, 25, 26, 27, 28, 29, 30, 31, 32, 33, 34, 35, 36, 37, 38, 39, 40, 41, 42, 43, 44, 45, 46, 47, 48, 49, 81, 82, 83, 65, 66, 67, 68, 69, 70, 71, 72, 73, 74, 75, 76, 77, 78, 79, 80, 84, 85, 86, 87] (by decide +kernel) (by decide +kernel)
set_option maxRecDepth 20000 in
theorem gX4_turn_X1_remember : GoodIn wsX4_turn (wsV RX4 191 RX1 yX1_remember wsX1_remember) := goodIn_app (goodIn_of _ (by decide +kernel)) ggX4_turn_X1_remember
set_option maxRecDepth 20000 in
theorem ggX4_turn_X2_around : GoodIn wsX4_turn wsX2_around := goodIn_r _ [53, 22, 54, 55, 56, 57, 65, 66, 67, 68, 69, 70, 71, 72, 73, 74, 75, 76, 77, 78, 79, 80] (by decide +kernel) (by decide +kernel)
set_option maxRecDepth 20000 in
theorem gX4_turn_X2_around : GoodIn wsX4_turn (wsV RX4 90 RX2 yX2_around wsX2_around) := goodIn_app (goodIn_of _ (by decide +kernel)) ggX4_turn_X2_around
theorem dX4_turn_0 : decode cX4_turn 0 = .ok (.iload_n 1, 1) := by decide +kernel
theorem dX4_turn_1 : decode cX4_turn 1 = .ok (.invokestatic 240, 3) := by decide +kernel
theorem dX4_turn_4 : decode cX4_turn 4 = .ok (.ifCond .ne 13, 3) := by decide +kernel
theorem dX4_turn_7 : decode cX4_turn 7 = .ok (.new 44, 3) := by decide +kernel
theorem dX4_turn_10 : decode cX4_turn 10 = .ok (.dup, 1) := by decide +kernel
theorem dX4_turn_11 : decode cX4_turn 11 = .ok (.ldc 243, 2) := by decide +kernel
theorem dX4_turn_13 : decode cX4_turn 13 = .ok (.invokespecial 48, 3) := by decide +kernel
theorem dX4_turn_16 : decode cX4_turn 16 = .ok (.athrow, 1) := by decide +kernel
theorem dX4_turn_17 : decode cX4_turn 17 = .ok (.aload_n 0, 1) := by decide +kernel
theorem dX4_turn_18 : decode cX4_turn 18 = .ok (.getfield 32, 3) := by decide +kernel
theorem dX4_turn_21 : decode cX4_turn 21 = .ok (.aload_n 0, 1) := by decide +kernel
theorem dX4_turn_22 : decode cX4_turn 22 = .ok (.getfield 19, 3) := by decide +kernel
theorem dX4_turn_25 : decode cX4_turn 25 = .ok (.invokevirtual 191, 3) := by decide +kernel
theorem dX4_turn_28 : decode cX4_turn 28 = .ok (.aload_n 0, 1) := by decide +kernel
theorem dX4_turn_29 : decode cX4_turn 29 = .ok (.getfield 19, 3) := by decide +kernel
theorem dX4_turn_32 : decode cX4_turn 32 = .ok (.dup, 1) := by decide +kernel
theorem dX4_turn_33 : decode cX4_turn 33 = .ok (.getfield 87, 3) := by decide +kernel
theorem dX4_turn_36 : decode cX4_turn 36 = .ok (.iload_n 1, 1) := by decide +kernel
theorem dX4_turn_37 : decode cX4_turn 37 = .ok (.iadd, 1) := by decide +kernel
theorem dX4_turn_38 : decode cX4_turn 38 = .ok (.putfield 87, 3) := by decide +kernel
theorem dX4_turn_41 : decode cX4_turn 41 = .ok (.aload_n 0, 1) := by decide +kernel
theorem dX4_turn_42 : decode cX4_turn 42 = .ok (.getfield 19, 3) := by decide +kernel
theorem dX4_turn_45 : decode cX4_turn 45 = .ok (.aload_n 0, 1) := by decide +kernel
theorem dX4_turn_46 : decode cX4_turn 46 = .ok (.getfield 19, 3) := by decide +kernel
theorem dX4_turn_49 : decode cX4_turn 49 = .ok (.getfield 87, 3) := by decide +kernel
theorem dX4_turn_52 : decode cX4_turn 52 = .ok (.invokevirtual 90, 3) := by decide +kernel
theorem dX4_turn_55 : decode cX4_turn 55 = .ok (.ireturn, 1) := by decide +kernel
set_option maxRecDepth 20000 in
theorem ggX4_waits_X2_has : GoodIn wsX4_waits wsX2_has := goodIn_r _ [8, 9, 37, 38, 39, 40, 41, 42, 43, 44, 45, 46, 47, 48, 49, 50, 51, 52] (by decide +kernel) (by decide +kernel)
set_option maxRecDepth 20000 in
theorem gX4_waits_X2_has : GoodIn wsX4_waits (wsV RX4 124 RX2 yX2_has wsX2_has) := goodIn_app (goodIn_of _ (by decide +kernel)) ggX4_waits_X2_has
set_option maxRecDepth 20000 in
theorem ggX4_waits_X2_waitFor : GoodIn wsX4_waits wsX2_waitFor := goodIn_r _ [13, 14, 15, 16, 17, 18, 7, 19, 20, 5, 6, 8, 9, 21, 22, 23, 24, 25, 26, 27, 28, 29, 37, 38, 39, 40, 41, 42, 43, 44, 45, 46, 47, 48, 49, 50, 51, 52] (by decide +kernel) (by decide +kernel)
set_option maxRecDepth 20000 in
theorem gX4_waits_X2_waitFor : GoodIn wsX4_waits (wsV RX4 251 RX2 yX2_waitFor wsX2_waitFor) := goodIn_app (goodIn_of _ (by decide +kernel)) ggX4_waits_X2_waitFor
theorem dX4_waits_0 : decode cX4_waits 0 = .ok (.aload_n 0, 1) := by decide +kernel
theorem dX4_waits_1 : decode cX4_waits 1 = .ok (.getfield 19, 3) := by decide +kernel
theorem dX4_waits_4 : decode cX4_waits 4 = .ok (.iload_n 1, 1) := by decide +kernel
theorem dX4_waits_5 : decode cX4_waits 5 = .ok (.invokevirtual 124, 3) := by decide +kernel
theorem dX4_waits_8 : decode cX4_waits 8 = .ok (.ifCond .ne 13, 3) := by decide +kernel
theorem dX4_waits_11 : decode cX4_waits 11 = .ok (.new 128, 3) := by decide +kernel
theorem dX4_waits_14 : decode cX4_waits 14 = .ok (.dup, 1) := by decide +kernel
theorem dX4_waits_15 : decode cX4_waits 15 = .ok (.ldc 130, 2) := by decide +kernel
theorem dX4_waits_17 : decode cX4_waits 17 = .ok (.invokespecial 132, 3) := by decide +kernel
theorem dX4_waits_20 : decode cX4_waits 20 = .ok (.athrow, 1) := by decide +kernel
theorem dX4_waits_21 : decode cX4_waits 21 = .ok (.aload_n 0, 1) := by decide +kernel
theorem dX4_waits_22 : decode cX4_waits 22 = .ok (.getfield 19, 3) := by decide +kernel
theorem dX4_waits_25 : decode cX4_waits 25 = .ok (.iload_n 1, 1) := by decide +kernel
theorem dX4_waits_26 : decode cX4_waits 26 = .ok (.invokevirtual 251, 3) := by decide +kernel
theorem dX4_waits_29 : decode cX4_waits 29 = .ok (.ireturn, 1) := by decide +kernel
set_option maxRecDepth 20000 in
theorem ggX4_time_X2_has : GoodIn wsX4_time wsX2_has := goodIn_r _ [8, 9, 85, 86, 87, 88, 89, 90, 91, 92, 93, 94, 95, 96, 97, 98, 99, 100] (by decide +kernel) (by decide +kernel)
set_option maxRecDepth 20000 in
theorem gX4_time_X2_has : GoodIn wsX4_time (wsV RX4 124 RX2 yX2_has wsX2_has) := goodIn_app (goodIn_of _ (by decide +kernel)) ggX4_time_X2_has
set_option maxRecDepth 20000 in
theorem ggX4_time_X4_ticksOfRun : GoodIn wsX4_time wsX4_ticksOfRun := goodIn_r _ [14, 15, 16, 17, 18, 7, 19, 20, 9, 21, 22, 23, 24, 25, 26, 27, 28, 29, 30, 31, 32, 33, 34, 35, 36, 37, 38, 39, 40, 41, 42, 43, 44, 45, 46, 47, 48, 49, 50, 51, 52, 53, 54, 55, 5, 6, 8, 56, 57, 58, 59, 60, 61, 62, 63, 64, 65, 66, 67, 68, 69, 70, 71, 72, 13, 73, 74, 75, 76, 77, 78, 79, 80, 81, 82, 83, 84, 85, 86, 87, 88, 89, 90, 91, 92, 93, 94, 95, 96, 97, 98, 99, 100, 101, 102, 103, 104] (by decide +kernel) (by decide +kernel)
set_option maxRecDepth 20000 in
theorem gX4_time_X4_ticksOfRun : GoodIn wsX4_time (wsV RX4 254 RX4 yX4_ticksOfRun wsX4_ticksOfRun) := goodIn_app (goodIn_of _ (by decide +kernel)) ggX4_time_X4_ticksOfRun
theorem dX4_time_0 : decode cX4_time 0 = .ok (.aload_n 0, 1) := by decide +kernel
theorem dX4_time_1 : decode cX4_time 1 = .ok (.getfield 19, 3) := by decide +kernel
theorem dX4_time_4 : decode cX4_time 4 = .ok (.iload_n 1, 1) := by decide +kernel
theorem dX4_time_5 : decode cX4_time 5 = .ok (.invokevirtual 124, 3) := by decide +kernel
theorem dX4_time_8 : decode cX4_time 8 = .ok (.ifCond .ne 13, 3) := by decide +kernel
theorem dX4_time_11 : decode cX4_time 11 = .ok (.new 128, 3) := by decide +kernel
theorem dX4_time_14 : decode cX4_time 14 = .ok (.dup, 1) := by decide +kernel
theorem dX4_time_15 : decode cX4_time 15 = .ok (.ldc 130, 2) := by decide +kernel
theorem dX4_time_17 : decode cX4_time 17 = .ok (.invokespecial 132, 3) := by decide +kernel
theorem dX4_time_20 : decode cX4_time 20 = .ok (.athrow, 1) := by decide +kernel
theorem dX4_time_21 : decode cX4_time 21 = .ok (.aload_n 0, 1) := by decide +kernel
theorem dX4_time_22 : decode cX4_time 22 = .ok (.aload_n 0, 1) := by decide +kernel
theorem dX4_time_23 : decode cX4_time 23 = .ok (.getfield 19, 3) := by decide +kernel
theorem dX4_time_26 : decode cX4_time 26 = .ok (.iload_n 1, 1) := by decide +kernel
theorem dX4_time_27 : decode cX4_time 27 = .ok (.invokevirtual 254, 3) := by decide +kernel
theorem dX4_time_30 : decode cX4_time 30 = .ok (.ireturn, 1) := by decide +kernel
set_option maxRecDepth 20000 in
theorem ggX4_bestPlace_X2_has : GoodIn wsX4_bestPlace wsX2_has := goodIn_r _ [9, 10, 94, 95, 96, 97, 98, 99, 100, 101, 102, 103, 104, 105, 106, 107, 108, 109] (by decide +kernel) (by decide +kernel)
set_option maxRecDepth 20000 in
theorem gX4_bestPlace_X2_has : GoodIn wsX4_bestPlace (wsV RX4 124 RX2 yX2_has wsX2_has) := goodIn_app (goodIn_of _ (by decide +kernel)) ggX4_bestPlace_X2_has
set_option maxRecDepth 20000 in
theorem ggX4_bestPlace_X2_copyFrom : GoodIn wsX4_bestPlace wsX2_copyFrom := goodIn_r _ [14, 15, 10, 16, 17, 18, 19, 20, 21, 22, 23, 24, 25, 26, 27, 28, 29, 30, 31, 8, 32, 33, 34, 35, 36, 37, 38, 39, 40, 41, 94, 95, 96, 97, 98, 99, 100, 101, 102, 103, 104, 105, 106, 107, 108, 109, 110, 111, 112, 113] (by decide +kernel) (by decide +kernel)
set_option maxRecDepth 20000 in
theorem gX4_bestPlace_X2_copyFrom : GoodIn wsX4_bestPlace (wsV RX4 258 RX2 yX2_copyFrom wsX2_copyFrom) := goodIn_app (goodIn_of _ (by decide +kernel)) ggX4_bestPlace_X2_copyFrom
set_option maxRecDepth 20000 in
theorem ggX4_bestPlace_X2_isFreeFor : GoodIn wsX4_bestPlace wsX2_isFreeFor := goodIn_r _ [45, 46, 47, 48, 8, 49, 23, 50, 6, 7, 9, 10, 94, 95, 96, 97, 98, 99, 100, 101, 102, 103, 104, 105, 106, 107, 108, 109] (by decide +kernel) (by decide +kernel)
set_option maxRecDepth 20000 in
theorem gX4_bestPlace_X2_isFreeFor : GoodIn wsX4_bestPlace (wsV RX4 226 RX2 yX2_isFreeFor wsX2_isFreeFor) := goodIn_app (goodIn_of _ (by decide +kernel)) ggX4_bestPlace_X2_isFreeFor
set_option maxRecDepth 20000 in
theorem ggX4_bestPlace_X4_ticksOfRun : GoodIn wsX4_bestPlace wsX4_ticksOfRun := goodIn_r _ [55, 56, 11, 12, 13, 8, 14, 15, 10, 16, 17, 18, 19, 20, 21, 22, 23, 24, 25, 26, 27, 28, 29, 30, 31, 32, 33, 34, 35, 36, 37, 38, 39, 40, 41, 57, 58, 59, 60, 61, 62, 63, 64, 50, 6, 7, 9, 65, 66, 67, 68, 69, 70, 71, 72, 73, 74, 75, 76, 77, 78, 79, 80, 81, 54, 82, 83, 84, 85, 86, 87, 88, 89, 90, 91, 92, 93, 94, 95, 96, 97, 98, 99, 100, 101, 102, 103, 104, 105, 106, 107, 108, 109, 110, 111, 112, 113] (by decide +kernel) (by decide +kernel)
set_option maxRecDepth 20000 in
theorem gX4_bestPlace_X4_ticksOfRun : GoodIn wsX4_bestPlace (wsV RX4 254 RX4 yX4_ticksOfRun wsX4_ticksOfRun) := goodIn_app (goodIn_of _ (by decide +kernel)) ggX4_bestPlace_X4_ticksOfRun
theorem dX4_bestPlace_0 : decode cX4_bestPlace 0 = .ok (.aload_n 0, 1) := by decide +kernel
theorem dX4_bestPlace_1 : decode cX4_bestPlace 1 = .ok (.getfield 19, 3) := by decide +kernel
theorem dX4_bestPlace_4 : decode cX4_bestPlace 4 = .ok (.iload_n 1, 1) := by decide +kernel
theorem dX4_bestPlace_5 : decode cX4_bestPlace 5 = .ok (.invokevirtual 124, 3) := by decide +kernel
theorem dX4_bestPlace_8 : decode cX4_bestPlace 8 = .ok (.ifCond .eq 14, 3) := by decide +kernel
theorem dX4_bestPlace_11 : decode cX4_bestPlace 11 = .ok (.aload_n 0, 1) := by decide +kernel
theorem dX4_bestPlace_12 : decode cX4_bestPlace 12 = .ok (.getfield 19, 3) := by decide +kernel
theorem dX4_bestPlace_15 : decode cX4_bestPlace 15 = .ok (.iload_n 2, 1) := by decide +kernel
theorem dX4_bestPlace_16 : decode cX4_bestPlace 16 = .ok (.invokevirtual 124, 3) := by decide +kernel
theorem dX4_bestPlace_19 : decode cX4_bestPlace 19 = .ok (.ifCond .ne 13, 3) := by decide +kernel
theorem dX4_bestPlace_22 : decode cX4_bestPlace 22 = .ok (.new 128, 3) := by decide +kernel
theorem dX4_bestPlace_25 : decode cX4_bestPlace 25 = .ok (.dup, 1) := by decide +kernel
theorem dX4_bestPlace_26 : decode cX4_bestPlace 26 = .ok (.ldc 130, 2) := by decide +kernel
theorem dX4_bestPlace_28 : decode cX4_bestPlace 28 = .ok (.invokespecial 132, 3) := by decide +kernel
theorem dX4_bestPlace_31 : decode cX4_bestPlace 31 = .ok (.athrow, 1) := by decide +kernel
theorem dX4_bestPlace_32 : decode cX4_bestPlace 32 = .ok (.aload_n 0, 1) := by decide +kernel
theorem dX4_bestPlace_33 : decode cX4_bestPlace 33 = .ok (.getfield 23, 3) := by decide +kernel
theorem dX4_bestPlace_36 : decode cX4_bestPlace 36 = .ok (.aload_n 0, 1) := by decide +kernel
theorem dX4_bestPlace_37 : decode cX4_bestPlace 37 = .ok (.getfield 19, 3) := by decide +kernel
theorem dX4_bestPlace_40 : decode cX4_bestPlace 40 = .ok (.invokevirtual 258, 3) := by decide +kernel
theorem dX4_bestPlace_43 : decode cX4_bestPlace 43 = .ok (.iconst (-1), 1) := by decide +kernel
theorem dX4_bestPlace_44 : decode cX4_bestPlace 44 = .ok (.istore_n 3, 1) := by decide +kernel
theorem dX4_bestPlace_45 : decode cX4_bestPlace 45 = .ok (.iconst 0, 1) := by decide +kernel
theorem dX4_bestPlace_46 : decode cX4_bestPlace 46 = .ok (.istore 4, 2) := by decide +kernel
theorem dX4_bestPlace_48 : decode cX4_bestPlace 48 = .ok (.iconst 0, 1) := by decide +kernel
theorem dX4_bestPlace_49 : decode cX4_bestPlace 49 = .ok (.istore 5, 2) := by decide +kernel
theorem dX4_bestPlace_51 : decode cX4_bestPlace 51 = .ok (.iload 5, 2) := by decide +kernel
theorem dX4_bestPlace_53 : decode cX4_bestPlace 53 = .ok (.aload_n 0, 1) := by decide +kernel
theorem dX4_bestPlace_54 : decode cX4_bestPlace 54 = .ok (.getfield 19, 3) := by decide +kernel
theorem dX4_bestPlace_57 : decode cX4_bestPlace 57 = .ok (.getfield 84, 3) := by decide +kernel
theorem dX4_bestPlace_60 : decode cX4_bestPlace 60 = .ok (.if_icmp .ge 63, 3) := by decide +kernel
theorem dX4_bestPlace_63 : decode cX4_bestPlace 63 = .ok (.aload_n 0, 1) := by decide +kernel
theorem dX4_bestPlace_64 : decode cX4_bestPlace 64 = .ok (.getfield 19, 3) := by decide +kernel
theorem dX4_bestPlace_67 : decode cX4_bestPlace 67 = .ok (.iload_n 1, 1) := by decide +kernel
theorem dX4_bestPlace_68 : decode cX4_bestPlace 68 = .ok (.iload 5, 2) := by decide +kernel
theorem dX4_bestPlace_70 : decode cX4_bestPlace 70 = .ok (.invokevirtual 226, 3) := by decide +kernel
theorem dX4_bestPlace_73 : decode cX4_bestPlace 73 = .ok (.ifCond .eq 44, 3) := by decide +kernel
theorem dX4_bestPlace_76 : decode cX4_bestPlace 76 = .ok (.aload_n 0, 1) := by decide +kernel
theorem dX4_bestPlace_77 : decode cX4_bestPlace 77 = .ok (.getfield 23, 3) := by decide +kernel
theorem dX4_bestPlace_80 : decode cX4_bestPlace 80 = .ok (.getfield 148, 3) := by decide +kernel
theorem dX4_bestPlace_83 : decode cX4_bestPlace 83 = .ok (.iload_n 1, 1) := by decide +kernel
theorem dX4_bestPlace_84 : decode cX4_bestPlace 84 = .ok (.iload 5, 2) := by decide +kernel
theorem dX4_bestPlace_86 : decode cX4_bestPlace 86 = .ok (.iastore, 1) := by decide +kernel
theorem dX4_bestPlace_87 : decode cX4_bestPlace 87 = .ok (.aload_n 0, 1) := by decide +kernel
theorem dX4_bestPlace_88 : decode cX4_bestPlace 88 = .ok (.aload_n 0, 1) := by decide +kernel
theorem dX4_bestPlace_89 : decode cX4_bestPlace 89 = .ok (.getfield 23, 3) := by decide +kernel
theorem dX4_bestPlace_92 : decode cX4_bestPlace 92 = .ok (.iload_n 2, 1) := by decide +kernel
theorem dX4_bestPlace_93 : decode cX4_bestPlace 93 = .ok (.invokevirtual 254, 3) := by decide +kernel
theorem dX4_bestPlace_96 : decode cX4_bestPlace 96 = .ok (.istore 6, 2) := by decide +kernel
theorem dX4_bestPlace_98 : decode cX4_bestPlace 98 = .ok (.iload_n 3, 1) := by decide +kernel
theorem dX4_bestPlace_99 : decode cX4_bestPlace 99 = .ok (.iconst (-1), 1) := by decide +kernel
theorem dX4_bestPlace_100 : decode cX4_bestPlace 100 = .ok (.if_icmp .eq 10, 3) := by decide +kernel
theorem dX4_bestPlace_103 : decode cX4_bestPlace 103 = .ok (.iload 6, 2) := by decide +kernel
theorem dX4_bestPlace_105 : decode cX4_bestPlace 105 = .ok (.iload 4, 2) := by decide +kernel
theorem dX4_bestPlace_107 : decode cX4_bestPlace 107 = .ok (.if_icmp .ge 10, 3) := by decide +kernel
theorem dX4_bestPlace_110 : decode cX4_bestPlace 110 = .ok (.iload 5, 2) := by decide +kernel
theorem dX4_bestPlace_112 : decode cX4_bestPlace 112 = .ok (.istore_n 3, 1) := by decide +kernel
theorem dX4_bestPlace_113 : decode cX4_bestPlace 113 = .ok (.iload 6, 2) := by decide +kernel
theorem dX4_bestPlace_115 : decode cX4_bestPlace 115 = .ok (.istore 4, 2) := by decide +kernel
theorem dX4_bestPlace_117 : decode cX4_bestPlace 117 = .ok (.iinc 5 1, 3) := by decide +kernel
theorem dX4_bestPlace_120 : decode cX4_bestPlace 120 = .ok (.goto (-69), 3) := by decide +kernel
theorem dX4_bestPlace_123 : decode cX4_bestPlace 123 = .ok (.iload_n 3, 1) := by decide +kernel
theorem dX4_bestPlace_124 : decode cX4_bestPlace 124 = .ok (.ireturn, 1) := by decide +kernel
set_option maxRecDepth 20000 in
theorem ggX4_leastBribe_X2_has : GoodIn wsX4_leastBribe wsX2_has := goodIn_r _ [9, 10, 97, 98, 99, 100, 101, 102, 103, 104, 105, 106, 107, 108, 109, 110, 111, 112] (by decide +kernel) (by decide +kernel)
set_option maxRecDepth 20000 in
theorem gX4_leastBribe_X2_has : GoodIn wsX4_leastBribe (wsV RX4 124 RX2 yX2_has wsX2_has) := goodIn_app (goodIn_of _ (by decide +kernel)) ggX4_leastBribe_X2_has
set_option maxRecDepth 20000 in
theorem ggX4_leastBribe_X2_copyFrom : GoodIn wsX4_leastBribe wsX2_copyFrom := goodIn_r _ [14, 15, 10, 16, 17, 18, 19, 20, 21, 22, 23, 24, 25, 26, 27, 28, 29, 30, 31, 8, 32, 33, 34, 35, 36, 37, 38, 39, 40, 41, 97, 98, 99, 100, 101, 102, 103, 104, 105, 106, 107, 108, 109, 110, 111, 112, 113, 114, 115, 116] (by decide +kernel) (by decide +kernel)
set_option maxRecDepth 20000 in
theorem gX4_leastBribe_X2_copyFrom : GoodIn wsX4_leastBribe (wsV RX4 258 RX2 yX2_copyFrom wsX2_copyFrom) := goodIn_app (goodIn_of _ (by decide +kernel)) ggX4_leastBribe_X2_copyFrom
set_option maxRecDepth 20000 in
theorem ggX4_leastBribe_X2_layAll : GoodIn wsX4_leastBribe wsX2_layAll := goodIn_r _ [45, 24, 46, 47, 48, 8, 49, 50, 6, 7, 9, 10, 51, 52, 53, 54, 23, 55, 56, 57, 58, 25, 18, 28, 59, 60, 61, 62, 63, 64, 65, 22, 66, 67, 68, 69, 15, 27, 70, 71, 72, 73, 20, 19, 74, 75, 76, 77, 78, 79, 80, 81, 82, 83, 84, 85, 86, 87, 88, 89, 97, 98, 99, 100, 101, 102, 103, 104, 105, 106, 107, 108, 109, 110, 111, 112] (by decide +kernel) (by decide +kernel)
set_option maxRecDepth 20000 in
theorem gX4_leastBribe_X2_layAll : GoodIn wsX4_leastBribe (wsV RX4 234 RX2 yX2_layAll wsX2_layAll) := goodIn_app (goodIn_of _ (by decide +kernel)) ggX4_leastBribe_X2_layAll
theorem dX4_leastBribe_0 : decode cX4_leastBribe 0 = .ok (.aload_n 0, 1) := by decide +kernel
theorem dX4_leastBribe_1 : decode cX4_leastBribe 1 = .ok (.getfield 19, 3) := by decide +kernel
theorem dX4_leastBribe_4 : decode cX4_leastBribe 4 = .ok (.iload_n 1, 1) := by decide +kernel
theorem dX4_leastBribe_5 : decode cX4_leastBribe 5 = .ok (.invokevirtual 124, 3) := by decide +kernel
theorem dX4_leastBribe_8 : decode cX4_leastBribe 8 = .ok (.ifCond .ne 13, 3) := by decide +kernel
theorem dX4_leastBribe_11 : decode cX4_leastBribe 11 = .ok (.new 128, 3) := by decide +kernel
theorem dX4_leastBribe_14 : decode cX4_leastBribe 14 = .ok (.dup, 1) := by decide +kernel
theorem dX4_leastBribe_15 : decode cX4_leastBribe 15 = .ok (.ldc 130, 2) := by decide +kernel
theorem dX4_leastBribe_17 : decode cX4_leastBribe 17 = .ok (.invokespecial 132, 3) := by decide +kernel
theorem dX4_leastBribe_20 : decode cX4_leastBribe 20 = .ok (.athrow, 1) := by decide +kernel
theorem dX4_leastBribe_21 : decode cX4_leastBribe 21 = .ok (.aload_n 0, 1) := by decide +kernel
theorem dX4_leastBribe_22 : decode cX4_leastBribe 22 = .ok (.getfield 23, 3) := by decide +kernel
theorem dX4_leastBribe_25 : decode cX4_leastBribe 25 = .ok (.aload_n 0, 1) := by decide +kernel
theorem dX4_leastBribe_26 : decode cX4_leastBribe 26 = .ok (.getfield 19, 3) := by decide +kernel
theorem dX4_leastBribe_29 : decode cX4_leastBribe 29 = .ok (.invokevirtual 258, 3) := by decide +kernel
theorem dX4_leastBribe_32 : decode cX4_leastBribe 32 = .ok (.iconst 0, 1) := by decide +kernel
theorem dX4_leastBribe_33 : decode cX4_leastBribe 33 = .ok (.istore_n 2, 1) := by decide +kernel
theorem dX4_leastBribe_34 : decode cX4_leastBribe 34 = .ok (.iload_n 2, 1) := by decide +kernel
theorem dX4_leastBribe_35 : decode cX4_leastBribe 35 = .ok (.bipush 99, 2) := by decide +kernel
theorem dX4_leastBribe_37 : decode cX4_leastBribe 37 = .ok (.if_icmp .gt 41, 3) := by decide +kernel
theorem dX4_leastBribe_40 : decode cX4_leastBribe 40 = .ok (.aload_n 0, 1) := by decide +kernel
theorem dX4_leastBribe_41 : decode cX4_leastBribe 41 = .ok (.getfield 23, 3) := by decide +kernel
theorem dX4_leastBribe_44 : decode cX4_leastBribe 44 = .ok (.getfield 145, 3) := by decide +kernel
theorem dX4_leastBribe_47 : decode cX4_leastBribe 47 = .ok (.iload_n 1, 1) := by decide +kernel
theorem dX4_leastBribe_48 : decode cX4_leastBribe 48 = .ok (.iload_n 2, 1) := by decide +kernel
theorem dX4_leastBribe_49 : decode cX4_leastBribe 49 = .ok (.iastore, 1) := by decide +kernel
theorem dX4_leastBribe_50 : decode cX4_leastBribe 50 = .ok (.aload_n 0, 1) := by decide +kernel
theorem dX4_leastBribe_51 : decode cX4_leastBribe 51 = .ok (.getfield 23, 3) := by decide +kernel
theorem dX4_leastBribe_54 : decode cX4_leastBribe 54 = .ok (.invokevirtual 234, 3) := by decide +kernel
theorem dX4_leastBribe_57 : decode cX4_leastBribe 57 = .ok (.pop, 1) := by decide +kernel
theorem dX4_leastBribe_58 : decode cX4_leastBribe 58 = .ok (.aload_n 0, 1) := by decide +kernel
theorem dX4_leastBribe_59 : decode cX4_leastBribe 59 = .ok (.getfield 23, 3) := by decide +kernel
theorem dX4_leastBribe_62 : decode cX4_leastBribe 62 = .ok (.getfield 151, 3) := by decide +kernel
theorem dX4_leastBribe_65 : decode cX4_leastBribe 65 = .ok (.iload_n 1, 1) := by decide +kernel
theorem dX4_leastBribe_66 : decode cX4_leastBribe 66 = .ok (.iaload, 1) := by decide +kernel
theorem dX4_leastBribe_67 : decode cX4_leastBribe 67 = .ok (.ifCond .ne 5, 3) := by decide +kernel
theorem dX4_leastBribe_70 : decode cX4_leastBribe 70 = .ok (.iload_n 2, 1) := by decide +kernel
theorem dX4_leastBribe_71 : decode cX4_leastBribe 71 = .ok (.ireturn, 1) := by decide +kernel
theorem dX4_leastBribe_72 : decode cX4_leastBribe 72 = .ok (.iinc 2 1, 3) := by decide +kernel
theorem dX4_leastBribe_75 : decode cX4_leastBribe 75 = .ok (.goto (-41), 3) := by decide +kernel
theorem dX4_leastBribe_78 : decode cX4_leastBribe 78 = .ok (.iconst (-1), 1) := by decide +kernel
theorem dX4_leastBribe_79 : decode cX4_leastBribe 79 = .ok (.ireturn, 1) := by decide +kernel
set_option maxRecDepth 20000 in
theorem ggX4_saves_X2_has : GoodIn wsX4_saves wsX2_has := goodIn_r _ [9, 10, 114, 115, 116, 117, 118, 119, 120, 121, 122, 123, 124, 125, 126, 127, 128, 129] (by decide +kernel) (by decide +kernel)
set_option maxRecDepth 20000 in
theorem gX4_saves_X2_has : GoodIn wsX4_saves (wsV RX4 124 RX2 yX2_has wsX2_has) := goodIn_app (goodIn_of _ (by decide +kernel)) ggX4_saves_X2_has
set_option maxRecDepth 20000 in
theorem ggX4_saves_X2_copyFrom : GoodIn wsX4_saves wsX2_copyFrom := goodIn_r _ [14, 15, 10, 16, 17, 18, 19, 20, 21, 22, 23, 24, 25, 26, 27, 28, 29, 30, 31, 8, 32, 33, 34, 35, 36, 37, 38, 39, 40, 41, 114, 115, 116, 117, 118, 119, 120, 121, 122, 123, 124, 125, 126, 127, 128, 129, 130, 131, 132, 133] (by decide +kernel) (by decide +kernel)
set_option maxRecDepth 20000 in
theorem gX4_saves_X2_copyFrom : GoodIn wsX4_saves (wsV RX4 258 RX2 yX2_copyFrom wsX2_copyFrom) := goodIn_app (goodIn_of _ (by decide +kernel)) ggX4_saves_X2_copyFrom
set_option maxRecDepth 20000 in
theorem ggX4_saves_X2_layAll : GoodIn wsX4_saves wsX2_layAll := goodIn_r _ [45, 24, 46, 47, 48, 8, 49, 50, 6, 7, 9, 10, 51, 52, 53, 54, 23, 55, 56, 57, 58, 25, 18, 28, 59, 60, 61, 62, 63, 64, 65, 22, 66, 67, 68, 69, 15, 27, 70, 71, 72, 73, 20, 19, 74, 75, 76, 77, 78, 79, 80, 81, 82, 83, 84, 85, 86, 87, 88, 89, 114, 115, 116, 117, 118, 119, 120, 121, 122, 123, 124, 125, 126, 127, 128, 129] (by decide +kernel) (by decide +kernel)
set_option maxRecDepth 20000 in
theorem gX4_saves_X2_layAll : GoodIn wsX4_saves (wsV RX4 234 RX2 yX2_layAll wsX2_layAll) := goodIn_app (goodIn_of _ (by decide +kernel)) ggX4_saves_X2_layAll
set_option maxRecDepth 20000 in
theorem ggX4_saves_X4_ticksOfRun : GoodIn wsX4_saves wsX4_ticksOfRun := goodIn_r _ [93, 94, 11, 12, 13, 8, 14, 15, 10, 16, 17, 18, 19, 20, 21, 22, 23, 24, 25, 26, 27, 28, 29, 30, 31, 32, 33, 34, 35, 36, 37, 38, 39, 40, 41, 95, 96, 97, 98, 82, 83, 84, 85, 50, 6, 7, 9, 99, 100, 101, 102, 74, 75, 76, 77, 78, 79, 80, 81, 55, 56, 57, 58, 59, 60, 61, 103, 104, 105, 106, 107, 108, 109, 110, 111, 112, 113, 114, 115, 116, 117, 118, 119, 120, 121, 122, 123, 124, 125, 126, 127, 128, 129, 130, 131, 132, 133] (by decide +kernel) (by decide +kernel)
set_option maxRecDepth 20000 in
theorem gX4_saves_X4_ticksOfRun : GoodIn wsX4_saves (wsV RX4 254 RX4 yX4_ticksOfRun wsX4_ticksOfRun) := goodIn_app (goodIn_of _ (by decide +kernel)) ggX4_saves_X4_ticksOfRun
theorem dX4_saves_0 : decode cX4_saves 0 = .ok (.aload_n 0, 1) := by decide +kernel
theorem dX4_saves_1 : decode cX4_saves 1 = .ok (.getfield 19, 3) := by decide +kernel
theorem dX4_saves_4 : decode cX4_saves 4 = .ok (.iload_n 1, 1) := by decide +kernel
theorem dX4_saves_5 : decode cX4_saves 5 = .ok (.invokevirtual 124, 3) := by decide +kernel
theorem dX4_saves_8 : decode cX4_saves 8 = .ok (.ifCond .ne 13, 3) := by decide +kernel
theorem dX4_saves_11 : decode cX4_saves 11 = .ok (.new 128, 3) := by decide +kernel
theorem dX4_saves_14 : decode cX4_saves 14 = .ok (.dup, 1) := by decide +kernel
theorem dX4_saves_15 : decode cX4_saves 15 = .ok (.ldc 130, 2) := by decide +kernel
theorem dX4_saves_17 : decode cX4_saves 17 = .ok (.invokespecial 132, 3) := by decide +kernel
theorem dX4_saves_20 : decode cX4_saves 20 = .ok (.athrow, 1) := by decide +kernel
theorem dX4_saves_21 : decode cX4_saves 21 = .ok (.aload_n 0, 1) := by decide +kernel
theorem dX4_saves_22 : decode cX4_saves 22 = .ok (.getfield 23, 3) := by decide +kernel
theorem dX4_saves_25 : decode cX4_saves 25 = .ok (.aload_n 0, 1) := by decide +kernel
theorem dX4_saves_26 : decode cX4_saves 26 = .ok (.getfield 19, 3) := by decide +kernel
theorem dX4_saves_29 : decode cX4_saves 29 = .ok (.invokevirtual 258, 3) := by decide +kernel
theorem dX4_saves_32 : decode cX4_saves 32 = .ok (.aload_n 0, 1) := by decide +kernel
theorem dX4_saves_33 : decode cX4_saves 33 = .ok (.getfield 23, 3) := by decide +kernel
theorem dX4_saves_36 : decode cX4_saves 36 = .ok (.invokevirtual 234, 3) := by decide +kernel
theorem dX4_saves_39 : decode cX4_saves 39 = .ok (.pop, 1) := by decide +kernel
theorem dX4_saves_40 : decode cX4_saves 40 = .ok (.aload_n 0, 1) := by decide +kernel
theorem dX4_saves_41 : decode cX4_saves 41 = .ok (.aload_n 0, 1) := by decide +kernel
theorem dX4_saves_42 : decode cX4_saves 42 = .ok (.getfield 19, 3) := by decide +kernel
theorem dX4_saves_45 : decode cX4_saves 45 = .ok (.iload_n 1, 1) := by decide +kernel
theorem dX4_saves_46 : decode cX4_saves 46 = .ok (.invokevirtual 254, 3) := by decide +kernel
theorem dX4_saves_49 : decode cX4_saves 49 = .ok (.aload_n 0, 1) := by decide +kernel
theorem dX4_saves_50 : decode cX4_saves 50 = .ok (.aload_n 0, 1) := by decide +kernel
theorem dX4_saves_51 : decode cX4_saves 51 = .ok (.getfield 23, 3) := by decide +kernel
theorem dX4_saves_54 : decode cX4_saves 54 = .ok (.iload_n 1, 1) := by decide +kernel
theorem dX4_saves_55 : decode cX4_saves 55 = .ok (.invokevirtual 254, 3) := by decide +kernel
theorem dX4_saves_58 : decode cX4_saves 58 = .ok (.isub, 1) := by decide +kernel
theorem dX4_saves_59 : decode cX4_saves 59 = .ok (.ireturn, 1) := by decide +kernel
theorem dX4_isAuthor_0 : decode cX4_isAuthor 0 = .ok (.iload_n 0, 1) := by decide +kernel
theorem dX4_isAuthor_1 : decode cX4_isAuthor 1 = .ok (.ifCond .lt 12, 3) := by decide +kernel
theorem dX4_isAuthor_4 : decode cX4_isAuthor 4 = .ok (.iload_n 0, 1) := by decide +kernel
theorem dX4_isAuthor_5 : decode cX4_isAuthor 5 = .ok (.iconst 4, 1) := by decide +kernel
theorem dX4_isAuthor_6 : decode cX4_isAuthor 6 = .ok (.if_icmp .ge 7, 3) := by decide +kernel
theorem dX4_isAuthor_9 : decode cX4_isAuthor 9 = .ok (.iconst 1, 1) := by decide +kernel
theorem dX4_isAuthor_10 : decode cX4_isAuthor 10 = .ok (.goto 4, 3) := by decide +kernel
theorem dX4_isAuthor_13 : decode cX4_isAuthor 13 = .ok (.iconst 0, 1) := by decide +kernel
theorem dX4_isAuthor_14 : decode cX4_isAuthor 14 = .ok (.ireturn, 1) := by decide +kernel
theorem dX4_isWork_0 : decode cX4_isWork 0 = .ok (.iload_n 0, 1) := by decide +kernel
theorem dX4_isWork_1 : decode cX4_isWork 1 = .ok (.iconst 1, 1) := by decide +kernel
theorem dX4_isWork_2 : decode cX4_isWork 2 = .ok (.if_icmp .lt 13, 3) := by decide +kernel
theorem dX4_isWork_5 : decode cX4_isWork 5 = .ok (.iload_n 0, 1) := by decide +kernel
theorem dX4_isWork_6 : decode cX4_isWork 6 = .ok (.bipush 9, 2) := by decide +kernel
theorem dX4_isWork_8 : decode cX4_isWork 8 = .ok (.if_icmp .gt 7, 3) := by decide +kernel
theorem dX4_isWork_11 : decode cX4_isWork 11 = .ok (.iconst 1, 1) := by decide +kernel
theorem dX4_isWork_12 : decode cX4_isWork 12 = .ok (.goto 4, 3) := by decide +kernel
theorem dX4_isWork_15 : decode cX4_isWork 15 = .ok (.iconst 0, 1) := by decide +kernel
theorem dX4_isWork_16 : decode cX4_isWork 16 = .ok (.ireturn, 1) := by decide +kernel
theorem dX4_isLink_0 : decode cX4_isLink 0 = .ok (.iload_n 0, 1) := by decide +kernel
theorem dX4_isLink_1 : decode cX4_isLink 1 = .ok (.iconst (-1), 1) := by decide +kernel
theorem dX4_isLink_2 : decode cX4_isLink 2 = .ok (.if_icmp .eq 13, 3) := by decide +kernel
theorem dX4_isLink_5 : decode cX4_isLink 5 = .ok (.iload_n 0, 1) := by decide +kernel
theorem dX4_isLink_6 : decode cX4_isLink 6 = .ok (.ifCond .lt 13, 3) := by decide +kernel
theorem dX4_isLink_9 : decode cX4_isLink 9 = .ok (.iload_n 0, 1) := by decide +kernel
theorem dX4_isLink_10 : decode cX4_isLink 10 = .ok (.bipush 16, 2) := by decide +kernel
theorem dX4_isLink_12 : decode cX4_isLink 12 = .ok (.if_icmp .ge 7, 3) := by decide +kernel
theorem dX4_isLink_15 : decode cX4_isLink 15 = .ok (.iconst 1, 1) := by decide +kernel
theorem dX4_isLink_16 : decode cX4_isLink 16 = .ok (.goto 4, 3) := by decide +kernel
theorem dX4_isLink_19 : decode cX4_isLink 19 = .ok (.iconst 0, 1) := by decide +kernel
theorem dX4_isLink_20 : decode cX4_isLink 20 = .ok (.ireturn, 1) := by decide +kernel
theorem dX4_isBribe_0 : decode cX4_isBribe 0 = .ok (.iload_n 0, 1) := by decide +kernel
theorem dX4_isBribe_1 : decode cX4_isBribe 1 = .ok (.ifCond .lt 13, 3) := by decide +kernel
theorem dX4_isBribe_4 : decode cX4_isBribe 4 = .ok (.iload_n 0, 1) := by decide +kernel
theorem dX4_isBribe_5 : decode cX4_isBribe 5 = .ok (.bipush 99, 2) := by decide +kernel
theorem dX4_isBribe_7 : decode cX4_isBribe 7 = .ok (.if_icmp .gt 7, 3) := by decide +kernel
theorem dX4_isBribe_10 : decode cX4_isBribe 10 = .ok (.iconst 1, 1) := by decide +kernel
theorem dX4_isBribe_11 : decode cX4_isBribe 11 = .ok (.goto 4, 3) := by decide +kernel
theorem dX4_isBribe_14 : decode cX4_isBribe 14 = .ok (.iconst 0, 1) := by decide +kernel
theorem dX4_isBribe_15 : decode cX4_isBribe 15 = .ok (.ireturn, 1) := by decide +kernel
theorem dX4_isTurn_0 : decode cX4_isTurn 0 = .ok (.iload_n 0, 1) := by decide +kernel
theorem dX4_isTurn_1 : decode cX4_isTurn 1 = .ok (.iconst 1, 1) := by decide +kernel
theorem dX4_isTurn_2 : decode cX4_isTurn 2 = .ok (.if_icmp .lt 13, 3) := by decide +kernel
theorem dX4_isTurn_5 : decode cX4_isTurn 5 = .ok (.iload_n 0, 1) := by decide +kernel
theorem dX4_isTurn_6 : decode cX4_isTurn 6 = .ok (.bipush 99, 2) := by decide +kernel
theorem dX4_isTurn_8 : decode cX4_isTurn 8 = .ok (.if_icmp .gt 7, 3) := by decide +kernel
theorem dX4_isTurn_11 : decode cX4_isTurn 11 = .ok (.iconst 1, 1) := by decide +kernel
theorem dX4_isTurn_12 : decode cX4_isTurn 12 = .ok (.goto 4, 3) := by decide +kernel
theorem dX4_isTurn_15 : decode cX4_isTurn 15 = .ok (.iconst 0, 1) := by decide +kernel
theorem dX4_isTurn_16 : decode cX4_isTurn 16 = .ok (.ireturn, 1) := by decide +kernel
set_option maxRecDepth 20000 in
theorem ggX4_isNumberOfOrder_X4_isAuthor : GoodIn wsX4_isNumberOfOrder wsX4_isAuthor := goodIn_r _ [4] (by decide +kernel) (by decide +kernel)
set_option maxRecDepth 20000 in
theorem gX4_isNumberOfOrder_X4_isAuthor : GoodIn wsX4_isNumberOfOrder (va_wsS RX4 159 yX4_isAuthor wsX4_isAuthor) := goodIn_app (goodIn_of _ (by decide +kernel)) ggX4_isNumberOfOrder_X4_isAuthor
set_option maxRecDepth 20000 in
theorem ggX4_isNumberOfOrder_X4_isWork : GoodIn wsX4_isNumberOfOrder wsX4_isWork := goodIn_r _ [7] (by decide +kernel) (by decide +kernel)
set_option maxRecDepth 20000 in
theorem gX4_isNumberOfOrder_X4_isWork : GoodIn wsX4_isNumberOfOrder (va_wsS RX4 197 yX4_isWork wsX4_isWork) := goodIn_app (goodIn_of _ (by decide +kernel)) ggX4_isNumberOfOrder_X4_isWork
set_option maxRecDepth 20000 in
theorem ggX4_isNumberOfOrder_X4_isLink : GoodIn wsX4_isNumberOfOrder wsX4_isLink := goodIn_r _ [10] (by decide +kernel) (by decide +kernel)
set_option maxRecDepth 20000 in
theorem gX4_isNumberOfOrder_X4_isLink : GoodIn wsX4_isNumberOfOrder (va_wsS RX4 200 yX4_isLink wsX4_isLink) := goodIn_app (goodIn_of _ (by decide +kernel)) ggX4_isNumberOfOrder_X4_isLink
set_option maxRecDepth 20000 in
theorem ggX4_isNumberOfOrder_X4_isBribe : GoodIn wsX4_isNumberOfOrder wsX4_isBribe := goodIn_r _ [13] (by decide +kernel) (by decide +kernel)
set_option maxRecDepth 20000 in
theorem gX4_isNumberOfOrder_X4_isBribe : GoodIn wsX4_isNumberOfOrder (va_wsS RX4 203 yX4_isBribe wsX4_isBribe) := goodIn_app (goodIn_of _ (by decide +kernel)) ggX4_isNumberOfOrder_X4_isBribe
theorem dX4_isNumberOfOrder_0 : decode cX4_isNumberOfOrder 0 = .ok (.iload_n 0, 1) := by decide +kernel
theorem dX4_isNumberOfOrder_1 : decode cX4_isNumberOfOrder 1 = .ok (.tableswitch 55 0 4 #[35, 40, 45, 45, 50], 35) := by decide +kernel
theorem dX4_isNumberOfOrder_36 : decode cX4_isNumberOfOrder 36 = .ok (.iload_n 1, 1) := by decide +kernel
theorem dX4_isNumberOfOrder_37 : decode cX4_isNumberOfOrder 37 = .ok (.invokestatic 159, 3) := by decide +kernel
theorem dX4_isNumberOfOrder_40 : decode cX4_isNumberOfOrder 40 = .ok (.ireturn, 1) := by decide +kernel
theorem dX4_isNumberOfOrder_41 : decode cX4_isNumberOfOrder 41 = .ok (.iload_n 1, 1) := by decide +kernel
theorem dX4_isNumberOfOrder_42 : decode cX4_isNumberOfOrder 42 = .ok (.invokestatic 197, 3) := by decide +kernel
theorem dX4_isNumberOfOrder_45 : decode cX4_isNumberOfOrder 45 = .ok (.ireturn, 1) := by decide +kernel
theorem dX4_isNumberOfOrder_46 : decode cX4_isNumberOfOrder 46 = .ok (.iload_n 1, 1) := by decide +kernel
theorem dX4_isNumberOfOrder_47 : decode cX4_isNumberOfOrder 47 = .ok (.invokestatic 200, 3) := by decide +kernel
theorem dX4_isNumberOfOrder_50 : decode cX4_isNumberOfOrder 50 = .ok (.ireturn, 1) := by decide +kernel
theorem dX4_isNumberOfOrder_51 : decode cX4_isNumberOfOrder 51 = .ok (.iload_n 1, 1) := by decide +kernel
theorem dX4_isNumberOfOrder_52 : decode cX4_isNumberOfOrder 52 = .ok (.invokestatic 203, 3) := by decide +kernel
theorem dX4_isNumberOfOrder_55 : decode cX4_isNumberOfOrder 55 = .ok (.ireturn, 1) := by decide +kernel
theorem dX4_isNumberOfOrder_56 : decode cX4_isNumberOfOrder 56 = .ok (.iconst 0, 1) := by decide +kernel
theorem dX4_isNumberOfOrder_57 : decode cX4_isNumberOfOrder 57 = .ok (.ireturn, 1) := by decide +kernel
theorem dX4_sum_0 : decode cX4_sum 0 = .ok (.iconst 0, 1) := by decide +kernel
theorem dX4_sum_1 : decode cX4_sum 1 = .ok (.istore_n 1, 1) := by decide +kernel
theorem dX4_sum_2 : decode cX4_sum 2 = .ok (.iconst 0, 1) := by decide +kernel
theorem dX4_sum_3 : decode cX4_sum 3 = .ok (.istore_n 2, 1) := by decide +kernel
theorem dX4_sum_4 : decode cX4_sum 4 = .ok (.iload_n 2, 1) := by decide +kernel
theorem dX4_sum_5 : decode cX4_sum 5 = .ok (.aload_n 0, 1) := by decide +kernel
theorem dX4_sum_6 : decode cX4_sum 6 = .ok (.arraylength, 1) := by decide +kernel
theorem dX4_sum_7 : decode cX4_sum 7 = .ok (.if_icmp .ge 15, 3) := by decide +kernel
theorem dX4_sum_10 : decode cX4_sum 10 = .ok (.iload_n 1, 1) := by decide +kernel
theorem dX4_sum_11 : decode cX4_sum 11 = .ok (.aload_n 0, 1) := by decide +kernel
theorem dX4_sum_12 : decode cX4_sum 12 = .ok (.iload_n 2, 1) := by decide +kernel
theorem dX4_sum_13 : decode cX4_sum 13 = .ok (.iaload, 1) := by decide +kernel
theorem dX4_sum_14 : decode cX4_sum 14 = .ok (.iadd, 1) := by decide +kernel
theorem dX4_sum_15 : decode cX4_sum 15 = .ok (.istore_n 1, 1) := by decide +kernel
theorem dX4_sum_16 : decode cX4_sum 16 = .ok (.iinc 2 1, 3) := by decide +kernel
theorem dX4_sum_19 : decode cX4_sum 19 = .ok (.goto (-15), 3) := by decide +kernel
theorem dX4_sum_22 : decode cX4_sum 22 = .ok (.iload_n 1, 1) := by decide +kernel
theorem dX4_sum_23 : decode cX4_sum 23 = .ok (.ireturn, 1) := by decide +kernel
set_option maxRecDepth 20000 in
theorem ggX4_ticksOfRun_X2_copyFrom : GoodIn wsX4_ticksOfRun wsX2_copyFrom := goodIn_r _ [6, 7, 8, 9, 10, 11, 12, 13, 14, 15, 16, 17, 18, 19, 20, 21, 22, 23, 24, 5, 25, 26, 27, 28, 29, 30, 31, 32, 33, 34, 77, 78, 79, 80, 81, 82, 83, 84, 85, 86, 87, 88, 89, 90, 91, 92, 93, 94, 95, 96] (by decide +kernel) (by decide +kernel)
set_option maxRecDepth 20000 in
theorem gX4_ticksOfRun_X2_copyFrom : GoodIn wsX4_ticksOfRun (wsV RX4 258 RX2 yX2_copyFrom wsX2_copyFrom) := goodIn_app (goodIn_of _ (by decide +kernel)) ggX4_ticksOfRun_X2_copyFrom
set_option maxRecDepth 20000 in
theorem ggX4_ticksOfRun_X2_runFrom : GoodIn wsX4_ticksOfRun wsX2_runFrom := goodIn_r _ [38, 14, 13, 22, 10, 39, 40, 41, 5, 42, 16, 43, 44, 45, 46, 8, 47, 48, 49, 50, 9, 19, 18, 12, 51, 52, 53, 54, 7, 55, 56, 57, 58, 59, 60, 61, 62, 11, 21, 63, 64, 65, 66, 67, 68, 29, 69, 31, 32, 33, 34, 77, 78, 79, 80, 81, 82, 83, 84, 85, 86, 87, 88, 89, 90, 91, 92, 93, 94, 95, 96] (by decide +kernel) (by decide +kernel)
set_option maxRecDepth 20000 in
theorem gX4_ticksOfRun_X2_runFrom : GoodIn wsX4_ticksOfRun (wsV RX4 237 RX2 yX2_runFrom wsX2_runFrom) := goodIn_app (goodIn_of _ (by decide +kernel)) ggX4_ticksOfRun_X2_runFrom
theorem dX4_ticksOfRun_0 : decode cX4_ticksOfRun 0 = .ok (.aload_n 0, 1) := by decide +kernel
theorem dX4_ticksOfRun_1 : decode cX4_ticksOfRun 1 = .ok (.getfield 26, 3) := by decide +kernel
theorem dX4_ticksOfRun_4 : decode cX4_ticksOfRun 4 = .ok (.aload_n 1, 1) := by decide +kernel
theorem dX4_ticksOfRun_5 : decode cX4_ticksOfRun 5 = .ok (.invokevirtual 258, 3) := by decide +kernel
theorem dX4_ticksOfRun_8 : decode cX4_ticksOfRun 8 = .ok (.aload_n 0, 1) := by decide +kernel
theorem dX4_ticksOfRun_9 : decode cX4_ticksOfRun 9 = .ok (.getfield 26, 3) := by decide +kernel
theorem dX4_ticksOfRun_12 : decode cX4_ticksOfRun 12 = .ok (.iload_n 2, 1) := by decide +kernel
theorem dX4_ticksOfRun_13 : decode cX4_ticksOfRun 13 = .ok (.invokevirtual 237, 3) := by decide +kernel
theorem dX4_ticksOfRun_16 : decode cX4_ticksOfRun 16 = .ok (.pop, 1) := by decide +kernel
theorem dX4_ticksOfRun_17 : decode cX4_ticksOfRun 17 = .ok (.aload_n 0, 1) := by decide +kernel
theorem dX4_ticksOfRun_18 : decode cX4_ticksOfRun 18 = .ok (.getfield 26, 3) := by decide +kernel
theorem dX4_ticksOfRun_21 : decode cX4_ticksOfRun 21 = .ok (.getfield 87, 3) := by decide +kernel
theorem dX4_ticksOfRun_24 : decode cX4_ticksOfRun 24 = .ok (.aload_n 1, 1) := by decide +kernel
theorem dX4_ticksOfRun_25 : decode cX4_ticksOfRun 25 = .ok (.getfield 87, 3) := by decide +kernel
theorem dX4_ticksOfRun_28 : decode cX4_ticksOfRun 28 = .ok (.isub, 1) := by decide +kernel
theorem dX4_ticksOfRun_29 : decode cX4_ticksOfRun 29 = .ok (.ireturn, 1) := by decide +kernel
