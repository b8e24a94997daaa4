set_option maxRecDepth 20000 in
theorem ggX4_init_X3_init : GoodIn wsX4_init wsX3_init := goodIn_r _ [22, 23, 2, 3, 24, 25, 58, 59] (by decide +kernel) (by decide +kernel)
set_option maxRecDepth 20000 in
theorem gX4_init_X3_init_n9 : GoodIn wsX4_init (wsX3_init) := ggX4_init_X3_init
set_option maxRecDepth 20000 in
theorem ggX4_init_X2_init : GoodIn wsX4_init wsX2_init := goodIn_r _ [27, 28, 2, 3, 29, 30, 24, 31, 32, 33, 34, 35, 36, 37, 38, 39, 40, 41, 42, 43, 44, 45, 46, 47, 48, 49, 50, 51, 67, 68, 69, 70, 71, 72, 73, 74, 75, 76, 77, 78, 79, 80, 81, 82, 86, 87, 88, 89] (by decide +kernel) (by decide +kernel)
set_option maxRecDepth 20000 in
theorem gX4_init_X2_init_n18 : GoodIn wsX4_init (wsX2_init) := ggX4_init_X2_init
set_option maxRecDepth 20000 in
theorem ggX4_init_X1_init : GoodIn wsX4_init wsX1_init := goodIn_r _ [54, 55, 2, 3, 56, 57, 9, 10, 26, 27, 28, 29, 30, 24, 31, 32, 33, 34, 35, 36, 37, 38, 39, 40, 41, 42, 43, 44, 45, 46, 47, 48, 49, 50, 51, 83, 84, 85, 67, 68, 69, 70, 71, 72, 73, 74, 75, 76, 77, 78, 79, 80, 81, 82, 86, 87, 88, 89] (by decide +kernel) (by decide +kernel)
set_option maxRecDepth 20000 in
theorem gX4_init_X1_init : GoodIn wsX4_init (wsX1_init) := ggX4_init_X1_init
theorem dX4_init_0 : decode cX4_init 0 = .ok (.aload_n 0, 1) := by decide +kernel
theorem dX4_init_1 : decode cX4_init 1 = .ok (.invokespecial 1, 3) := by decide +kernel
theorem dX4_init_4 : decode cX4_init 4 = .ok (.aload_n 0, 1) := by decide +kernel
theorem dX4_init_5 : decode cX4_init 5 = .ok (.new 7, 3) := by decide +kernel
theorem dX4_init_8 : decode cX4_init 8 = .ok (.dup, 1) := by decide +kernel
theorem dX4_init_9 : decode cX4_init 9 = .ok (.invokespecial 9, 3) := by decide +kernel
theorem dX4_init_12 : decode cX4_init 12 = .ok (.putfield 10, 3) := by decide +kernel
theorem dX4_init_15 : decode cX4_init 15 = .ok (.aload_n 0, 1) := by decide +kernel
theorem dX4_init_16 : decode cX4_init 16 = .ok (.new 16, 3) := by decide +kernel
theorem dX4_init_19 : decode cX4_init 19 = .ok (.dup, 1) := by decide +kernel
theorem dX4_init_20 : decode cX4_init 20 = .ok (.invokespecial 18, 3) := by decide +kernel
theorem dX4_init_23 : decode cX4_init 23 = .ok (.putfield 19, 3) := by decide +kernel
theorem dX4_init_26 : decode cX4_init 26 = .ok (.aload_n 0, 1) := by decide +kernel
theorem dX4_init_27 : decode cX4_init 27 = .ok (.new 16, 3) := by decide +kernel
theorem dX4_init_30 : decode cX4_init 30 = .ok (.dup, 1) := by decide +kernel
theorem dX4_init_31 : decode cX4_init 31 = .ok (.invokespecial 18, 3) := by decide +kernel
theorem dX4_init_34 : decode cX4_init 34 = .ok (.putfield 23, 3) := by decide +kernel
theorem dX4_init_37 : decode cX4_init 37 = .ok (.aload_n 0, 1) := by decide +kernel
theorem dX4_init_38 : decode cX4_init 38 = .ok (.new 16, 3) := by decide +kernel
theorem dX4_init_41 : decode cX4_init 41 = .ok (.dup, 1) := by decide +kernel
theorem dX4_init_42 : decode cX4_init 42 = .ok (.invokespecial 18, 3) := by decide +kernel
theorem dX4_init_45 : decode cX4_init 45 = .ok (.putfield 26, 3) := by decide +kernel
theorem dX4_init_48 : decode cX4_init 48 = .ok (.aload_n 0, 1) := by decide +kernel
theorem dX4_init_49 : decode cX4_init 49 = .ok (.new 29, 3) := by decide +kernel
theorem dX4_init_52 : decode cX4_init 52 = .ok (.dup, 1) := by decide +kernel
theorem dX4_init_53 : decode cX4_init 53 = .ok (.invokespecial 31, 3) := by decide +kernel
theorem dX4_init_56 : decode cX4_init 56 = .ok (.putfield 32, 3) := by decide +kernel
theorem dX4_init_59 : decode cX4_init 59 = .ok (.aload_n 0, 1) := by decide +kernel
theorem dX4_init_60 : decode cX4_init 60 = .ok (.iconst 2, 1) := by decide +kernel
theorem dX4_init_61 : decode cX4_init 61 = .ok (.anewarray 16, 3) := by decide +kernel
theorem dX4_init_64 : decode cX4_init 64 = .ok (.dup, 1) := by decide +kernel
theorem dX4_init_65 : decode cX4_init 65 = .ok (.iconst 0, 1) := by decide +kernel
theorem dX4_init_66 : decode cX4_init 66 = .ok (.new 16, 3) := by decide +kernel
theorem dX4_init_69 : decode cX4_init 69 = .ok (.dup, 1) := by decide +kernel
theorem dX4_init_70 : decode cX4_init 70 = .ok (.invokespecial 18, 3) := by decide +kernel
theorem dX4_init_73 : decode cX4_init 73 = .ok (.aastore, 1) := by decide +kernel
theorem dX4_init_74 : decode cX4_init 74 = .ok (.dup, 1) := by decide +kernel
theorem dX4_init_75 : decode cX4_init 75 = .ok (.iconst 1, 1) := by decide +kernel
theorem dX4_init_76 : decode cX4_init 76 = .ok (.new 16, 3) := by decide +kernel
theorem dX4_init_79 : decode cX4_init 79 = .ok (.dup, 1) := by decide +kernel
theorem dX4_init_80 : decode cX4_init 80 = .ok (.invokespecial 18, 3) := by decide +kernel
theorem dX4_init_83 : decode cX4_init 83 = .ok (.aastore, 1) := by decide +kernel
theorem dX4_init_84 : decode cX4_init 84 = .ok (.putfield 36, 3) := by decide +kernel
theorem dX4_init_87 : decode cX4_init 87 = .ok (.aload_n 0, 1) := by decide +kernel
theorem dX4_init_88 : decode cX4_init 88 = .ok (.iconst 2, 1) := by decide +kernel
theorem dX4_init_89 : decode cX4_init 89 = .ok (.newarray .boolean, 2) := by decide +kernel
theorem dX4_init_91 : decode cX4_init 91 = .ok (.putfield 40, 3) := by decide +kernel
theorem dX4_init_94 : decode cX4_init 94 = .ok (.return_, 1) := by decide +kernel
set_option maxRecDepth 20000 in
theorem ggX4_append_X3_isFull : GoodIn wsX4_append wsX3_isFull := goodIn_r _ [10, 11, 12, 24, 25] (by decide +kernel) (by decide +kernel)
set_option maxRecDepth 20000 in
theorem gX4_append_X3_isFull : GoodIn wsX4_append (wsV RX4 51 RX3 yX3_isFull wsX3_isFull) := goodIn_app (goodIn_of _ (by decide +kernel)) ggX4_append_X3_isFull
set_option maxRecDepth 20000 in
theorem ggX4_append_X3_add : GoodIn wsX4_append wsX3_add := goodIn_r _ [16, 11, 12, 24, 25] (by decide +kernel) (by decide +kernel)
set_option maxRecDepth 20000 in
theorem gX4_append_X3_add : GoodIn wsX4_append (wsV RX4 60 RX3 yX3_add wsX3_add) := goodIn_app (goodIn_of _ (by decide +kernel)) ggX4_append_X3_add
theorem dX4_append_0 : decode cX4_append 0 = .ok (.iload_n 1, 1) := by decide +kernel
theorem dX4_append_1 : decode cX4_append 1 = .ok (.ifCond .lt 10, 3) := by decide +kernel
theorem dX4_append_4 : decode cX4_append 4 = .ok (.iload_n 1, 1) := by decide +kernel
theorem dX4_append_5 : decode cX4_append 5 = .ok (.sipush 255, 3) := by decide +kernel
theorem dX4_append_8 : decode cX4_append 8 = .ok (.if_icmp .le 13, 3) := by decide +kernel
theorem dX4_append_11 : decode cX4_append 11 = .ok (.new 44, 3) := by decide +kernel
theorem dX4_append_14 : decode cX4_append 14 = .ok (.dup, 1) := by decide +kernel
theorem dX4_append_15 : decode cX4_append 15 = .ok (.ldc 46, 2) := by decide +kernel
theorem dX4_append_17 : decode cX4_append 17 = .ok (.invokespecial 48, 3) := by decide +kernel
theorem dX4_append_20 : decode cX4_append 20 = .ok (.athrow, 1) := by decide +kernel
theorem dX4_append_21 : decode cX4_append 21 = .ok (.aload_n 0, 1) := by decide +kernel
theorem dX4_append_22 : decode cX4_append 22 = .ok (.getfield 10, 3) := by decide +kernel
theorem dX4_append_25 : decode cX4_append 25 = .ok (.invokevirtual 51, 3) := by decide +kernel
theorem dX4_append_28 : decode cX4_append 28 = .ok (.ifCond .eq 13, 3) := by decide +kernel
theorem dX4_append_31 : decode cX4_append 31 = .ok (.new 55, 3) := by decide +kernel
theorem dX4_append_34 : decode cX4_append 34 = .ok (.dup, 1) := by decide +kernel
theorem dX4_append_35 : decode cX4_append 35 = .ok (.ldc 57, 2) := by decide +kernel
theorem dX4_append_37 : decode cX4_append 37 = .ok (.invokespecial 59, 3) := by decide +kernel
theorem dX4_append_40 : decode cX4_append 40 = .ok (.athrow, 1) := by decide +kernel
theorem dX4_append_41 : decode cX4_append 41 = .ok (.aload_n 0, 1) := by decide +kernel
theorem dX4_append_42 : decode cX4_append 42 = .ok (.getfield 10, 3) := by decide +kernel
theorem dX4_append_45 : decode cX4_append 45 = .ok (.iload_n 1, 1) := by decide +kernel
theorem dX4_append_46 : decode cX4_append 46 = .ok (.invokevirtual 60, 3) := by decide +kernel
theorem dX4_append_49 : decode cX4_append 49 = .ok (.ireturn, 1) := by decide +kernel
set_option maxRecDepth 20000 in
theorem ggX4_clearText_X3_empty : GoodIn wsX4_clearText wsX3_empty := goodIn_r _ [6, 7, 15, 16] (by decide +kernel) (by decide +kernel)
set_option maxRecDepth 20000 in
theorem gX4_clearText_X3_empty : GoodIn wsX4_clearText (wsV RX4 64 RX3 yX3_empty wsX3_empty) := goodIn_app (goodIn_of _ (by decide +kernel)) ggX4_clearText_X3_empty
theorem dX4_clearText_0 : decode cX4_clearText 0 = .ok (.aload_n 0, 1) := by decide +kernel
theorem dX4_clearText_1 : decode cX4_clearText 1 = .ok (.getfield 10, 3) := by decide +kernel
theorem dX4_clearText_4 : decode cX4_clearText 4 = .ok (.invokevirtual 64, 3) := by decide +kernel
theorem dX4_clearText_7 : decode cX4_clearText 7 = .ok (.ireturn, 1) := by decide +kernel
set_option maxRecDepth 20000 in
theorem ggX4_errorPosition_X3_firstError : GoodIn wsX4_errorPosition wsX3_firstError := goodIn_r _ [6, 7, 8, 9, 10, 5, 11, 12, 13, 14, 15, 16, 17, 18, 19, 20, 21, 22, 23, 24, 25, 26, 34, 35] (by decide +kernel) (by decide +kernel)
set_option maxRecDepth 20000 in
theorem gX4_errorPosition_X3_firstError : GoodIn wsX4_errorPosition (wsV RX4 68 RX3 yX3_firstError wsX3_firstError) := goodIn_app (goodIn_of _ (by decide +kernel)) ggX4_errorPosition_X3_firstError
theorem dX4_errorPosition_0 : decode cX4_errorPosition 0 = .ok (.aload_n 0, 1) := by decide +kernel
theorem dX4_errorPosition_1 : decode cX4_errorPosition 1 = .ok (.getfield 10, 3) := by decide +kernel
theorem dX4_errorPosition_4 : decode cX4_errorPosition 4 = .ok (.invokevirtual 68, 3) := by decide +kernel
theorem dX4_errorPosition_7 : decode cX4_errorPosition 7 = .ok (.ireturn, 1) := by decide +kernel
set_option maxRecDepth 20000 in
theorem ggX4_load_X3_firstError : GoodIn wsX4_load wsX3_firstError := goodIn_r _ [11, 12, 13, 14, 15, 10, 16, 17, 18, 19, 20, 21, 22, 23, 24, 25, 26, 27, 28, 29, 30, 31, 99, 100] (by decide +kernel) (by decide +kernel)
set_option maxRecDepth 20000 in
theorem gX4_load_X3_firstError : GoodIn wsX4_load (wsV RX4 68 RX3 yX3_firstError wsX3_firstError) := goodIn_app (goodIn_of _ (by decide +kernel)) ggX4_load_X3_firstError
set_option maxRecDepth 20000 in
theorem ggX4_load_X3_fill : GoodIn wsX4_load wsX3_fill := goodIn_r _ [35, 12, 36, 37, 38, 10, 39, 17, 18, 19, 20, 21, 40, 41, 42, 43, 44, 45, 46, 47, 48, 49, 50, 51, 52, 53, 54, 55, 56, 57, 58, 59, 60, 61, 62, 63, 64, 65, 66, 67, 68, 99, 100, 83, 84, 85, 86, 87, 88, 89, 90, 91, 92, 93, 94, 95, 96, 97, 98, 101, 102, 103, 104] (by decide +kernel) (by decide +kernel)
set_option maxRecDepth 20000 in
theorem gX4_load_X3_fill : GoodIn wsX4_load (wsV RX4 73 RX3 yX3_fill wsX3_fill) := goodIn_app (goodIn_of _ (by decide +kernel)) ggX4_load_X3_fill
set_option maxRecDepth 20000 in
theorem ggX4_load_X1_forget : GoodIn wsX4_load wsX1_forget := goodIn_r _ [73, 74, 75, 105, 106, 107] (by decide +kernel) (by decide +kernel)
set_option maxRecDepth 20000 in
theorem gX4_load_X1_forget : GoodIn wsX4_load (wsV RX4 77 RX1 yX1_forget wsX1_forget) := goodIn_app (goodIn_of _ (by decide +kernel)) ggX4_load_X1_forget
theorem dX4_load_0 : decode cX4_load 0 = .ok (.aload_n 0, 1) := by decide +kernel
theorem dX4_load_1 : decode cX4_load 1 = .ok (.getfield 10, 3) := by decide +kernel
theorem dX4_load_4 : decode cX4_load 4 = .ok (.invokevirtual 68, 3) := by decide +kernel
theorem dX4_load_7 : decode cX4_load 7 = .ok (.iconst (-1), 1) := by decide +kernel
theorem dX4_load_8 : decode cX4_load 8 = .ok (.if_icmp .eq 13, 3) := by decide +kernel
theorem dX4_load_11 : decode cX4_load 11 = .ok (.new 55, 3) := by decide +kernel
theorem dX4_load_14 : decode cX4_load 14 = .ok (.dup, 1) := by decide +kernel
theorem dX4_load_15 : decode cX4_load 15 = .ok (.ldc 71, 2) := by decide +kernel
theorem dX4_load_17 : decode cX4_load 17 = .ok (.invokespecial 59, 3) := by decide +kernel
theorem dX4_load_20 : decode cX4_load 20 = .ok (.athrow, 1) := by decide +kernel
theorem dX4_load_21 : decode cX4_load 21 = .ok (.aload_n 0, 1) := by decide +kernel
theorem dX4_load_22 : decode cX4_load 22 = .ok (.getfield 10, 3) := by decide +kernel
theorem dX4_load_25 : decode cX4_load 25 = .ok (.aload_n 0, 1) := by decide +kernel
theorem dX4_load_26 : decode cX4_load 26 = .ok (.getfield 19, 3) := by decide +kernel
theorem dX4_load_29 : decode cX4_load 29 = .ok (.invokevirtual 73, 3) := by decide +kernel
theorem dX4_load_32 : decode cX4_load 32 = .ok (.aload_n 0, 1) := by decide +kernel
theorem dX4_load_33 : decode cX4_load 33 = .ok (.getfield 32, 3) := by decide +kernel
theorem dX4_load_36 : decode cX4_load 36 = .ok (.invokevirtual 77, 3) := by decide +kernel
theorem dX4_load_39 : decode cX4_load 39 = .ok (.iconst 0, 1) := by decide +kernel
theorem dX4_load_40 : decode cX4_load 40 = .ok (.istore_n 1, 1) := by decide +kernel
theorem dX4_load_41 : decode cX4_load 41 = .ok (.iload_n 1, 1) := by decide +kernel
theorem dX4_load_42 : decode cX4_load 42 = .ok (.iconst 2, 1) := by decide +kernel
theorem dX4_load_43 : decode cX4_load 43 = .ok (.if_icmp .ge 16, 3) := by decide +kernel
theorem dX4_load_46 : decode cX4_load 46 = .ok (.aload_n 0, 1) := by decide +kernel
theorem dX4_load_47 : decode cX4_load 47 = .ok (.getfield 40, 3) := by decide +kernel
theorem dX4_load_50 : decode cX4_load 50 = .ok (.iload_n 1, 1) := by decide +kernel
theorem dX4_load_51 : decode cX4_load 51 = .ok (.iconst 0, 1) := by decide +kernel
theorem dX4_load_52 : decode cX4_load 52 = .ok (.bastore, 1) := by decide +kernel
theorem dX4_load_53 : decode cX4_load 53 = .ok (.iinc 1 1, 3) := by decide +kernel
theorem dX4_load_56 : decode cX4_load 56 = .ok (.goto (-15), 3) := by decide +kernel
theorem dX4_load_59 : decode cX4_load 59 = .ok (.aload_n 0, 1) := by decide +kernel
theorem dX4_load_60 : decode cX4_load 60 = .ok (.getfield 19, 3) := by decide +kernel
theorem dX4_load_63 : decode cX4_load 63 = .ok (.getfield 80, 3) := by decide +kernel
theorem dX4_load_66 : decode cX4_load 66 = .ok (.ireturn, 1) := by decide +kernel
set_option maxRecDepth 20000 in
theorem ggX4_about_X2_around : GoodIn wsX4_about wsX2_around := goodIn_r _ [8, 9, 10, 11, 12, 13, 35, 36, 37, 38, 39, 40, 41, 42, 43, 44, 45, 46, 47, 48, 49, 50] (by decide +kernel) (by decide +kernel)
set_option maxRecDepth 20000 in
theorem gX4_about_X2_around : GoodIn wsX4_about (wsV RX4 90 RX2 yX2_around wsX2_around) := goodIn_app (goodIn_of _ (by decide +kernel)) ggX4_about_X2_around
set_option maxRecDepth 20000 in
theorem ggX4_about_X2_laidOrders : GoodIn wsX4_about wsX2_laidOrders := goodIn_r _ [17, 18, 19, 20, 21, 7, 22, 23, 35, 36, 37, 38, 39, 40, 41, 42, 43, 44, 45, 46, 47, 48, 49, 50] (by decide +kernel) (by decide +kernel)
set_option maxRecDepth 20000 in
theorem gX4_about_X2_laidOrders : GoodIn wsX4_about (wsV RX4 93 RX2 yX2_laidOrders wsX2_laidOrders) := goodIn_app (goodIn_of _ (by decide +kernel)) ggX4_about_X2_laidOrders
set_option maxRecDepth 20000 in
theorem ggX4_about_X4_sum : GoodIn wsX4_about wsX4_sum := goodIn_r _ [27] (by decide +kernel) (by decide +kernel)
set_option maxRecDepth 20000 in
theorem gX4_about_X4_sum : GoodIn wsX4_about (va_wsS RX4 100 yX4_sum wsX4_sum) := goodIn_app (goodIn_of _ (by decide +kernel)) ggX4_about_X4_sum
theorem dX4_about_0 : decode cX4_about 0 = .ok (.iload_n 1, 1) := by decide +kernel
theorem dX4_about_1 : decode cX4_about 1 = .ok (.tableswitch 154 0 9 #[55, 63, 71, 79, 94, 102, 113, 124, 135, 146], 55) := by decide +kernel
theorem dX4_about_56 : decode cX4_about 56 = .ok (.aload_n 0, 1) := by decide +kernel
theorem dX4_about_57 : decode cX4_about 57 = .ok (.getfield 19, 3) := by decide +kernel
theorem dX4_about_60 : decode cX4_about 60 = .ok (.getfield 84, 3) := by decide +kernel
theorem dX4_about_63 : decode cX4_about 63 = .ok (.ireturn, 1) := by decide +kernel
theorem dX4_about_64 : decode cX4_about 64 = .ok (.aload_n 0, 1) := by decide +kernel
theorem dX4_about_65 : decode cX4_about 65 = .ok (.getfield 19, 3) := by decide +kernel
theorem dX4_about_68 : decode cX4_about 68 = .ok (.getfield 80, 3) := by decide +kernel
theorem dX4_about_71 : decode cX4_about 71 = .ok (.ireturn, 1) := by decide +kernel
theorem dX4_about_72 : decode cX4_about 72 = .ok (.aload_n 0, 1) := by decide +kernel
theorem dX4_about_73 : decode cX4_about 73 = .ok (.getfield 19, 3) := by decide +kernel
theorem dX4_about_76 : decode cX4_about 76 = .ok (.getfield 87, 3) := by decide +kernel
theorem dX4_about_79 : decode cX4_about 79 = .ok (.ireturn, 1) := by decide +kernel
theorem dX4_about_80 : decode cX4_about 80 = .ok (.aload_n 0, 1) := by decide +kernel
theorem dX4_about_81 : decode cX4_about 81 = .ok (.getfield 19, 3) := by decide +kernel
theorem dX4_about_84 : decode cX4_about 84 = .ok (.aload_n 0, 1) := by decide +kernel
theorem dX4_about_85 : decode cX4_about 85 = .ok (.getfield 19, 3) := by decide +kernel
theorem dX4_about_88 : decode cX4_about 88 = .ok (.getfield 87, 3) := by decide +kernel
theorem dX4_about_91 : decode cX4_about 91 = .ok (.invokevirtual 90, 3) := by decide +kernel
theorem dX4_about_94 : decode cX4_about 94 = .ok (.ireturn, 1) := by decide +kernel
theorem dX4_about_95 : decode cX4_about 95 = .ok (.aload_n 0, 1) := by decide +kernel
theorem dX4_about_96 : decode cX4_about 96 = .ok (.getfield 19, 3) := by decide +kernel
theorem dX4_about_99 : decode cX4_about 99 = .ok (.invokevirtual 93, 3) := by decide +kernel
theorem dX4_about_102 : decode cX4_about 102 = .ok (.ireturn, 1) := by decide +kernel
theorem dX4_about_103 : decode cX4_about 103 = .ok (.aload_n 0, 1) := by decide +kernel
theorem dX4_about_104 : decode cX4_about 104 = .ok (.getfield 19, 3) := by decide +kernel
theorem dX4_about_107 : decode cX4_about 107 = .ok (.getfield 96, 3) := by decide +kernel
theorem dX4_about_110 : decode cX4_about 110 = .ok (.invokestatic 100, 3) := by decide +kernel
theorem dX4_about_113 : decode cX4_about 113 = .ok (.ireturn, 1) := by decide +kernel
theorem dX4_about_114 : decode cX4_about 114 = .ok (.aload_n 0, 1) := by decide +kernel
theorem dX4_about_115 : decode cX4_about 115 = .ok (.getfield 19, 3) := by decide +kernel
theorem dX4_about_118 : decode cX4_about 118 = .ok (.getfield 104, 3) := by decide +kernel
theorem dX4_about_121 : decode cX4_about 121 = .ok (.invokestatic 100, 3) := by decide +kernel
theorem dX4_about_124 : decode cX4_about 124 = .ok (.ireturn, 1) := by decide +kernel
theorem dX4_about_125 : decode cX4_about 125 = .ok (.aload_n 0, 1) := by decide +kernel
theorem dX4_about_126 : decode cX4_about 126 = .ok (.getfield 19, 3) := by decide +kernel
theorem dX4_about_129 : decode cX4_about 129 = .ok (.getfield 107, 3) := by decide +kernel
theorem dX4_about_132 : decode cX4_about 132 = .ok (.invokestatic 100, 3) := by decide +kernel
theorem dX4_about_135 : decode cX4_about 135 = .ok (.ireturn, 1) := by decide +kernel
theorem dX4_about_136 : decode cX4_about 136 = .ok (.aload_n 0, 1) := by decide +kernel
theorem dX4_about_137 : decode cX4_about 137 = .ok (.getfield 19, 3) := by decide +kernel
theorem dX4_about_140 : decode cX4_about 140 = .ok (.getfield 110, 3) := by decide +kernel
theorem dX4_about_143 : decode cX4_about 143 = .ok (.getfield 114, 3) := by decide +kernel
theorem dX4_about_146 : decode cX4_about 146 = .ok (.ireturn, 1) := by decide +kernel
theorem dX4_about_147 : decode cX4_about 147 = .ok (.aload_n 0, 1) := by decide +kernel
theorem dX4_about_148 : decode cX4_about 148 = .ok (.getfield 19, 3) := by decide +kernel
theorem dX4_about_151 : decode cX4_about 151 = .ok (.getfield 119, 3) := by decide +kernel
theorem dX4_about_154 : decode cX4_about 154 = .ok (.ireturn, 1) := by decide +kernel
theorem dX4_about_155 : decode cX4_about 155 = .ok (.new 44, 3) := by decide +kernel
theorem dX4_about_158 : decode cX4_about 158 = .ok (.dup, 1) := by decide +kernel
theorem dX4_about_159 : decode cX4_about 159 = .ok (.ldc 122, 2) := by decide +kernel
theorem dX4_about_161 : decode cX4_about 161 = .ok (.invokespecial 48, 3) := by decide +kernel
theorem dX4_about_164 : decode cX4_about 164 = .ok (.athrow, 1) := by decide +kernel
set_option maxRecDepth 20000 in
theorem ggX4_order_X2_has : GoodIn wsX4_order wsX2_has := goodIn_r _ [10, 11, 19, 20, 21, 22, 23, 24, 25, 26, 27, 28, 29, 30, 31, 32, 33, 34] (by decide +kernel) (by decide +kernel)
set_option maxRecDepth 20000 in
theorem gX4_order_X2_has : GoodIn wsX4_order (wsV RX4 124 RX2 yX2_has wsX2_has) := goodIn_app (goodIn_of _ (by decide +kernel)) ggX4_order_X2_has
theorem dX4_order_0 : decode cX4_order 0 = .ok (.aload_n 0, 1) := by decide +kernel
theorem dX4_order_1 : decode cX4_order 1 = .ok (.getfield 19, 3) := by decide +kernel
theorem dX4_order_4 : decode cX4_order 4 = .ok (.iload_n 1, 1) := by decide +kernel
theorem dX4_order_5 : decode cX4_order 5 = .ok (.invokevirtual 124, 3) := by decide +kernel
theorem dX4_order_8 : decode cX4_order 8 = .ok (.ifCond .ne 13, 3) := by decide +kernel
theorem dX4_order_11 : decode cX4_order 11 = .ok (.new 128, 3) := by decide +kernel
theorem dX4_order_14 : decode cX4_order 14 = .ok (.dup, 1) := by decide +kernel
theorem dX4_order_15 : decode cX4_order 15 = .ok (.ldc 130, 2) := by decide +kernel
theorem dX4_order_17 : decode cX4_order 17 = .ok (.invokespecial 132, 3) := by decide +kernel
theorem dX4_order_20 : decode cX4_order 20 = .ok (.athrow, 1) := by decide +kernel
theorem dX4_order_21 : decode cX4_order 21 = .ok (.iload_n 2, 1) := by decide +kernel
theorem dX4_order_22 : decode cX4_order 22 = .ok (.tableswitch 140 0 8 #[50, 60, 70, 80, 90, 100, 110, 120, 130], 50) := by decide +kernel
theorem dX4_order_72 : decode cX4_order 72 = .ok (.aload_n 0, 1) := by decide +kernel
theorem dX4_order_73 : decode cX4_order 73 = .ok (.getfield 19, 3) := by decide +kernel
theorem dX4_order_76 : decode cX4_order 76 = .ok (.getfield 133, 3) := by decide +kernel
theorem dX4_order_79 : decode cX4_order 79 = .ok (.iload_n 1, 1) := by decide +kernel
theorem dX4_order_80 : decode cX4_order 80 = .ok (.iaload, 1) := by decide +kernel
theorem dX4_order_81 : decode cX4_order 81 = .ok (.ireturn, 1) := by decide +kernel
theorem dX4_order_82 : decode cX4_order 82 = .ok (.aload_n 0, 1) := by decide +kernel
theorem dX4_order_83 : decode cX4_order 83 = .ok (.getfield 19, 3) := by decide +kernel
theorem dX4_order_86 : decode cX4_order 86 = .ok (.getfield 136, 3) := by decide +kernel
theorem dX4_order_89 : decode cX4_order 89 = .ok (.iload_n 1, 1) := by decide +kernel
theorem dX4_order_90 : decode cX4_order 90 = .ok (.iaload, 1) := by decide +kernel
theorem dX4_order_91 : decode cX4_order 91 = .ok (.ireturn, 1) := by decide +kernel
theorem dX4_order_92 : decode cX4_order 92 = .ok (.aload_n 0, 1) := by decide +kernel
theorem dX4_order_93 : decode cX4_order 93 = .ok (.getfield 19, 3) := by decide +kernel
theorem dX4_order_96 : decode cX4_order 96 = .ok (.getfield 139, 3) := by decide +kernel
theorem dX4_order_99 : decode cX4_order 99 = .ok (.iload_n 1, 1) := by decide +kernel
theorem dX4_order_100 : decode cX4_order 100 = .ok (.iaload, 1) := by decide +kernel
theorem dX4_order_101 : decode cX4_order 101 = .ok (.ireturn, 1) := by decide +kernel
theorem dX4_order_102 : decode cX4_order 102 = .ok (.aload_n 0, 1) := by decide +kernel
theorem dX4_order_103 : decode cX4_order 103 = .ok (.getfield 19, 3) := by decide +kernel
theorem dX4_order_106 : decode cX4_order 106 = .ok (.getfield 142, 3) := by decide +kernel
theorem dX4_order_109 : decode cX4_order 109 = .ok (.iload_n 1, 1) := by decide +kernel
theorem dX4_order_110 : decode cX4_order 110 = .ok (.iaload, 1) := by decide +kernel
theorem dX4_order_111 : decode cX4_order 111 = .ok (.ireturn, 1) := by decide +kernel
theorem dX4_order_112 : decode cX4_order 112 = .ok (.aload_n 0, 1) := by decide +kernel
theorem dX4_order_113 : decode cX4_order 113 = .ok (.getfield 19, 3) := by decide +kernel
theorem dX4_order_116 : decode cX4_order 116 = .ok (.getfield 145, 3) := by decide +kernel
theorem dX4_order_119 : decode cX4_order 119 = .ok (.iload_n 1, 1) := by decide +kernel
theorem dX4_order_120 : decode cX4_order 120 = .ok (.iaload, 1) := by decide +kernel
theorem dX4_order_121 : decode cX4_order 121 = .ok (.ireturn, 1) := by decide +kernel
theorem dX4_order_122 : decode cX4_order 122 = .ok (.aload_n 0, 1) := by decide +kernel
theorem dX4_order_123 : decode cX4_order 123 = .ok (.getfield 19, 3) := by decide +kernel
theorem dX4_order_126 : decode cX4_order 126 = .ok (.getfield 148, 3) := by decide +kernel
theorem dX4_order_129 : decode cX4_order 129 = .ok (.iload_n 1, 1) := by decide +kernel
theorem dX4_order_130 : decode cX4_order 130 = .ok (.iaload, 1) := by decide +kernel
theorem dX4_order_131 : decode cX4_order 131 = .ok (.ireturn, 1) := by decide +kernel
theorem dX4_order_132 : decode cX4_order 132 = .ok (.aload_n 0, 1) := by decide +kernel
theorem dX4_order_133 : decode cX4_order 133 = .ok (.getfield 19, 3) := by decide +kernel
theorem dX4_order_136 : decode cX4_order 136 = .ok (.getfield 151, 3) := by decide +kernel
theorem dX4_order_139 : decode cX4_order 139 = .ok (.iload_n 1, 1) := by decide +kernel
theorem dX4_order_140 : decode cX4_order 140 = .ok (.iaload, 1) := by decide +kernel
theorem dX4_order_141 : decode cX4_order 141 = .ok (.ireturn, 1) := by decide +kernel
theorem dX4_order_142 : decode cX4_order 142 = .ok (.aload_n 0, 1) := by decide +kernel
theorem dX4_order_143 : decode cX4_order 143 = .ok (.getfield 19, 3) := by decide +kernel
theorem dX4_order_146 : decode cX4_order 146 = .ok (.getfield 107, 3) := by decide +kernel
theorem dX4_order_149 : decode cX4_order 149 = .ok (.iload_n 1, 1) := by decide +kernel
theorem dX4_order_150 : decode cX4_order 150 = .ok (.iaload, 1) := by decide +kernel
theorem dX4_order_151 : decode cX4_order 151 = .ok (.ireturn, 1) := by decide +kernel
theorem dX4_order_152 : decode cX4_order 152 = .ok (.aload_n 0, 1) := by decide +kernel
theorem dX4_order_153 : decode cX4_order 153 = .ok (.getfield 19, 3) := by decide +kernel
theorem dX4_order_156 : decode cX4_order 156 = .ok (.getfield 154, 3) := by decide +kernel
theorem dX4_order_159 : decode cX4_order 159 = .ok (.iload_n 1, 1) := by decide +kernel
theorem dX4_order_160 : decode cX4_order 160 = .ok (.iaload, 1) := by decide +kernel
theorem dX4_order_161 : decode cX4_order 161 = .ok (.ireturn, 1) := by decide +kernel
theorem dX4_order_162 : decode cX4_order 162 = .ok (.new 44, 3) := by decide +kernel
theorem dX4_order_165 : decode cX4_order 165 = .ok (.dup, 1) := by decide +kernel
theorem dX4_order_166 : decode cX4_order 166 = .ok (.ldc 157, 2) := by decide +kernel
theorem dX4_order_168 : decode cX4_order 168 = .ok (.invokespecial 48, 3) := by decide +kernel
theorem dX4_order_171 : decode cX4_order 171 = .ok (.athrow, 1) := by decide +kernel
set_option maxRecDepth 20000 in
theorem ggX4_author_X4_isAuthor : GoodIn wsX4_author wsX4_isAuthor := goodIn_r _ [9] (by decide +kernel) (by decide +kernel)
set_option maxRecDepth 20000 in
theorem gX4_author_X4_isAuthor : GoodIn wsX4_author (va_wsS RX4 159 yX4_isAuthor wsX4_isAuthor) := goodIn_app (goodIn_of _ (by decide +kernel)) ggX4_author_X4_isAuthor
set_option maxRecDepth 20000 in
theorem ggX4_author_X2_ordersOf : GoodIn wsX4_author wsX2_ordersOf := goodIn_r _ [14, 15, 16, 17, 18, 13, 19, 20, 28, 29, 30, 31, 32, 33, 34, 35, 36, 37, 38, 39, 40, 41, 42, 43] (by decide +kernel) (by decide +kernel)
set_option maxRecDepth 20000 in
theorem gX4_author_X2_ordersOf : GoodIn wsX4_author (wsV RX4 164 RX2 yX2_ordersOf wsX2_ordersOf) := goodIn_app (goodIn_of _ (by decide +kernel)) ggX4_author_X2_ordersOf
theorem dX4_author_0 : decode cX4_author 0 = .ok (.iload_n 1, 1) := by decide +kernel
theorem dX4_author_1 : decode cX4_author 1 = .ok (.invokestatic 159, 3) := by decide +kernel
theorem dX4_author_4 : decode cX4_author 4 = .ok (.ifCond .ne 13, 3) := by decide +kernel
theorem dX4_author_7 : decode cX4_author 7 = .ok (.new 128, 3) := by decide +kernel
theorem dX4_author_10 : decode cX4_author 10 = .ok (.dup, 1) := by decide +kernel
theorem dX4_author_11 : decode cX4_author 11 = .ok (.ldc 162, 2) := by decide +kernel
theorem dX4_author_13 : decode cX4_author 13 = .ok (.invokespecial 132, 3) := by decide +kernel
theorem dX4_author_16 : decode cX4_author 16 = .ok (.athrow, 1) := by decide +kernel
theorem dX4_author_17 : decode cX4_author 17 = .ok (.iload_n 2, 1) := by decide +kernel
theorem dX4_author_18 : decode cX4_author 18 = .ok (.tableswitch 55 0 2 #[26, 35, 45], 26) := by decide +kernel
theorem dX4_author_44 : decode cX4_author 44 = .ok (.aload_n 0, 1) := by decide +kernel
theorem dX4_author_45 : decode cX4_author 45 = .ok (.getfield 19, 3) := by decide +kernel
theorem dX4_author_48 : decode cX4_author 48 = .ok (.iload_n 1, 1) := by decide +kernel
theorem dX4_author_49 : decode cX4_author 49 = .ok (.invokevirtual 164, 3) := by decide +kernel
theorem dX4_author_52 : decode cX4_author 52 = .ok (.ireturn, 1) := by decide +kernel
theorem dX4_author_53 : decode cX4_author 53 = .ok (.aload_n 0, 1) := by decide +kernel
theorem dX4_author_54 : decode cX4_author 54 = .ok (.getfield 19, 3) := by decide +kernel
theorem dX4_author_57 : decode cX4_author 57 = .ok (.getfield 96, 3) := by decide +kernel
theorem dX4_author_60 : decode cX4_author 60 = .ok (.iload_n 1, 1) := by decide +kernel
theorem dX4_author_61 : decode cX4_author 61 = .ok (.iaload, 1) := by decide +kernel
theorem dX4_author_62 : decode cX4_author 62 = .ok (.ireturn, 1) := by decide +kernel
theorem dX4_author_63 : decode cX4_author 63 = .ok (.aload_n 0, 1) := by decide +kernel
theorem dX4_author_64 : decode cX4_author 64 = .ok (.getfield 19, 3) := by decide +kernel
theorem dX4_author_67 : decode cX4_author 67 = .ok (.getfield 104, 3) := by decide +kernel
theorem dX4_author_70 : decode cX4_author 70 = .ok (.iload_n 1, 1) := by decide +kernel
theorem dX4_author_71 : decode cX4_author 71 = .ok (.iaload, 1) := by decide +kernel
theorem dX4_author_72 : decode cX4_author 72 = .ok (.ireturn, 1) := by decide +kernel
theorem dX4_author_73 : decode cX4_author 73 = .ok (.new 44, 3) := by decide +kernel
theorem dX4_author_76 : decode cX4_author 76 = .ok (.dup, 1) := by decide +kernel
theorem dX4_author_77 : decode cX4_author 77 = .ok (.ldc 167, 2) := by decide +kernel
theorem dX4_author_79 : decode cX4_author 79 = .ok (.invokespecial 48, 3) := by decide +kernel
theorem dX4_author_82 : decode cX4_author 82 = .ok (.athrow, 1) := by decide +kernel
set_option maxRecDepth 20000 in
theorem ggX4_at_X2_hasPlace : GoodIn wsX4_at wsX2_hasPlace := goodIn_r _ [8, 9, 27, 28, 29, 30, 31, 32, 33, 34, 35, 36, 37, 38, 39, 40, 41, 42] (by decide +kernel) (by decide +kernel)
set_option maxRecDepth 20000 in
theorem gX4_at_X2_hasPlace : GoodIn wsX4_at (wsV RX4 169 RX2 yX2_hasPlace wsX2_hasPlace) := goodIn_app (goodIn_of _ (by decide +kernel)) ggX4_at_X2_hasPlace
set_option maxRecDepth 20000 in
theorem ggX4_at_X2_orderOn : GoodIn wsX4_at wsX2_orderOn := goodIn_r _ [13, 14, 15, 16, 17, 7, 18, 19, 27, 28, 29, 30, 31, 32, 33, 34, 35, 36, 37, 38, 39, 40, 41, 42] (by decide +kernel) (by decide +kernel)
set_option maxRecDepth 20000 in
theorem gX4_at_X2_orderOn : GoodIn wsX4_at (wsV RX4 174 RX2 yX2_orderOn wsX2_orderOn) := goodIn_app (goodIn_of _ (by decide +kernel)) ggX4_at_X2_orderOn
theorem dX4_at_0 : decode cX4_at 0 = .ok (.aload_n 0, 1) := by decide +kernel
theorem dX4_at_1 : decode cX4_at 1 = .ok (.getfield 19, 3) := by decide +kernel
theorem dX4_at_4 : decode cX4_at 4 = .ok (.iload_n 1, 1) := by decide +kernel
theorem dX4_at_5 : decode cX4_at 5 = .ok (.invokevirtual 169, 3) := by decide +kernel
theorem dX4_at_8 : decode cX4_at 8 = .ok (.ifCond .ne 13, 3) := by decide +kernel
theorem dX4_at_11 : decode cX4_at 11 = .ok (.new 128, 3) := by decide +kernel
theorem dX4_at_14 : decode cX4_at 14 = .ok (.dup, 1) := by decide +kernel
theorem dX4_at_15 : decode cX4_at 15 = .ok (.ldc 172, 2) := by decide +kernel
theorem dX4_at_17 : decode cX4_at 17 = .ok (.invokespecial 132, 3) := by decide +kernel
theorem dX4_at_20 : decode cX4_at 20 = .ok (.athrow, 1) := by decide +kernel
theorem dX4_at_21 : decode cX4_at 21 = .ok (.aload_n 0, 1) := by decide +kernel
theorem dX4_at_22 : decode cX4_at 22 = .ok (.getfield 19, 3) := by decide +kernel
theorem dX4_at_25 : decode cX4_at 25 = .ok (.iload_n 1, 1) := by decide +kernel
theorem dX4_at_26 : decode cX4_at 26 = .ok (.invokevirtual 174, 3) := by decide +kernel
theorem dX4_at_29 : decode cX4_at 29 = .ok (.ireturn, 1) := by decide +kernel
set_option maxRecDepth 20000 in
theorem ggX4_jump_X0_number : GoodIn wsX4_jump wsX0_number := goodIn_r _ [8, 9, 10, 11, 12, 36, 37, 38, 39] (by decide +kernel) (by decide +kernel)
set_option maxRecDepth 20000 in
theorem gX4_jump_X0_number : GoodIn wsX4_jump (wsV RX4 179 RX0 yX0_number wsX0_number) := goodIn_app (goodIn_of _ (by decide +kernel)) ggX4_jump_X0_number
theorem dX4_jump_0 : decode cX4_jump 0 = .ok (.iload_n 1, 1) := by decide +kernel
theorem dX4_jump_1 : decode cX4_jump 1 = .ok (.ifCond .lt 12, 3) := by decide +kernel
theorem dX4_jump_4 : decode cX4_jump 4 = .ok (.iload_n 2, 1) := by decide +kernel
theorem dX4_jump_5 : decode cX4_jump 5 = .ok (.ifCond .lt 8, 3) := by decide +kernel
theorem dX4_jump_8 : decode cX4_jump 8 = .ok (.iload_n 2, 1) := by decide +kernel
theorem dX4_jump_9 : decode cX4_jump 9 = .ok (.iconst 2, 1) := by decide +kernel
theorem dX4_jump_10 : decode cX4_jump 10 = .ok (.if_icmp .le 13, 3) := by decide +kernel
theorem dX4_jump_13 : decode cX4_jump 13 = .ok (.new 44, 3) := by decide +kernel
theorem dX4_jump_16 : decode cX4_jump 16 = .ok (.dup, 1) := by decide +kernel
theorem dX4_jump_17 : decode cX4_jump 17 = .ok (.ldc 177, 2) := by decide +kernel
theorem dX4_jump_19 : decode cX4_jump 19 = .ok (.invokespecial 48, 3) := by decide +kernel
theorem dX4_jump_22 : decode cX4_jump 22 = .ok (.athrow, 1) := by decide +kernel
theorem dX4_jump_23 : decode cX4_jump 23 = .ok (.aload_n 0, 1) := by decide +kernel
theorem dX4_jump_24 : decode cX4_jump 24 = .ok (.getfield 19, 3) := by decide +kernel
theorem dX4_jump_27 : decode cX4_jump 27 = .ok (.getfield 110, 3) := by decide +kernel
theorem dX4_jump_30 : decode cX4_jump 30 = .ok (.iload_n 1, 1) := by decide +kernel
theorem dX4_jump_31 : decode cX4_jump 31 = .ok (.iload_n 2, 1) := by decide +kernel
theorem dX4_jump_32 : decode cX4_jump 32 = .ok (.invokevirtual 179, 3) := by decide +kernel
theorem dX4_jump_35 : decode cX4_jump 35 = .ok (.ireturn, 1) := by decide +kernel
set_option maxRecDepth 20000 in
theorem ggX4_chain_X2_has : GoodIn wsX4_chain wsX2_has := goodIn_r _ [8, 9, 23, 24, 25, 26, 27, 28, 29, 30, 31, 32, 33, 34, 35, 36, 37, 38] (by decide +kernel) (by decide +kernel)
set_option maxRecDepth 20000 in
theorem gX4_chain_X2_has : GoodIn wsX4_chain (wsV RX4 124 RX2 yX2_has wsX2_has) := goodIn_app (goodIn_of _ (by decide +kernel)) ggX4_chain_X2_has
set_option maxRecDepth 20000 in
theorem ggX4_chain_X2_chainLength : GoodIn wsX4_chain wsX2_chainLength := goodIn_r _ [13, 14, 15, 5, 6, 7, 8, 9, 23, 24, 25, 26, 27, 28, 29, 30, 31, 32, 33, 34, 35, 36, 37, 38] (by decide +kernel) (by decide +kernel)
set_option maxRecDepth 20000 in
theorem gX4_chain_X2_chainLength : GoodIn wsX4_chain (wsV RX4 183 RX2 yX2_chainLength wsX2_chainLength) := goodIn_app (goodIn_of _ (by decide +kernel)) ggX4_chain_X2_chainLength
theorem dX4_chain_0 : decode cX4_chain 0 = .ok (.aload_n 0, 1) := by decide +kernel
theorem dX4_chain_1 : decode cX4_chain 1 = .ok (.getfield 19, 3) := by decide +kernel
theorem dX4_chain_4 : decode cX4_chain 4 = .ok (.iload_n 1, 1) := by decide +kernel
theorem dX4_chain_5 : decode cX4_chain 5 = .ok (.invokevirtual 124, 3) := by decide +kernel
theorem dX4_chain_8 : decode cX4_chain 8 = .ok (.ifCond .ne 13, 3) := by decide +kernel
theorem dX4_chain_11 : decode cX4_chain 11 = .ok (.new 128, 3) := by decide +kernel
theorem dX4_chain_14 : decode cX4_chain 14 = .ok (.dup, 1) := by decide +kernel
theorem dX4_chain_15 : decode cX4_chain 15 = .ok (.ldc 130, 2) := by decide +kernel
theorem dX4_chain_17 : decode cX4_chain 17 = .ok (.invokespecial 132, 3) := by decide +kernel
theorem dX4_chain_20 : decode cX4_chain 20 = .ok (.athrow, 1) := by decide +kernel
theorem dX4_chain_21 : decode cX4_chain 21 = .ok (.aload_n 0, 1) := by decide +kernel
theorem dX4_chain_22 : decode cX4_chain 22 = .ok (.getfield 19, 3) := by decide +kernel
theorem dX4_chain_25 : decode cX4_chain 25 = .ok (.iload_n 1, 1) := by decide +kernel
theorem dX4_chain_26 : decode cX4_chain 26 = .ok (.invokevirtual 183, 3) := by decide +kernel
theorem dX4_chain_29 : decode cX4_chain 29 = .ok (.ireturn, 1) := by decide +kernel
set_option maxRecDepth 20000 in
theorem ggX4_ring_X2_has : GoodIn wsX4_ring wsX2_has := goodIn_r _ [8, 9, 27, 28, 29, 30, 31, 32, 33, 34, 35, 36, 37, 38, 39, 40, 41, 42] (by decide +kernel) (by decide +kernel)
set_option maxRecDepth 20000 in
theorem gX4_ring_X2_has : GoodIn wsX4_ring (wsV RX4 124 RX2 yX2_has wsX2_has) := goodIn_app (goodIn_of _ (by decide +kernel)) ggX4_ring_X2_has
set_option maxRecDepth 20000 in
theorem ggX4_ring_X2_ringLength : GoodIn wsX4_ring wsX2_ringLength := goodIn_r _ [13, 14, 15, 5, 6, 7, 8, 9, 16, 17, 18, 19, 27, 28, 29, 30, 31, 32, 33, 34, 35, 36, 37, 38, 39, 40, 41, 42] (by decide +kernel) (by decide +kernel)
set_option maxRecDepth 20000 in
theorem gX4_ring_X2_ringLength : GoodIn wsX4_ring (wsV RX4 186 RX2 yX2_ringLength wsX2_ringLength) := goodIn_app (goodIn_of _ (by decide +kernel)) ggX4_ring_X2_ringLength
theorem dX4_ring_0 : decode cX4_ring 0 = .ok (.aload_n 0, 1) := by decide +kernel
theorem dX4_ring_1 : decode cX4_ring 1 = .ok (.getfield 19, 3) := by decide +kernel
theorem dX4_ring_4 : decode cX4_ring 4 = .ok (.iload_n 1, 1) := by decide +kernel
theorem dX4_ring_5 : decode cX4_ring 5 = .ok (.invokevirtual 124, 3) := by decide +kernel
theorem dX4_ring_8 : decode cX4_ring 8 = .ok (.ifCond .ne 13, 3) := by decide +kernel
theorem dX4_ring_11 : decode cX4_ring 11 = .ok (.new 128, 3) := by decide +kernel
theorem dX4_ring_14 : decode cX4_ring 14 = .ok (.dup, 1) := by decide +kernel
theorem dX4_ring_15 : decode cX4_ring 15 = .ok (.ldc 130, 2) := by decide +kernel
theorem dX4_ring_17 : decode cX4_ring 17 = .ok (.invokespecial 132, 3) := by decide +kernel
theorem dX4_ring_20 : decode cX4_ring 20 = .ok (.athrow, 1) := by decide +kernel
theorem dX4_ring_21 : decode cX4_ring 21 = .ok (.aload_n 0, 1) := by decide +kernel
theorem dX4_ring_22 : decode cX4_ring 22 = .ok (.getfield 19, 3) := by decide +kernel
theorem dX4_ring_25 : decode cX4_ring 25 = .ok (.iload_n 1, 1) := by decide +kernel
theorem dX4_ring_26 : decode cX4_ring 26 = .ok (.invokevirtual 186, 3) := by decide +kernel
theorem dX4_ring_29 : decode cX4_ring 29 = .ok (.ireturn, 1) := by decide +kernel
set_option maxRecDepth 20000 in
theorem ggX4_setDrum_X1_remember : GoodIn wsX4_setDrum wsX1_remember := goodIn_r _ [9, 10, 11, 12, 13, 14, 15, 16, 17, 18, 19, 20, 21, 22, 23, 24, 25, 26, 27, 28, 29, 30, 31, 32, 33, 34, 35, 36, 37, 38, 39, 40, 41, 42, 43, 44, 45, 88, 89, 90, 72, 73, 74, 75, 76, 77, 78, 79, 80, 81, 82, 83, 84, 85, 86, 87, 91, 92, 93, 94] (by decide +kernel) (by decide +kernel)
set_option maxRecDepth 20000 in
theorem gX4_setDrum_X1_remember : GoodIn wsX4_setDrum (wsV RX4 191 RX1 yX1_remember wsX1_remember) := goodIn_app (goodIn_of _ (by decide +kernel)) ggX4_setDrum_X1_remember
set_option maxRecDepth 20000 in
theorem ggX4_setDrum_X2_takeAllOff : GoodIn wsX4_setDrum wsX2_takeAllOff := goodIn_r _ [49, 50, 51, 52, 16, 53, 19, 54, 55, 56, 57, 27, 28, 58, 59, 60, 61, 29, 22, 32, 62, 63, 64, 72, 73, 74, 75, 76, 77, 78, 79, 80, 81, 82, 83, 84, 85, 86, 87] (by decide +kernel) (by decide +kernel)
set_option maxRecDepth 20000 in
theorem gX4_setDrum_X2_takeAllOff : GoodIn wsX4_setDrum (wsV RX4 194 RX2 yX2_takeAllOff wsX2_takeAllOff) := goodIn_app (goodIn_of _ (by decide +kernel)) ggX4_setDrum_X2_takeAllOff
theorem dX4_setDrum_0 : decode cX4_setDrum 0 = .ok (.iload_n 1, 1) := by decide +kernel
theorem dX4_setDrum_1 : decode cX4_setDrum 1 = .ok (.bipush 6, 2) := by decide +kernel
theorem dX4_setDrum_3 : decode cX4_setDrum 3 = .ok (.if_icmp .lt 9, 3) := by decide +kernel
theorem dX4_setDrum_6 : decode cX4_setDrum 6 = .ok (.iload_n 1, 1) := by decide +kernel
theorem dX4_setDrum_7 : decode cX4_setDrum 7 = .ok (.bipush 40, 2) := by decide +kernel
theorem dX4_setDrum_9 : decode cX4_setDrum 9 = .ok (.if_icmp .le 13, 3) := by decide +kernel
theorem dX4_setDrum_12 : decode cX4_setDrum 12 = .ok (.new 44, 3) := by decide +kernel
theorem dX4_setDrum_15 : decode cX4_setDrum 15 = .ok (.dup, 1) := by decide +kernel
theorem dX4_setDrum_16 : decode cX4_setDrum 16 = .ok (.ldc 189, 2) := by decide +kernel
theorem dX4_setDrum_18 : decode cX4_setDrum 18 = .ok (.invokespecial 48, 3) := by decide +kernel
theorem dX4_setDrum_21 : decode cX4_setDrum 21 = .ok (.athrow, 1) := by decide +kernel
theorem dX4_setDrum_22 : decode cX4_setDrum 22 = .ok (.aload_n 0, 1) := by decide +kernel
theorem dX4_setDrum_23 : decode cX4_setDrum 23 = .ok (.getfield 32, 3) := by decide +kernel
theorem dX4_setDrum_26 : decode cX4_setDrum 26 = .ok (.aload_n 0, 1) := by decide +kernel
theorem dX4_setDrum_27 : decode cX4_setDrum 27 = .ok (.getfield 19, 3) := by decide +kernel
theorem dX4_setDrum_30 : decode cX4_setDrum 30 = .ok (.invokevirtual 191, 3) := by decide +kernel
theorem dX4_setDrum_33 : decode cX4_setDrum 33 = .ok (.aload_n 0, 1) := by decide +kernel
theorem dX4_setDrum_34 : decode cX4_setDrum 34 = .ok (.getfield 19, 3) := by decide +kernel
theorem dX4_setDrum_37 : decode cX4_setDrum 37 = .ok (.getfield 84, 3) := by decide +kernel
theorem dX4_setDrum_40 : decode cX4_setDrum 40 = .ok (.istore_n 2, 1) := by decide +kernel
theorem dX4_setDrum_41 : decode cX4_setDrum 41 = .ok (.aload_n 0, 1) := by decide +kernel
theorem dX4_setDrum_42 : decode cX4_setDrum 42 = .ok (.getfield 19, 3) := by decide +kernel
theorem dX4_setDrum_45 : decode cX4_setDrum 45 = .ok (.invokevirtual 194, 3) := by decide +kernel
theorem dX4_setDrum_48 : decode cX4_setDrum 48 = .ok (.aload_n 0, 1) := by decide +kernel
theorem dX4_setDrum_49 : decode cX4_setDrum 49 = .ok (.getfield 19, 3) := by decide +kernel
theorem dX4_setDrum_52 : decode cX4_setDrum 52 = .ok (.iload_n 1, 1) := by decide +kernel
theorem dX4_setDrum_53 : decode cX4_setDrum 53 = .ok (.putfield 84, 3) := by decide +kernel
theorem dX4_setDrum_56 : decode cX4_setDrum 56 = .ok (.iload_n 2, 1) := by decide +kernel
theorem dX4_setDrum_57 : decode cX4_setDrum 57 = .ok (.ireturn, 1) := by decide +kernel
set_option maxRecDepth 20000 in
theorem ggX4_addOrder_X4_isAuthor : GoodIn wsX4_addOrder wsX4_isAuthor := goodIn_r _ [10] (by decide +kernel) (by decide +kernel)
set_option maxRecDepth 20000 in
theorem gX4_addOrder_X4_isAuthor : GoodIn wsX4_addOrder (va_wsS RX4 159 yX4_isAuthor wsX4_isAuthor) := goodIn_app (goodIn_of _ (by decide +kernel)) ggX4_addOrder_X4_isAuthor
set_option maxRecDepth 20000 in
theorem ggX4_addOrder_X4_isWork : GoodIn wsX4_addOrder wsX4_isWork := goodIn_r _ [13] (by decide +kernel) (by decide +kernel)
set_option maxRecDepth 20000 in
theorem gX4_addOrder_X4_isWork : GoodIn wsX4_addOrder (va_wsS RX4 197 yX4_isWork wsX4_isWork) := goodIn_app (goodIn_of _ (by decide +kernel)) ggX4_addOrder_X4_isWork
set_option maxRecDepth 20000 in
theorem ggX4_addOrder_X4_isLink : GoodIn wsX4_addOrder wsX4_isLink := goodIn_r _ [16] (by decide +kernel) (by decide +kernel)
set_option maxRecDepth 20000 in
theorem gX4_addOrder_X4_isLink : GoodIn wsX4_addOrder (va_wsS RX4 200 yX4_isLink wsX4_isLink) := goodIn_app (goodIn_of _ (by decide +kernel)) ggX4_addOrder_X4_isLink
set_option maxRecDepth 20000 in
theorem ggX4_addOrder_X4_isBribe : GoodIn wsX4_addOrder wsX4_isBribe := goodIn_r _ [19] (by decide +kernel) (by decide +kernel)
set_option maxRecDepth 20000 in
theorem gX4_addOrder_X4_isBribe : GoodIn wsX4_addOrder (va_wsS RX4 203 yX4_isBribe wsX4_isBribe) := goodIn_app (goodIn_of _ (by decide +kernel)) ggX4_addOrder_X4_isBribe
set_option maxRecDepth 20000 in
theorem ggX4_addOrder_X1_remember : GoodIn wsX4_addOrder wsX1_remember := goodIn_r _ [24, 25, 26, 27, 28, 29, 30, 31, 32, 33, 34, 35, 36, 37, 38, 39, 40, 41, 42, 43, 44, 45, 46, 47, 48, 49, 50, 51, 52, 53, 54, 55, 56, 57, 58, 59, 60, 88, 89, 90, 72, 73, 74, 75, 76, 77, 78, 79, 80, 81, 82, 83, 84, 85, 86, 87, 91, 92, 93, 94] (by decide +kernel) (by decide +kernel)
set_option maxRecDepth 20000 in
theorem gX4_addOrder_X1_remember : GoodIn wsX4_addOrder (wsV RX4 191 RX1 yX1_remember wsX1_remember) := goodIn_app (goodIn_of _ (by decide +kernel)) ggX4_addOrder_X1_remember
set_option maxRecDepth 20000 in
theorem ggX4_addOrder_X2_addNew : GoodIn wsX4_addOrder wsX2_addNew := goodIn_r _ [64, 34, 37, 38, 39, 40, 41, 42, 43, 44, 45, 72, 73, 74, 75, 76, 77, 78, 79, 80, 81, 82, 83, 84, 85, 86, 87] (by decide +kernel) (by decide +kernel)
set_option maxRecDepth 20000 in
theorem gX4_addOrder_X2_addNew : GoodIn wsX4_addOrder (wsV RX4 210 RX2 yX2_addNew wsX2_addNew) := goodIn_app (goodIn_of _ (by decide +kernel)) ggX4_addOrder_X2_addNew
theorem dX4_addOrder_0 : decode cX4_addOrder 0 = .ok (.iload_n 1, 1) := by decide +kernel
theorem dX4_addOrder_1 : decode cX4_addOrder 1 = .ok (.invokestatic 159, 3) := by decide +kernel
theorem dX4_addOrder_4 : decode cX4_addOrder 4 = .ok (.ifCond .eq 33, 3) := by decide +kernel
theorem dX4_addOrder_7 : decode cX4_addOrder 7 = .ok (.iload_n 2, 1) := by decide +kernel
theorem dX4_addOrder_8 : decode cX4_addOrder 8 = .ok (.invokestatic 197, 3) := by decide +kernel
theorem dX4_addOrder_11 : decode cX4_addOrder 11 = .ok (.ifCond .eq 26, 3) := by decide +kernel
theorem dX4_addOrder_14 : decode cX4_addOrder 14 = .ok (.iload_n 3, 1) := by decide +kernel
theorem dX4_addOrder_15 : decode cX4_addOrder 15 = .ok (.invokestatic 200, 3) := by decide +kernel
theorem dX4_addOrder_18 : decode cX4_addOrder 18 = .ok (.ifCond .eq 19, 3) := by decide +kernel
theorem dX4_addOrder_21 : decode cX4_addOrder 21 = .ok (.iload 4, 2) := by decide +kernel
theorem dX4_addOrder_23 : decode cX4_addOrder 23 = .ok (.invokestatic 200, 3) := by decide +kernel
theorem dX4_addOrder_26 : decode cX4_addOrder 26 = .ok (.ifCond .eq 11, 3) := by decide +kernel
theorem dX4_addOrder_29 : decode cX4_addOrder 29 = .ok (.iload 5, 2) := by decide +kernel
theorem dX4_addOrder_31 : decode cX4_addOrder 31 = .ok (.invokestatic 203, 3) := by decide +kernel
theorem dX4_addOrder_34 : decode cX4_addOrder 34 = .ok (.ifCond .ne 13, 3) := by decide +kernel
theorem dX4_addOrder_37 : decode cX4_addOrder 37 = .ok (.new 44, 3) := by decide +kernel
theorem dX4_addOrder_40 : decode cX4_addOrder 40 = .ok (.dup, 1) := by decide +kernel
theorem dX4_addOrder_41 : decode cX4_addOrder 41 = .ok (.ldc 206, 2) := by decide +kernel
theorem dX4_addOrder_43 : decode cX4_addOrder 43 = .ok (.invokespecial 48, 3) := by decide +kernel
theorem dX4_addOrder_46 : decode cX4_addOrder 46 = .ok (.athrow, 1) := by decide +kernel
theorem dX4_addOrder_47 : decode cX4_addOrder 47 = .ok (.aload_n 0, 1) := by decide +kernel
theorem dX4_addOrder_48 : decode cX4_addOrder 48 = .ok (.getfield 19, 3) := by decide +kernel
theorem dX4_addOrder_51 : decode cX4_addOrder 51 = .ok (.getfield 80, 3) := by decide +kernel
theorem dX4_addOrder_54 : decode cX4_addOrder 54 = .ok (.bipush 16, 2) := by decide +kernel
theorem dX4_addOrder_56 : decode cX4_addOrder 56 = .ok (.if_icmp .lt 13, 3) := by decide +kernel
theorem dX4_addOrder_59 : decode cX4_addOrder 59 = .ok (.new 55, 3) := by decide +kernel
theorem dX4_addOrder_62 : decode cX4_addOrder 62 = .ok (.dup, 1) := by decide +kernel
theorem dX4_addOrder_63 : decode cX4_addOrder 63 = .ok (.ldc 208, 2) := by decide +kernel
theorem dX4_addOrder_65 : decode cX4_addOrder 65 = .ok (.invokespecial 59, 3) := by decide +kernel
theorem dX4_addOrder_68 : decode cX4_addOrder 68 = .ok (.athrow, 1) := by decide +kernel
theorem dX4_addOrder_69 : decode cX4_addOrder 69 = .ok (.aload_n 0, 1) := by decide +kernel
theorem dX4_addOrder_70 : decode cX4_addOrder 70 = .ok (.getfield 32, 3) := by decide +kernel
theorem dX4_addOrder_73 : decode cX4_addOrder 73 = .ok (.aload_n 0, 1) := by decide +kernel
theorem dX4_addOrder_74 : decode cX4_addOrder 74 = .ok (.getfield 19, 3) := by decide +kernel
theorem dX4_addOrder_77 : decode cX4_addOrder 77 = .ok (.invokevirtual 191, 3) := by decide +kernel
theorem dX4_addOrder_80 : decode cX4_addOrder 80 = .ok (.aload_n 0, 1) := by decide +kernel
theorem dX4_addOrder_81 : decode cX4_addOrder 81 = .ok (.getfield 19, 3) := by decide +kernel
theorem dX4_addOrder_84 : decode cX4_addOrder 84 = .ok (.iload_n 1, 1) := by decide +kernel
theorem dX4_addOrder_85 : decode cX4_addOrder 85 = .ok (.iload_n 2, 1) := by decide +kernel
theorem dX4_addOrder_86 : decode cX4_addOrder 86 = .ok (.iload_n 3, 1) := by decide +kernel
theorem dX4_addOrder_87 : decode cX4_addOrder 87 = .ok (.iload 4, 2) := by decide +kernel
theorem dX4_addOrder_89 : decode cX4_addOrder 89 = .ok (.iload 5, 2) := by decide +kernel
theorem dX4_addOrder_91 : decode cX4_addOrder 91 = .ok (.invokevirtual 210, 3) := by decide +kernel
theorem dX4_addOrder_94 : decode cX4_addOrder 94 = .ok (.ireturn, 1) := by decide +kernel
set_option maxRecDepth 20000 in
theorem ggX4_change_X2_has : GoodIn wsX4_change wsX2_has := goodIn_r _ [11, 12, 83, 84, 85, 86, 87, 88, 89, 90, 91, 92, 93, 94, 95, 96, 97, 98] (by decide +kernel) (by decide +kernel)
set_option maxRecDepth 20000 in
theorem gX4_change_X2_has : GoodIn wsX4_change (wsV RX4 124 RX2 yX2_has wsX2_has) := goodIn_app (goodIn_of _ (by decide +kernel)) ggX4_change_X2_has
set_option maxRecDepth 20000 in
theorem ggX4_change_X4_isNumberOfOrder : GoodIn wsX4_change wsX4_isNumberOfOrder := goodIn_r _ [16, 17, 18, 15, 19, 20, 21, 22, 23, 24, 25, 26, 27, 28] (by decide +kernel) (by decide +kernel)
set_option maxRecDepth 20000 in
theorem gX4_change_X4_isNumberOfOrder : GoodIn wsX4_change (va_wsS RX4 214 yX4_isNumberOfOrder wsX4_isNumberOfOrder) := goodIn_app (goodIn_of _ (by decide +kernel)) ggX4_change_X4_isNumberOfOrder
set_option maxRecDepth 20000 in
theorem ggX4_change_X1_remember : GoodIn wsX4_change wsX1_remember := goodIn_r _ [33, 34, 35, 36, 37, 38, 39, 10, 40, 41, 12, 42, 43, 44, 45, 46, 47, 48, 49, 50, 51, 52, 53, 54, 55, 56, 57, 58, 59, 60, 61, 62, 63, 64, 65, 66, 67, 99, 100, 101, 83, 84, 85, 86, 87, 88, 89, 90, 91, 92, 93, 94, 95, 96, 97, 98, 102, 103, 104, 105] (by decide +kernel) (by decide +kernel)
set_option maxRecDepth 20000 in
theorem gX4_change_X1_remember : GoodIn wsX4_change (wsV RX4 191 RX1 yX1_remember wsX1_remember) := goodIn_app (goodIn_of _ (by decide +kernel)) ggX4_change_X1_remember
set_option maxRecDepth 20000 in
theorem ggX4_change_X2_replace : GoodIn wsX4_change wsX2_replace := goodIn_r _ [71, 72, 73, 74, 10, 75, 44, 45, 46, 47, 48, 83, 84, 85, 86, 87, 88, 89, 90, 91, 92, 93, 94, 95, 96, 97, 98] (by decide +kernel) (by decide +kernel)
set_option maxRecDepth 20000 in
theorem gX4_change_X2_replace : GoodIn wsX4_change (wsV RX4 220 RX2 yX2_replace wsX2_replace) := goodIn_app (goodIn_of _ (by decide +kernel)) ggX4_change_X2_replace
theorem dX4_change_0 : decode cX4_change 0 = .ok (.aload_n 0, 1) := by decide +kernel
theorem dX4_change_1 : decode cX4_change 1 = .ok (.getfield 19, 3) := by decide +kernel
theorem dX4_change_4 : decode cX4_change 4 = .ok (.iload_n 1, 1) := by decide +kernel
theorem dX4_change_5 : decode cX4_change 5 = .ok (.invokevirtual 124, 3) := by decide +kernel
theorem dX4_change_8 : decode cX4_change 8 = .ok (.ifCond .ne 13, 3) := by decide +kernel
theorem dX4_change_11 : decode cX4_change 11 = .ok (.new 128, 3) := by decide +kernel
theorem dX4_change_14 : decode cX4_change 14 = .ok (.dup, 1) := by decide +kernel
theorem dX4_change_15 : decode cX4_change 15 = .ok (.ldc 130, 2) := by decide +kernel
theorem dX4_change_17 : decode cX4_change 17 = .ok (.invokespecial 132, 3) := by decide +kernel
theorem dX4_change_20 : decode cX4_change 20 = .ok (.athrow, 1) := by decide +kernel
theorem dX4_change_21 : decode cX4_change 21 = .ok (.iload_n 2, 1) := by decide +kernel
theorem dX4_change_22 : decode cX4_change 22 = .ok (.iload_n 3, 1) := by decide +kernel
theorem dX4_change_23 : decode cX4_change 23 = .ok (.invokestatic 214, 3) := by decide +kernel
theorem dX4_change_26 : decode cX4_change 26 = .ok (.ifCond .ne 13, 3) := by decide +kernel
theorem dX4_change_29 : decode cX4_change 29 = .ok (.new 44, 3) := by decide +kernel
theorem dX4_change_32 : decode cX4_change 32 = .ok (.dup, 1) := by decide +kernel
theorem dX4_change_33 : decode cX4_change 33 = .ok (.ldc 218, 2) := by decide +kernel
theorem dX4_change_35 : decode cX4_change 35 = .ok (.invokespecial 48, 3) := by decide +kernel
theorem dX4_change_38 : decode cX4_change 38 = .ok (.athrow, 1) := by decide +kernel
theorem dX4_change_39 : decode cX4_change 39 = .ok (.aload_n 0, 1) := by decide +kernel
theorem dX4_change_40 : decode cX4_change 40 = .ok (.getfield 32, 3) := by decide +kernel
theorem dX4_change_43 : decode cX4_change 43 = .ok (.aload_n 0, 1) := by decide +kernel
theorem dX4_change_44 : decode cX4_change 44 = .ok (.getfield 19, 3) := by decide +kernel
theorem dX4_change_47 : decode cX4_change 47 = .ok (.invokevirtual 191, 3) := by decide +kernel
theorem dX4_change_50 : decode cX4_change 50 = .ok (.aload_n 0, 1) := by decide +kernel
theorem dX4_change_51 : decode cX4_change 51 = .ok (.getfield 19, 3) := by decide +kernel
theorem dX4_change_54 : decode cX4_change 54 = .ok (.iload_n 1, 1) := by decide +kernel
theorem dX4_change_55 : decode cX4_change 55 = .ok (.iload_n 2, 1) := by decide +kernel
theorem dX4_change_56 : decode cX4_change 56 = .ok (.iload_n 3, 1) := by decide +kernel
theorem dX4_change_57 : decode cX4_change 57 = .ok (.invokevirtual 220, 3) := by decide +kernel
theorem dX4_change_60 : decode cX4_change 60 = .ok (.ireturn, 1) := by decide +kernel
set_option maxRecDepth 20000 in
theorem ggX4_move_X2_has : GoodIn wsX4_move wsX2_has := goodIn_r _ [11, 12, 83, 84, 85, 86, 87, 88, 89, 90, 91, 92, 93, 94, 95, 96, 97, 98] (by decide +kernel) (by decide +kernel)
set_option maxRecDepth 20000 in
theorem gX4_move_X2_has : GoodIn wsX4_move (wsV RX4 124 RX2 yX2_has wsX2_has) := goodIn_app (goodIn_of _ (by decide +kernel)) ggX4_move_X2_has
set_option maxRecDepth 20000 in
theorem ggX4_move_X2_hasPlace : GoodIn wsX4_move wsX2_hasPlace := goodIn_r _ [16, 17, 83, 84, 85, 86, 87, 88, 89, 90, 91, 92, 93, 94, 95, 96, 97, 98] (by decide +kernel) (by decide +kernel)
set_option maxRecDepth 20000 in
theorem gX4_move_X2_hasPlace : GoodIn wsX4_move (wsV RX4 169 RX2 yX2_hasPlace wsX2_hasPlace) := goodIn_app (goodIn_of _ (by decide +kernel)) ggX4_move_X2_hasPlace
set_option maxRecDepth 20000 in
theorem ggX4_move_X2_isFreeFor : GoodIn wsX4_move wsX2_isFreeFor := goodIn_r _ [21, 22, 23, 24, 10, 25, 26, 27, 8, 9, 11, 12, 83, 84, 85, 86, 87, 88, 89, 90, 91, 92, 93, 94, 95, 96, 97, 98] (by decide +kernel) (by decide +kernel)
set_option maxRecDepth 20000 in
theorem gX4_move_X2_isFreeFor : GoodIn wsX4_move (wsV RX4 226 RX2 yX2_isFreeFor wsX2_isFreeFor) := goodIn_app (goodIn_of _ (by decide +kernel)) ggX4_move_X2_isFreeFor
set_option maxRecDepth 20000 in
theorem ggX4_move_X1_remember : GoodIn wsX4_move wsX1_remember := goodIn_r _ [32, 33, 34, 35, 36, 37, 38, 10, 39, 17, 12, 40, 41, 42, 43, 44, 45, 46, 26, 47, 48, 49, 50, 51, 52, 53, 54, 55, 56, 57, 58, 59, 60, 61, 62, 63, 64, 99, 100, 101, 83, 84, 85, 86, 87, 88, 89, 90, 91, 92, 93, 94, 95, 96, 97, 98, 102, 103, 104, 105] (by decide +kernel) (by decide +kernel)
set_option maxRecDepth 20000 in
theorem gX4_move_X1_remember : GoodIn wsX4_move (wsV RX4 191 RX1 yX1_remember wsX1_remember) := goodIn_app (goodIn_of _ (by decide +kernel)) ggX4_move_X1_remember
set_option maxRecDepth 20000 in
theorem ggX4_move_X2_put : GoodIn wsX4_move wsX2_put := goodIn_r _ [68, 26, 47, 69, 70, 71, 10, 72, 48, 42, 51, 73, 74, 75, 83, 84, 85, 86, 87, 88, 89, 90, 91, 92, 93, 94, 95, 96, 97, 98] (by decide +kernel) (by decide +kernel)
set_option maxRecDepth 20000 in
theorem gX4_move_X2_put : GoodIn wsX4_move (wsV RX4 231 RX2 yX2_put wsX2_put) := goodIn_app (goodIn_of _ (by decide +kernel)) ggX4_move_X2_put
theorem dX4_move_0 : decode cX4_move 0 = .ok (.aload_n 0, 1) := by decide +kernel
theorem dX4_move_1 : decode cX4_move 1 = .ok (.getfield 19, 3) := by decide +kernel
theorem dX4_move_4 : decode cX4_move 4 = .ok (.iload_n 1, 1) := by decide +kernel
theorem dX4_move_5 : decode cX4_move 5 = .ok (.invokevirtual 124, 3) := by decide +kernel
theorem dX4_move_8 : decode cX4_move 8 = .ok (.ifCond .eq 14, 3) := by decide +kernel
theorem dX4_move_11 : decode cX4_move 11 = .ok (.aload_n 0, 1) := by decide +kernel
theorem dX4_move_12 : decode cX4_move 12 = .ok (.getfield 19, 3) := by decide +kernel
theorem dX4_move_15 : decode cX4_move 15 = .ok (.iload_n 2, 1) := by decide +kernel
theorem dX4_move_16 : decode cX4_move 16 = .ok (.invokevirtual 169, 3) := by decide +kernel
theorem dX4_move_19 : decode cX4_move 19 = .ok (.ifCond .ne 13, 3) := by decide +kernel
theorem dX4_move_22 : decode cX4_move 22 = .ok (.new 128, 3) := by decide +kernel
theorem dX4_move_25 : decode cX4_move 25 = .ok (.dup, 1) := by decide +kernel
theorem dX4_move_26 : decode cX4_move 26 = .ok (.ldc 224, 2) := by decide +kernel
theorem dX4_move_28 : decode cX4_move 28 = .ok (.invokespecial 132, 3) := by decide +kernel
theorem dX4_move_31 : decode cX4_move 31 = .ok (.athrow, 1) := by decide +kernel
theorem dX4_move_32 : decode cX4_move 32 = .ok (.aload_n 0, 1) := by decide +kernel
theorem dX4_move_33 : decode cX4_move 33 = .ok (.getfield 19, 3) := by decide +kernel
theorem dX4_move_36 : decode cX4_move 36 = .ok (.iload_n 1, 1) := by decide +kernel
theorem dX4_move_37 : decode cX4_move 37 = .ok (.iload_n 2, 1) := by decide +kernel
theorem dX4_move_38 : decode cX4_move 38 = .ok (.invokevirtual 226, 3) := by decide +kernel
theorem dX4_move_41 : decode cX4_move 41 = .ok (.ifCond .ne 13, 3) := by decide +kernel
theorem dX4_move_44 : decode cX4_move 44 = .ok (.new 55, 3) := by decide +kernel
theorem dX4_move_47 : decode cX4_move 47 = .ok (.dup, 1) := by decide +kernel
theorem dX4_move_48 : decode cX4_move 48 = .ok (.ldc 229, 2) := by decide +kernel
theorem dX4_move_50 : decode cX4_move 50 = .ok (.invokespecial 59, 3) := by decide +kernel
theorem dX4_move_53 : decode cX4_move 53 = .ok (.athrow, 1) := by decide +kernel
theorem dX4_move_54 : decode cX4_move 54 = .ok (.aload_n 0, 1) := by decide +kernel
theorem dX4_move_55 : decode cX4_move 55 = .ok (.getfield 32, 3) := by decide +kernel
theorem dX4_move_58 : decode cX4_move 58 = .ok (.aload_n 0, 1) := by decide +kernel
theorem dX4_move_59 : decode cX4_move 59 = .ok (.getfield 19, 3) := by decide +kernel
theorem dX4_move_62 : decode cX4_move 62 = .ok (.invokevirtual 191, 3) := by decide +kernel
theorem dX4_move_65 : decode cX4_move 65 = .ok (.aload_n 0, 1) := by decide +kernel
theorem dX4_move_66 : decode cX4_move 66 = .ok (.getfield 19, 3) := by decide +kernel
theorem dX4_move_69 : decode cX4_move 69 = .ok (.iload_n 1, 1) := by decide +kernel
theorem dX4_move_70 : decode cX4_move 70 = .ok (.iload_n 2, 1) := by decide +kernel
theorem dX4_move_71 : decode cX4_move 71 = .ok (.invokevirtual 231, 3) := by decide +kernel
theorem dX4_move_74 : decode cX4_move 74 = .ok (.ireturn, 1) := by decide +kernel
set_option maxRecDepth 20000 in
theorem ggX4_lay_X1_remember : GoodIn wsX4_lay wsX1_remember := goodIn_r _ [7, 8, 9, 10, 11, 12, 13, 14, 15, 16, 17, 18, 19, 20, 21, 22, 23, 24, 25, 26, 27, 28, 29, 30, 31, 32, 33, 34, 35, 36, 37, 38, 39, 40, 41, 42, 43, 102, 103, 104, 105, 106, 107, 108, 109, 110, 111, 112, 113, 114, 115, 116, 117, 118, 119, 120, 121, 122, 123, 124] (by decide +kernel) (by decide +kernel)
set_option maxRecDepth 20000 in
theorem gX4_lay_X1_remember : GoodIn wsX4_lay (wsV RX4 191 RX1 yX1_remember wsX1_remember) := goodIn_app (goodIn_of _ (by decide +kernel)) ggX4_lay_X1_remember
set_option maxRecDepth 20000 in
theorem ggX4_lay_X2_layAll : GoodIn wsX4_lay wsX2_layAll := goodIn_r _ [47, 26, 48, 49, 50, 14, 51, 52, 53, 54, 55, 17, 56, 57, 58, 59, 25, 60, 61, 62, 63, 27, 20, 30, 64, 65, 66, 67, 68, 69, 70, 24, 71, 72, 73, 74, 16, 29, 75, 76, 77, 78, 22, 21, 79, 80, 81, 82, 83, 84, 85, 86, 87, 88, 89, 90, 91, 92, 93, 94, 105, 106, 107, 108, 109, 110, 111, 112, 113, 114, 115, 116, 117, 118, 119, 120] (by decide +kernel) (by decide +kernel)
set_option maxRecDepth 20000 in
theorem gX4_lay_X2_layAll : GoodIn wsX4_lay (wsV RX4 234 RX2 yX2_layAll wsX2_layAll) := goodIn_app (goodIn_of _ (by decide +kernel)) ggX4_lay_X2_layAll
theorem dX4_lay_0 : decode cX4_lay 0 = .ok (.aload_n 0, 1) := by decide +kernel
theorem dX4_lay_1 : decode cX4_lay 1 = .ok (.getfield 32, 3) := by decide +kernel
theorem dX4_lay_4 : decode cX4_lay 4 = .ok (.aload_n 0, 1) := by decide +kernel
theorem dX4_lay_5 : decode cX4_lay 5 = .ok (.getfield 19, 3) := by decide +kernel
theorem dX4_lay_8 : decode cX4_lay 8 = .ok (.invokevirtual 191, 3) := by decide +kernel
theorem dX4_lay_11 : decode cX4_lay 11 = .ok (.aload_n 0, 1) := by decide +kernel
theorem dX4_lay_12 : decode cX4_lay 12 = .ok (.getfield 19, 3) := by decide +kernel
theorem dX4_lay_15 : decode cX4_lay 15 = .ok (.invokevirtual 234, 3) := by decide +kernel
theorem dX4_lay_18 : decode cX4_lay 18 = .ok (.ireturn, 1) := by decide +kernel
set_option maxRecDepth 20000 in
theorem ggX4_run_X2_has : GoodIn wsX4_run wsX2_has := goodIn_r _ [9, 10, 89, 90, 91, 92, 93, 94, 95, 96, 97, 98, 99, 100, 101, 102, 103, 104] (by decide +kernel) (by decide +kernel)
set_option maxRecDepth 20000 in
theorem gX4_run_X2_has : GoodIn wsX4_run (wsV RX4 124 RX2 yX2_has wsX2_has) := goodIn_app (goodIn_of _ (by decide +kernel)) ggX4_run_X2_has
set_option maxRecDepth 20000 in
theorem ggX4_run_X1_remember : GoodIn wsX4_run wsX1_remember := goodIn_r _ [15, 16, 17, 18, 19, 20, 21, 8, 22, 23, 10, 24, 25, 26, 27, 28, 29, 30, 31, 32, 33, 34, 35, 36, 37, 38, 39, 40, 41, 42, 43, 44, 45, 46, 47, 48, 49, 105, 106, 107, 89, 90, 91, 92, 93, 94, 95, 96, 97, 98, 99, 100, 101, 102, 103, 104, 108, 109, 110, 111] (by decide +kernel) (by decide +kernel)
set_option maxRecDepth 20000 in
theorem gX4_run_X1_remember : GoodIn wsX4_run (wsV RX4 191 RX1 yX1_remember wsX1_remember) := goodIn_app (goodIn_of _ (by decide +kernel)) ggX4_run_X1_remember
set_option maxRecDepth 20000 in
theorem ggX4_run_X2_runFrom : GoodIn wsX4_run wsX2_runFrom := goodIn_r _ [53, 29, 28, 37, 25, 54, 55, 56, 8, 57, 31, 58, 6, 7, 9, 10, 59, 60, 61, 62, 24, 34, 33, 27, 63, 64, 65, 66, 23, 67, 68, 69, 70, 71, 72, 73, 74, 26, 36, 75, 76, 77, 78, 79, 80, 44, 81, 46, 47, 48, 49, 89, 90, 91, 92, 93, 94, 95, 96, 97, 98, 99, 100, 101, 102, 103, 104, 108, 109, 110, 111] (by decide +kernel) (by decide +kernel)
set_option maxRecDepth 20000 in
theorem gX4_run_X2_runFrom : GoodIn wsX4_run (wsV RX4 237 RX2 yX2_runFrom wsX2_runFrom) := goodIn_app (goodIn_of _ (by decide +kernel)) ggX4_run_X2_runFrom
theorem dX4_run_0 : decode cX4_run 0 = .ok (.aload_n 0, 1) := by decide +kernel
theorem dX4_run_1 : decode cX4_run 1 = .ok (.getfield 19, 3) := by decide +kernel
theorem dX4_run_4 : decode cX4_run 4 = .ok (.iload_n 1, 1) := by decide +kernel
theorem dX4_run_5 : decode cX4_run 5 = .ok (.invokevirtual 124, 3) := by decide +kernel
theorem dX4_run_8 : decode cX4_run 8 = .ok (.ifCond .ne 13, 3) := by decide +kernel
theorem dX4_run_11 : decode cX4_run 11 = .ok (.new 128, 3) := by decide +kernel
theorem dX4_run_14 : decode cX4_run 14 = .ok (.dup, 1) := by decide +kernel
theorem dX4_run_15 : decode cX4_run 15 = .ok (.ldc 130, 2) := by decide +kernel
theorem dX4_run_17 : decode cX4_run 17 = .ok (.invokespecial 132, 3) := by decide +kernel
theorem dX4_run_20 : decode cX4_run 20 = .ok (.athrow, 1) := by decide +kernel
theorem dX4_run_21 : decode cX4_run 21 = .ok (.aload_n 0, 1) := by decide +kernel
theorem dX4_run_22 : decode cX4_run 22 = .ok (.getfield 32, 3) := by decide +kernel
theorem dX4_run_25 : decode cX4_run 25 = .ok (.aload_n 0, 1) := by decide +kernel
theorem dX4_run_26 : decode cX4_run 26 = .ok (.getfield 19, 3) := by decide +kernel
theorem dX4_run_29 : decode cX4_run 29 = .ok (.invokevirtual 191, 3) := by decide +kernel
theorem dX4_run_32 : decode cX4_run 32 = .ok (.aload_n 0, 1) := by decide +kernel
theorem dX4_run_33 : decode cX4_run 33 = .ok (.getfield 19, 3) := by decide +kernel
theorem dX4_run_36 : decode cX4_run 36 = .ok (.iload_n 1, 1) := by decide +kernel
theorem dX4_run_37 : decode cX4_run 37 = .ok (.invokevirtual 237, 3) := by decide +kernel
theorem dX4_run_40 : decode cX4_run 40 = .ok (.ireturn, 1) := by decide +kernel
set_option maxRecDepth 20000 in
theorem ggX4_turn_X4_isTurn : GoodIn wsX4_turn wsX4_isTurn := goodIn_r _ [8] (by decide +kernel) (by decide +kernel)
set_option maxRecDepth 20000 in
theorem gX4_turn_X4_isTurn : GoodIn wsX4_turn (va_wsS RX4 240 yX4_isTurn wsX4_isTurn) := goodIn_app (goodIn_of _ (by decide +kernel)) ggX4_turn_X4_isTurn
set_option maxRecDepth 20000 in
theorem ggX4_turn_X1_remember : GoodIn wsX4_turn wsX1_remember := goodIn_r _ [13, 14, 15, 16, 17, 18, 19, 20, 21, 22, 23, 24, 25, 26, 27, 28, 29, 30, 31, 32, 33, 34, 35, 36, 37, 38, 39, 40, 41, 42, 43, 44, 45, 46, 47, 48, 49, 81, 82, 83, 65, 66, 67, 68, 69, 70, 71, 72, 73, 74, 75, 76, 77, 78, 79, 80, 84, 85, 86, 87] (by decide +kernel) (by decide +kernel)
set_option maxRecDepth 20000 in
theorem gX4_turn_X1_remember : GoodIn wsX4_turn (wsV RX4 191 RX1 yX1_remember wsX1_remember) := goodIn_app (goodIn_of _ (by decide +kernel)) ggX4_turn_X1_remember
set_option maxRecDepth 20000 in
theorem ggX4_turn_X2_around : GoodIn wsX4_turn wsX2_around := goodIn_r _ [53, 22, 54, 55, 56, 57, 65, 66, 67, 68, 69, 70, 71, 72, 73, 74, 75, 76, 77, 78, 79, 80] (by decide +kernel) (by decide +kernel)
set_option maxRecDepth 20000 in
theorem gX4_turn_X2_around : GoodIn wsX4_turn (wsV RX4 90 RX2 yX2_around wsX2_around) := goodIn_app (goodIn_of _ (by decide +kernel)) ggX4_turn_X2_around
theorem dX4_turn_0 : decode cX4_turn 0 = .ok (.iload_n 1, 1) := by decide +kernel
theorem dX4_turn_1 : decode cX4_turn 1 = .ok (.invokestatic 240, 3) := by decide +kernel
theorem dX4_turn_4 : decode cX4_turn 4 = .ok (.ifCond .ne 13, 3) := by decide +kernel
theorem dX4_turn_7 : decode cX4_turn 7 = .ok (.new 44, 3) := by decide +kernel
theorem dX4_turn_10 : decode cX4_turn 10 = .ok (.dup, 1) := by decide +kernel
theorem dX4_turn_11 : decode cX4_turn 11 = .ok (.ldc 243, 2) := by decide +kernel
theorem dX4_turn_13 : decode cX4_turn 13 = .ok (.invokespecial 48, 3) := by decide +kernel
theorem dX4_turn_16 : decode cX4_turn 16 = .ok (.athrow, 1) := by decide +kernel
theorem dX4_turn_17 : decode cX4_turn 17 = .ok (.aload_n 0, 1) := by decide +kernel
theorem dX4_turn_18 : decode cX4_turn 18 = .ok (.getfield 32, 3) := by decide +kernel
theorem dX4_turn_21 : decode cX4_turn 21 = .ok (.aload_n 0, 1) := by decide +kernel
theorem dX4_turn_22 : decode cX4_turn 22 = .ok (.getfield 19, 3) := by decide +kernel
theorem dX4_turn_25 : decode cX4_turn 25 = .ok (.invokevirtual 191, 3) := by decide +kernel
theorem dX4_turn_28 : decode cX4_turn 28 = .ok (.aload_n 0, 1) := by decide +kernel
theorem dX4_turn_29 : decode cX4_turn 29 = .ok (.getfield 19, 3) := by decide +kernel
theorem dX4_turn_32 : decode cX4_turn 32 = .ok (.dup, 1) := by decide +kernel
theorem dX4_turn_33 : decode cX4_turn 33 = .ok (.getfield 87, 3) := by decide +kernel
theorem dX4_turn_36 : decode cX4_turn 36 = .ok (.iload_n 1, 1) := by decide +kernel
theorem dX4_turn_37 : decode cX4_turn 37 = .ok (.iadd, 1) := by decide +kernel
theorem dX4_turn_38 : decode cX4_turn 38 = .ok (.putfield 87, 3) := by decide +kernel
theorem dX4_turn_41 : decode cX4_turn 41 = .ok (.aload_n 0, 1) := by decide +kernel
theorem dX4_turn_42 : decode cX4_turn 42 = .ok (.getfield 19, 3) := by decide +kernel
theorem dX4_turn_45 : decode cX4_turn 45 = .ok (.aload_n 0, 1) := by decide +kernel
theorem dX4_turn_46 : decode cX4_turn 46 = .ok (.getfield 19, 3) := by decide +kernel
theorem dX4_turn_49 : decode cX4_turn 49 = .ok (.getfield 87, 3) := by decide +kernel
theorem dX4_turn_52 : decode cX4_turn 52 = .ok (.invokevirtual 90, 3) := by decide +kernel
theorem dX4_turn_55 : decode cX4_turn 55 = .ok (.ireturn, 1) := by decide +kernel
set_option maxRecDepth 20000 in
theorem ggX4_undo_X1_bringBack : GoodIn wsX4_undo wsX1_bringBack := goodIn_r _ [9, 10, 11, 12, 13, 14, 15, 16, 17, 18, 19, 20, 21, 22, 23, 24, 25, 26, 27, 28, 29, 30, 31, 32, 33, 34, 35, 36, 37, 38, 39, 40, 41, 42, 43, 44, 45, 53, 54, 55, 56, 57, 58, 59, 60, 61, 62, 63, 64, 65, 66, 67, 68, 69, 70, 71, 72, 73, 74, 75] (by decide +kernel) (by decide +kernel)
set_option maxRecDepth 20000 in
theorem gX4_undo_X1_bringBack : GoodIn wsX4_undo (wsV RX4 248 RX1 yX1_bringBack wsX1_bringBack) := goodIn_app (goodIn_of _ (by decide +kernel)) ggX4_undo_X1_bringBack
theorem dX4_undo_0 : decode cX4_undo 0 = .ok (.aload_n 0, 1) := by decide +kernel
theorem dX4_undo_1 : decode cX4_undo 1 = .ok (.getfield 32, 3) := by decide +kernel
theorem dX4_undo_4 : decode cX4_undo 4 = .ok (.getfield 245, 3) := by decide +kernel
theorem dX4_undo_7 : decode cX4_undo 7 = .ok (.iconst 1, 1) := by decide +kernel
theorem dX4_undo_8 : decode cX4_undo 8 = .ok (.if_icmp .ge 13, 3) := by decide +kernel
theorem dX4_undo_11 : decode cX4_undo 11 = .ok (.new 55, 3) := by decide +kernel
theorem dX4_undo_14 : decode cX4_undo 14 = .ok (.dup, 1) := by decide +kernel
theorem dX4_undo_15 : decode cX4_undo 15 = .ok (.ldc 246, 2) := by decide +kernel
theorem dX4_undo_17 : decode cX4_undo 17 = .ok (.invokespecial 59, 3) := by decide +kernel
theorem dX4_undo_20 : decode cX4_undo 20 = .ok (.athrow, 1) := by decide +kernel
theorem dX4_undo_21 : decode cX4_undo 21 = .ok (.aload_n 0, 1) := by decide +kernel
theorem dX4_undo_22 : decode cX4_undo 22 = .ok (.getfield 32, 3) := by decide +kernel
theorem dX4_undo_25 : decode cX4_undo 25 = .ok (.aload_n 0, 1) := by decide +kernel
theorem dX4_undo_26 : decode cX4_undo 26 = .ok (.getfield 19, 3) := by decide +kernel
theorem dX4_undo_29 : decode cX4_undo 29 = .ok (.invokevirtual 248, 3) := by decide +kernel
theorem dX4_undo_32 : decode cX4_undo 32 = .ok (.aload_n 0, 1) := by decide +kernel
theorem dX4_undo_33 : decode cX4_undo 33 = .ok (.getfield 32, 3) := by decide +kernel
theorem dX4_undo_36 : decode cX4_undo 36 = .ok (.getfield 245, 3) := by decide +kernel
theorem dX4_undo_39 : decode cX4_undo 39 = .ok (.ireturn, 1) := by decide +kernel
set_option maxRecDepth 20000 in
theorem ggX4_waits_X2_has : GoodIn wsX4_waits wsX2_has := goodIn_r _ [8, 9, 37, 38, 39, 40, 41, 42, 43, 44, 45, 46, 47, 48, 49, 50, 51, 52] (by decide +kernel) (by decide +kernel)
set_option maxRecDepth 20000 in
theorem gX4_waits_X2_has : GoodIn wsX4_waits (wsV RX4 124 RX2 yX2_has wsX2_has) := goodIn_app (goodIn_of _ (by decide +kernel)) ggX4_waits_X2_has
set_option maxRecDepth 20000 in
theorem ggX4_waits_X2_waitFor : GoodIn wsX4_waits wsX2_waitFor := goodIn_r _ [13, 14, 15, 16, 17, 18, 7, 19, 20, 5, 6, 8, 9, 21, 22, 23, 24, 25, 26, 27, 28, 29, 37, 38, 39, 40, 41, 42, 43, 44, 45, 46, 47, 48, 49, 50, 51, 52] (by decide +kernel) (by decide +kernel)
set_option maxRecDepth 20000 in
theorem gX4_waits_X2_waitFor : GoodIn wsX4_waits (wsV RX4 251 RX2 yX2_waitFor wsX2_waitFor) := goodIn_app (goodIn_of _ (by decide +kernel)) ggX4_waits_X2_waitFor
theorem dX4_waits_0 : decode cX4_waits 0 = .ok (.aload_n 0, 1) := by decide +kernel
theorem dX4_waits_1 : decode cX4_waits 1 = .ok (.getfield 19, 3) := by decide +kernel
theorem dX4_waits_4 : decode cX4_waits 4 = .ok (.iload_n 1, 1) := by decide +kernel
theorem dX4_waits_5 : decode cX4_waits 5 = .ok (.invokevirtual 124, 3) := by decide +kernel
theorem dX4_waits_8 : decode cX4_waits 8 = .ok (.ifCond .ne 13, 3) := by decide +kernel
theorem dX4_waits_11 : decode cX4_waits 11 = .ok (.new 128, 3) := by decide +kernel
theorem dX4_waits_14 : decode cX4_waits 14 = .ok (.dup, 1) := by decide +kernel
theorem dX4_waits_15 : decode cX4_waits 15 = .ok (.ldc 130, 2) := by decide +kernel
theorem dX4_waits_17 : decode cX4_waits 17 = .ok (.invokespecial 132, 3) := by decide +kernel
theorem dX4_waits_20 : decode cX4_waits 20 = .ok (.athrow, 1) := by decide +kernel
theorem dX4_waits_21 : decode cX4_waits 21 = .ok (.aload_n 0, 1) := by decide +kernel
theorem dX4_waits_22 : decode cX4_waits 22 = .ok (.getfield 19, 3) := by decide +kernel
theorem dX4_waits_25 : decode cX4_waits 25 = .ok (.iload_n 1, 1) := by decide +kernel
theorem dX4_waits_26 : decode cX4_waits 26 = .ok (.invokevirtual 251, 3) := by decide +kernel
theorem dX4_waits_29 : decode cX4_waits 29 = .ok (.ireturn, 1) := by decide +kernel
set_option maxRecDepth 20000 in
theorem ggX4_time_X2_has : GoodIn wsX4_time wsX2_has := goodIn_r _ [8, 9, 85, 86, 87, 88, 89, 90, 91, 92, 93, 94, 95, 96, 97, 98, 99, 100] (by decide +kernel) (by decide +kernel)
set_option maxRecDepth 20000 in
theorem gX4_time_X2_has : GoodIn wsX4_time (wsV RX4 124 RX2 yX2_has wsX2_has) := goodIn_app (goodIn_of _ (by decide +kernel)) ggX4_time_X2_has
set_option maxRecDepth 20000 in
theorem ggX4_time_X4_ticksOfRun : GoodIn wsX4_time wsX4_ticksOfRun := goodIn_r _ [14, 15, 16, 17, 18, 7, 19, 20, 9, 21, 22, 23, 24, 25, 26, 27, 28, 29, 30, 31, 32, 33, 34, 35, 36, 37, 38, 39, 40, 41, 42, 43, 44, 45, 46, 47, 48, 49, 50, 51, 52, 53, 54, 55, 5, 6, 8, 56, 57, 58, 59, 60, 61, 62, 63, 64, 65, 66, 67, 68, 69, 70, 71, 72, 13, 73, 74, 75, 76, 77, 78, 79, 80, 81, 82, 83, 84, 85, 86, 87, 88, 89, 90, 91, 92, 93, 94, 95, 96, 97, 98, 99, 100, 101, 102, 103, 104] (by decide +kernel) (by decide +kernel)
set_option maxRecDepth 20000 in
theorem gX4_time_X4_ticksOfRun : GoodIn wsX4_time (wsV RX4 254 RX4 yX4_ticksOfRun wsX4_ticksOfRun) := goodIn_app (goodIn_of _ (by decide +kernel)) ggX4_time_X4_ticksOfRun
theorem dX4_time_0 : decode cX4_time 0 = .ok (.aload_n 0, 1) := by decide +kernel
theorem dX4_time_1 : decode cX4_time 1 = .ok (.getfield 19, 3) := by decide +kernel
theorem dX4_time_4 : decode cX4_time 4 = .ok (.iload_n 1, 1) := by decide +kernel
theorem dX4_time_5 : decode cX4_time 5 = .ok (.invokevirtual 124, 3) := by decide +kernel
theorem dX4_time_8 : decode cX4_time 8 = .ok (.ifCond .ne 13, 3) := by decide +kernel
theorem dX4_time_11 : decode cX4_time 11 = .ok (.new 128, 3) := by decide +kernel
theorem dX4_time_14 : decode cX4_time 14 = .ok (.dup, 1) := by decide +kernel
theorem dX4_time_15 : decode cX4_time 15 = .ok (.ldc 130, 2) := by decide +kernel
theorem dX4_time_17 : decode cX4_time 17 = .ok (.invokespecial 132, 3) := by decide +kernel
theorem dX4_time_20 : decode cX4_time 20 = .ok (.athrow, 1) := by decide +kernel
theorem dX4_time_21 : decode cX4_time 21 = .ok (.aload_n 0, 1) := by decide +kernel
theorem dX4_time_22 : decode cX4_time 22 = .ok (.aload_n 0, 1) := by decide +kernel
theorem dX4_time_23 : decode cX4_time 23 = .ok (.getfield 19, 3) := by decide +kernel
theorem dX4_time_26 : decode cX4_time 26 = .ok (.iload_n 1, 1) := by decide +kernel
theorem dX4_time_27 : decode cX4_time 27 = .ok (.invokevirtual 254, 3) := by decide +kernel
theorem dX4_time_30 : decode cX4_time 30 = .ok (.ireturn, 1) := by decide +kernel
set_option maxRecDepth 20000 in
theorem ggX4_bestPlace_X2_has : GoodIn wsX4_bestPlace wsX2_has := goodIn_r _ [9, 10, 94, 95, 96, 97, 98, 99, 100, 101, 102, 103, 104, 105, 106, 107, 108, 109] (by decide +kernel) (by decide +kernel)
set_option maxRecDepth 20000 in
theorem gX4_bestPlace_X2_has : GoodIn wsX4_bestPlace (wsV RX4 124 RX2 yX2_has wsX2_has) := goodIn_app (goodIn_of _ (by decide +kernel)) ggX4_bestPlace_X2_has
set_option maxRecDepth 20000 in
theorem ggX4_bestPlace_X2_copyFrom : GoodIn wsX4_bestPlace wsX2_copyFrom := goodIn_r _ [14, 15, 10, 16, 17, 18, 19, 20, 21, 22, 23, 24, 25, 26, 27, 28, 29, 30, 31, 8, 32, 33, 34, 35, 36, 37, 38, 39, 40, 41, 94, 95, 96, 97, 98, 99, 100, 101, 102, 103, 104, 105, 106, 107, 108, 109, 110, 111, 112, 113] (by decide +kernel) (by decide +kernel)
set_option maxRecDepth 20000 in
theorem gX4_bestPlace_X2_copyFrom : GoodIn wsX4_bestPlace (wsV RX4 258 RX2 yX2_copyFrom wsX2_copyFrom) := goodIn_app (goodIn_of _ (by decide +kernel)) ggX4_bestPlace_X2_copyFrom
set_option maxRecDepth 20000 in
theorem ggX4_bestPlace_X2_isFreeFor : GoodIn wsX4_bestPlace wsX2_isFreeFor := goodIn_r _ [45, 46, 47, 48, 8, 49, 23, 50, 6, 7, 9, 10, 94, 95, 96, 97, 98, 99, 100, 101, 102, 103, 104, 105, 106, 107, 108, 109] (by decide +kernel) (by decide +kernel)
set_option maxRecDepth 20000 in
theorem gX4_bestPlace_X2_isFreeFor : GoodIn wsX4_bestPlace (wsV RX4 226 RX2 yX2_isFreeFor wsX2_isFreeFor) := goodIn_app (goodIn_of _ (by decide +kernel)) ggX4_bestPlace_X2_isFreeFor
set_option maxRecDepth 20000 in
theorem ggX4_bestPlace_X4_ticksOfRun : GoodIn wsX4_bestPlace wsX4_ticksOfRun := goodIn_r _ [55, 56, 11, 12, 13, 8, 14, 15, 10, 16, 17, 18, 19, 20, 21, 22, 23, 24, 25, 26, 27, 28, 29, 30, 31, 32, 33, 34, 35, 36, 37, 38, 39, 40, 41, 57, 58, 59, 60, 61, 62, 63, 64, 50, 6, 7, 9, 65, 66, 67, 68, 69, 70, 71, 72, 73, 74, 75, 76, 77, 78, 79, 80, 81, 54, 82, 83, 84, 85, 86, 87, 88, 89, 90, 91, 92, 93, 94, 95, 96, 97, 98, 99, 100, 101, 102, 103, 104, 105, 106, 107, 108, 109, 110, 111, 112, 113] (by decide +kernel) (by decide +kernel)
set_option maxRecDepth 20000 in
theorem gX4_bestPlace_X4_ticksOfRun : GoodIn wsX4_bestPlace (wsV RX4 254 RX4 yX4_ticksOfRun wsX4_ticksOfRun) := goodIn_app (goodIn_of _ (by decide +kernel)) ggX4_bestPlace_X4_ticksOfRun
theorem dX4_bestPlace_0 : decode cX4_bestPlace 0 = .ok (.aload_n 0, 1) := by decide +kernel
theorem dX4_bestPlace_1 : decode cX4_bestPlace 1 = .ok (.getfield 19, 3) := by decide +kernel
theorem dX4_bestPlace_4 : decode cX4_bestPlace 4 = .ok (.iload_n 1, 1) := by decide +kernel
theorem dX4_bestPlace_5 : decode cX4_bestPlace 5 = .ok (.invokevirtual 124, 3) := by decide +kernel
theorem dX4_bestPlace_8 : decode cX4_bestPlace 8 = .ok (.ifCond .eq 14, 3) := by decide +kernel
theorem dX4_bestPlace_11 : decode cX4_bestPlace 11 = .ok (.aload_n 0, 1) := by decide +kernel
theorem dX4_bestPlace_12 : decode cX4_bestPlace 12 = .ok (.getfield 19, 3) := by decide +kernel
theorem dX4_bestPlace_15 : decode cX4_bestPlace 15 = .ok (.iload_n 2, 1) := by decide +kernel
theorem dX4_bestPlace_16 : decode cX4_bestPlace 16 = .ok (.invokevirtual 124, 3) := by decide +kernel
theorem dX4_bestPlace_19 : decode cX4_bestPlace 19 = .ok (.ifCond .ne 13, 3) := by decide +kernel
theorem dX4_bestPlace_22 : decode cX4_bestPlace 22 = .ok (.new 128, 3) := by decide +kernel
theorem dX4_bestPlace_25 : decode cX4_bestPlace 25 = .ok (.dup, 1) := by decide +kernel
theorem dX4_bestPlace_26 : decode cX4_bestPlace 26 = .ok (.ldc 130, 2) := by decide +kernel
theorem dX4_bestPlace_28 : decode cX4_bestPlace 28 = .ok (.invokespecial 132, 3) := by decide +kernel
theorem dX4_bestPlace_31 : decode cX4_bestPlace 31 = .ok (.athrow, 1) := by decide +kernel
theorem dX4_bestPlace_32 : decode cX4_bestPlace 32 = .ok (.aload_n 0, 1) := by decide +kernel
theorem dX4_bestPlace_33 : decode cX4_bestPlace 33 = .ok (.getfield 23, 3) := by decide +kernel
theorem dX4_bestPlace_36 : decode cX4_bestPlace 36 = .ok (.aload_n 0, 1) := by decide +kernel
theorem dX4_bestPlace_37 : decode cX4_bestPlace 37 = .ok (.getfield 19, 3) := by decide +kernel
theorem dX4_bestPlace_40 : decode cX4_bestPlace 40 = .ok (.invokevirtual 258, 3) := by decide +kernel
theorem dX4_bestPlace_43 : decode cX4_bestPlace 43 = .ok (.iconst (-1), 1) := by decide +kernel
theorem dX4_bestPlace_44 : decode cX4_bestPlace 44 = .ok (.istore_n 3, 1) := by decide +kernel
theorem dX4_bestPlace_45 : decode cX4_bestPlace 45 = .ok (.iconst 0, 1) := by decide +kernel
theorem dX4_bestPlace_46 : decode cX4_bestPlace 46 = .ok (.istore 4, 2) := by decide +kernel
theorem dX4_bestPlace_48 : decode cX4_bestPlace 48 = .ok (.iconst 0, 1) := by decide +kernel
theorem dX4_bestPlace_49 : decode cX4_bestPlace 49 = .ok (.istore 5, 2) := by decide +kernel
theorem dX4_bestPlace_51 : decode cX4_bestPlace 51 = .ok (.iload 5, 2) := by decide +kernel
theorem dX4_bestPlace_53 : decode cX4_bestPlace 53 = .ok (.aload_n 0, 1) := by decide +kernel
theorem dX4_bestPlace_54 : decode cX4_bestPlace 54 = .ok (.getfield 19, 3) := by decide +kernel
theorem dX4_bestPlace_57 : decode cX4_bestPlace 57 = .ok (.getfield 84, 3) := by decide +kernel
theorem dX4_bestPlace_60 : decode cX4_bestPlace 60 = .ok (.if_icmp .ge 63, 3) := by decide +kernel
theorem dX4_bestPlace_63 : decode cX4_bestPlace 63 = .ok (.aload_n 0, 1) := by decide +kernel
theorem dX4_bestPlace_64 : decode cX4_bestPlace 64 = .ok (.getfield 19, 3) := by decide +kernel
theorem dX4_bestPlace_67 : decode cX4_bestPlace 67 = .ok (.iload_n 1, 1) := by decide +kernel
theorem dX4_bestPlace_68 : decode cX4_bestPlace 68 = .ok (.iload 5, 2) := by decide +kernel
theorem dX4_bestPlace_70 : decode cX4_bestPlace 70 = .ok (.invokevirtual 226, 3) := by decide +kernel
theorem dX4_bestPlace_73 : decode cX4_bestPlace 73 = .ok (.ifCond .eq 44, 3) := by decide +kernel
theorem dX4_bestPlace_76 : decode cX4_bestPlace 76 = .ok (.aload_n 0, 1) := by decide +kernel
theorem dX4_bestPlace_77 : decode cX4_bestPlace 77 = .ok (.getfield 23, 3) := by decide +kernel
theorem dX4_bestPlace_80 : decode cX4_bestPlace 80 = .ok (.getfield 148, 3) := by decide +kernel
theorem dX4_bestPlace_83 : decode cX4_bestPlace 83 = .ok (.iload_n 1, 1) := by decide +kernel
theorem dX4_bestPlace_84 : decode cX4_bestPlace 84 = .ok (.iload 5, 2) := by decide +kernel
theorem dX4_bestPlace_86 : decode cX4_bestPlace 86 = .ok (.iastore, 1) := by decide +kernel
theorem dX4_bestPlace_87 : decode cX4_bestPlace 87 = .ok (.aload_n 0, 1) := by decide +kernel
theorem dX4_bestPlace_88 : decode cX4_bestPlace 88 = .ok (.aload_n 0, 1) := by decide +kernel
theorem dX4_bestPlace_89 : decode cX4_bestPlace 89 = .ok (.getfield 23, 3) := by decide +kernel
theorem dX4_bestPlace_92 : decode cX4_bestPlace 92 = .ok (.iload_n 2, 1) := by decide +kernel
theorem dX4_bestPlace_93 : decode cX4_bestPlace 93 = .ok (.invokevirtual 254, 3) := by decide +kernel
theorem dX4_bestPlace_96 : decode cX4_bestPlace 96 = .ok (.istore 6, 2) := by decide +kernel
theorem dX4_bestPlace_98 : decode cX4_bestPlace 98 = .ok (.iload_n 3, 1) := by decide +kernel
theorem dX4_bestPlace_99 : decode cX4_bestPlace 99 = .ok (.iconst (-1), 1) := by decide +kernel
theorem dX4_bestPlace_100 : decode cX4_bestPlace 100 = .ok (.if_icmp .eq 10, 3) := by decide +kernel
theorem dX4_bestPlace_103 : decode cX4_bestPlace 103 = .ok (.iload 6, 2) := by decide +kernel
theorem dX4_bestPlace_105 : decode cX4_bestPlace 105 = .ok (.iload 4, 2) := by decide +kernel
theorem dX4_bestPlace_107 : decode cX4_bestPlace 107 = .ok (.if_icmp .ge 10, 3) := by decide +kernel
theorem dX4_bestPlace_110 : decode cX4_bestPlace 110 = .ok (.iload 5, 2) := by decide +kernel
theorem dX4_bestPlace_112 : decode cX4_bestPlace 112 = .ok (.istore_n 3, 1) := by decide +kernel
theorem dX4_bestPlace_113 : decode cX4_bestPlace 113 = .ok (.iload 6, 2) := by decide +kernel
theorem dX4_bestPlace_115 : decode cX4_bestPlace 115 = .ok (.istore 4, 2) := by decide +kernel
theorem dX4_bestPlace_117 : decode cX4_bestPlace 117 = .ok (.iinc 5 1, 3) := by decide +kernel
theorem dX4_bestPlace_120 : decode cX4_bestPlace 120 = .ok (.goto (-69), 3) := by decide +kernel
theorem dX4_bestPlace_123 : decode cX4_bestPlace 123 = .ok (.iload_n 3, 1) := by decide +kernel
theorem dX4_bestPlace_124 : decode cX4_bestPlace 124 = .ok (.ireturn, 1) := by decide +kernel
set_option maxRecDepth 20000 in
theorem ggX4_leastBribe_X2_has : GoodIn wsX4_leastBribe wsX2_has := goodIn_r _ [9, 10, 97, 98, 99, 100, 101, 102, 103, 104, 105, 106, 107, 108, 109, 110, 111, 112] (by decide +kernel) (by decide +kernel)
set_option maxRecDepth 20000 in
theorem gX4_leastBribe_X2_has : GoodIn wsX4_leastBribe (wsV RX4 124 RX2 yX2_has wsX2_has) := goodIn_app (goodIn_of _ (by decide +kernel)) ggX4_leastBribe_X2_has
set_option maxRecDepth 20000 in
theorem ggX4_leastBribe_X2_copyFrom : GoodIn wsX4_leastBribe wsX2_copyFrom := goodIn_r _ [14, 15, 10, 16, 17, 18, 19, 20, 21, 22, 23, 24, 25, 26, 27, 28, 29, 30, 31, 8, 32, 33, 34, 35, 36, 37, 38, 39, 40, 41, 97, 98, 99, 100, 101, 102, 103, 104, 105, 106, 107, 108, 109, 110, 111, 112, 113, 114, 115, 116] (by decide +kernel) (by decide +kernel)
set_option maxRecDepth 20000 in
theorem gX4_leastBribe_X2_copyFrom : GoodIn wsX4_leastBribe (wsV RX4 258 RX2 yX2_copyFrom wsX2_copyFrom) := goodIn_app (goodIn_of _ (by decide +kernel)) ggX4_leastBribe_X2_copyFrom
set_option maxRecDepth 20000 in
theorem ggX4_leastBribe_X2_layAll : GoodIn wsX4_leastBribe wsX2_layAll := goodIn_r _ [45, 24, 46, 47, 48, 8, 49, 50, 6, 7, 9, 10, 51, 52, 53, 54, 23, 55, 56, 57, 58, 25, 18, 28, 59, 60, 61, 62, 63, 64, 65, 22, 66, 67, 68, 69, 15, 27, 70, 71, 72, 73, 20, 19, 74, 75, 76, 77, 78, 79, 80, 81, 82, 83, 84, 85, 86, 87, 88, 89, 97, 98, 99, 100, 101, 102, 103, 104, 105, 106, 107, 108, 109, 110, 111, 112] (by decide +kernel) (by decide +kernel)
set_option maxRecDepth 20000 in
theorem gX4_leastBribe_X2_layAll : GoodIn wsX4_leastBribe (wsV RX4 234 RX2 yX2_layAll wsX2_layAll) := goodIn_app (goodIn_of _ (by decide +kernel)) ggX4_leastBribe_X2_layAll
theorem dX4_leastBribe_0 : decode cX4_leastBribe 0 = .ok (.aload_n 0, 1) := by decide +kernel
theorem dX4_leastBribe_1 : decode cX4_leastBribe 1 = .ok (.getfield 19, 3) := by decide +kernel
theorem dX4_leastBribe_4 : decode cX4_leastBribe 4 = .ok (.iload_n 1, 1) := by decide +kernel
theorem dX4_leastBribe_5 : decode cX4_leastBribe 5 = .ok (.invokevirtual 124, 3) := by decide +kernel
theorem dX4_leastBribe_8 : decode cX4_leastBribe 8 = .ok (.ifCond .ne 13, 3) := by decide +kernel
theorem dX4_leastBribe_11 : decode cX4_leastBribe 11 = .ok (.new 128, 3) := by decide +kernel
theorem dX4_leastBribe_14 : decode cX4_leastBribe 14 = .ok (.dup, 1) := by decide +kernel
theorem dX4_leastBribe_15 : decode cX4_leastBribe 15 = .ok (.ldc 130, 2) := by decide +kernel
theorem dX4_leastBribe_17 : decode cX4_leastBribe 17 = .ok (.invokespecial 132, 3) := by decide +kernel
theorem dX4_leastBribe_20 : decode cX4_leastBribe 20 = .ok (.athrow, 1) := by decide +kernel
theorem dX4_leastBribe_21 : decode cX4_leastBribe 21 = .ok (.aload_n 0, 1) := by decide +kernel
theorem dX4_leastBribe_22 : decode cX4_leastBribe 22 = .ok (.getfield 23, 3) := by decide +kernel
theorem dX4_leastBribe_25 : decode cX4_leastBribe 25 = .ok (.aload_n 0, 1) := by decide +kernel
theorem dX4_leastBribe_26 : decode cX4_leastBribe 26 = .ok (.getfield 19, 3) := by decide +kernel
theorem dX4_leastBribe_29 : decode cX4_leastBribe 29 = .ok (.invokevirtual 258, 3) := by decide +kernel
theorem dX4_leastBribe_32 : decode cX4_leastBribe 32 = .ok (.iconst 0, 1) := by decide +kernel
theorem dX4_leastBribe_33 : decode cX4_leastBribe 33 = .ok (.istore_n 2, 1) := by decide +kernel
theorem dX4_leastBribe_34 : decode cX4_leastBribe 34 = .ok (.iload_n 2, 1) := by decide +kernel
theorem dX4_leastBribe_35 : decode cX4_leastBribe 35 = .ok (.bipush 99, 2) := by decide +kernel
theorem dX4_leastBribe_37 : decode cX4_leastBribe 37 = .ok (.if_icmp .gt 41, 3) := by decide +kernel
theorem dX4_leastBribe_40 : decode cX4_leastBribe 40 = .ok (.aload_n 0, 1) := by decide +kernel
theorem dX4_leastBribe_41 : decode cX4_leastBribe 41 = .ok (.getfield 23, 3) := by decide +kernel
theorem dX4_leastBribe_44 : decode cX4_leastBribe 44 = .ok (.getfield 145, 3) := by decide +kernel
theorem dX4_leastBribe_47 : decode cX4_leastBribe 47 = .ok (.iload_n 1, 1) := by decide +kernel
theorem dX4_leastBribe_48 : decode cX4_leastBribe 48 = .ok (.iload_n 2, 1) := by decide +kernel
theorem dX4_leastBribe_49 : decode cX4_leastBribe 49 = .ok (.iastore, 1) := by decide +kernel
theorem dX4_leastBribe_50 : decode cX4_leastBribe 50 = .ok (.aload_n 0, 1) := by decide +kernel
theorem dX4_leastBribe_51 : decode cX4_leastBribe 51 = .ok (.getfield 23, 3) := by decide +kernel
theorem dX4_leastBribe_54 : decode cX4_leastBribe 54 = .ok (.invokevirtual 234, 3) := by decide +kernel
theorem dX4_leastBribe_57 : decode cX4_leastBribe 57 = .ok (.pop, 1) := by decide +kernel
theorem dX4_leastBribe_58 : decode cX4_leastBribe 58 = .ok (.aload_n 0, 1) := by decide +kernel
theorem dX4_leastBribe_59 : decode cX4_leastBribe 59 = .ok (.getfield 23, 3) := by decide +kernel
theorem dX4_leastBribe_62 : decode cX4_leastBribe 62 = .ok (.getfield 151, 3) := by decide +kernel
theorem dX4_leastBribe_65 : decode cX4_leastBribe 65 = .ok (.iload_n 1, 1) := by decide +kernel
theorem dX4_leastBribe_66 : decode cX4_leastBribe 66 = .ok (.iaload, 1) := by decide +kernel
theorem dX4_leastBribe_67 : decode cX4_leastBribe 67 = .ok (.ifCond .ne 5, 3) := by decide +kernel
theorem dX4_leastBribe_70 : decode cX4_leastBribe 70 = .ok (.iload_n 2, 1) := by decide +kernel
theorem dX4_leastBribe_71 : decode cX4_leastBribe 71 = .ok (.ireturn, 1) := by decide +kernel
theorem dX4_leastBribe_72 : decode cX4_leastBribe 72 = .ok (.iinc 2 1, 3) := by decide +kernel
theorem dX4_leastBribe_75 : decode cX4_leastBribe 75 = .ok (.goto (-41), 3) := by decide +kernel
theorem dX4_leastBribe_78 : decode cX4_leastBribe 78 = .ok (.iconst (-1), 1) := by decide +kernel
theorem dX4_leastBribe_79 : decode cX4_leastBribe 79 = .ok (.ireturn, 1) := by decide +kernel
set_option maxRecDepth 20000 in
theorem ggX4_saves_X2_has : GoodIn wsX4_saves wsX2_has := goodIn_r _ [9, 10, 114, 115, 116, 117, 118, 119, 120, 121, 122, 123, 124, 125, 126, 127, 128, 129] (by decide +kernel) (by decide +kernel)
set_option maxRecDepth 20000 in
theorem gX4_saves_X2_has : GoodIn wsX4_saves (wsV RX4 124 RX2 yX2_has wsX2_has) := goodIn_app (goodIn_of _ (by decide +kernel)) ggX4_saves_X2_has
set_option maxRecDepth 20000 in
theorem ggX4_saves_X2_copyFrom : GoodIn wsX4_saves wsX2_copyFrom := goodIn_r _ [14, 15, 10, 16, 17, 18, 19, 20, 21, 22, 23, 24, 25, 26, 27, 28, 29, 30, 31, 8, 32, 33, 34, 35, 36, 37, 38, 39, 40, 41, 114, 115, 116, 117, 118, 119, 120, 121, 122, 123, 124, 125, 126, 127, 128, 129, 130, 131, 132, 133] (by decide +kernel) (by decide +kernel)
set_option maxRecDepth 20000 in
theorem gX4_saves_X2_copyFrom : GoodIn wsX4_saves (wsV RX4 258 RX2 yX2_copyFrom wsX2_copyFrom) := goodIn_app (goodIn_of _ (by decide +kernel)) ggX4_saves_X2_copyFrom
set_option maxRecDepth 20000 in
theorem ggX4_saves_X2_layAll : GoodIn wsX4_saves wsX2_layAll := goodIn_r _ [45, 24, 46, 47, 48, 8, 49, 50, 6, 7, 9, 10, 51, 52, 53, 54, 23, 55, 56, 57, 58, 25, 18, 28, 59, 60, 61, 62, 63, 64, 65, 22, 66, 67, 68, 69, 15, 27, 70, 71, 72, 73, 20, 19, 74, 75, 76, 77, 78, 79, 80, 81, 82, 83, 84, 85, 86, 87, 88, 89, 114, 115, 116, 117, 118, 119, 120, 121, 122, 123, 124, 125, 126, 127, 128, 129] (by decide +kernel) (by decide +kernel)
set_option maxRecDepth 20000 in
theorem gX4_saves_X2_layAll : GoodIn wsX4_saves (wsV RX4 234 RX2 yX2_layAll wsX2_layAll) := goodIn_app (goodIn_of _ (by decide +kernel)) ggX4_saves_X2_layAll
set_option maxRecDepth 20000 in
theorem ggX4_saves_X4_ticksOfRun : GoodIn wsX4_saves wsX4_ticksOfRun := goodIn_r _ [93, 94, 11, 12, 13, 8, 14, 15, 10, 16, 17, 18, 19, 20, 21, 22, 23, 24, 25, 26, 27, 28, 29, 30, 31, 32, 33, 34, 35, 36, 37, 38, 39, 40, 41, 95, 96, 97, 98, 82, 83, 84, 85, 50, 6, 7, 9, 99, 100, 101, 102, 74, 75, 76, 77, 78, 79, 80, 81, 55, 56, 57, 58, 59, 60, 61, 103, 104, 105, 106, 107, 108, 109, 110, 111, 112, 113, 114, 115, 116, 117, 118, 119, 120, 121, 122, 123, 124, 125, 126, 127, 128, 129, 130, 131, 132, 133] (by decide +kernel) (by decide +kernel)
set_option maxRecDepth 20000 in
theorem gX4_saves_X4_ticksOfRun : GoodIn wsX4_saves (wsV RX4 254 RX4 yX4_ticksOfRun wsX4_ticksOfRun) := goodIn_app (goodIn_of _ (by decide +kernel)) ggX4_saves_X4_ticksOfRun
theorem dX4_saves_0 : decode cX4_saves 0 = .ok (.aload_n 0, 1) := by decide +kernel
theorem dX4_saves_1 : decode cX4_saves 1 = .ok (.getfield 19, 3) := by decide +kernel
theorem dX4_saves_4 : decode cX4_saves 4 = .ok (.iload_n 1, 1) := by decide +kernel
theorem dX4_saves_5 : decode cX4_saves 5 = .ok (.invokevirtual 124, 3) := by decide +kernel
theorem dX4_saves_8 : decode cX4_saves 8 = .ok (.ifCond .ne 13, 3) := by decide +kernel
theorem dX4_saves_11 : decode cX4_saves 11 = .ok (.new 128, 3) := by decide +kernel
theorem dX4_saves_14 : decode cX4_saves 14 = .ok (.dup, 1) := by decide +kernel
theorem dX4_saves_15 : decode cX4_saves 15 = .ok (.ldc 130, 2) := by decide +kernel
theorem dX4_saves_17 : decode cX4_saves 17 = .ok (.invokespecial 132, 3) := by decide +kernel
theorem dX4_saves_20 : decode cX4_saves 20 = .ok (.athrow, 1) := by decide +kernel
theorem dX4_saves_21 : decode cX4_saves 21 = .ok (.aload_n 0, 1) := by decide +kernel
theorem dX4_saves_22 : decode cX4_saves 22 = .ok (.getfield 23, 3) := by decide +kernel
theorem dX4_saves_25 : decode cX4_saves 25 = .ok (.aload_n 0, 1) := by decide +kernel
theorem dX4_saves_26 : decode cX4_saves 26 = .ok (.getfield 19, 3) := by decide +kernel
theorem dX4_saves_29 : decode cX4_saves 29 = .ok (.invokevirtual 258, 3) := by decide +kernel
theorem dX4_saves_32 : decode cX4_saves 32 = .ok (.aload_n 0, 1) := by decide +kernel
theorem dX4_saves_33 : decode cX4_saves 33 = .ok (.getfield 23, 3) := by decide +kernel
theorem dX4_saves_36 : decode cX4_saves 36 = .ok (.invokevirtual 234, 3) := by decide +kernel
theorem dX4_saves_39 : decode cX4_saves 39 = .ok (.pop, 1) := by decide +kernel
theorem dX4_saves_40 : decode cX4_saves 40 = .ok (.aload_n 0, 1) := by decide +kernel
theorem dX4_saves_41 : decode cX4_saves 41 = .ok (.aload_n 0, 1) := by decide +kernel
theorem dX4_saves_42 : decode cX4_saves 42 = .ok (.getfield 19, 3) := by decide +kernel
theorem dX4_saves_45 : decode cX4_saves 45 = .ok (.iload_n 1, 1) := by decide +kernel
theorem dX4_saves_46 : decode cX4_saves 46 = .ok (.invokevirtual 254, 3) := by decide +kernel
theorem dX4_saves_49 : decode cX4_saves 49 = .ok (.aload_n 0, 1) := by decide +kernel
theorem dX4_saves_50 : decode cX4_saves 50 = .ok (.aload_n 0, 1) := by decide +kernel
theorem dX4_saves_51 : decode cX4_saves 51 = .ok (.getfield 23, 3) := by decide +kernel
theorem dX4_saves_54 : decode cX4_saves 54 = .ok (.iload_n 1, 1) := by decide +kernel
theorem dX4_saves_55 : decode cX4_saves 55 = .ok (.invokevirtual 254, 3) := by decide +kernel
theorem dX4_saves_58 : decode cX4_saves 58 = .ok (.isub, 1) := by decide +kernel
theorem dX4_saves_59 : decode cX4_saves 59 = .ok (.ireturn, 1) := by decide +kernel
set_option maxRecDepth 20000 in
theorem ggX4_runScript_X4_withoutLast : GoodIn wsX4_runScript wsX4_withoutLast := goodIn_r _ [9, 5] (by decide +kernel) (by decide +kernel)
set_option maxRecDepth 20000 in
theorem gX4_runScript_X4_withoutLast : GoodIn wsX4_runScript (va_wsS RX4 261 yX4_withoutLast wsX4_withoutLast) := goodIn_app (goodIn_of _ (by decide +kernel)) ggX4_runScript_X4_withoutLast
set_option maxRecDepth 20000 in
theorem ggX4_runScript_X2_copyFrom : GoodIn wsX4_runScript wsX2_copyFrom := goodIn_r _ [14, 15, 16, 17, 18, 19, 20, 21, 22, 23, 24, 25, 26, 27, 28, 29, 30, 31, 32, 13, 33, 34, 35, 36, 37, 38, 39, 40, 41, 42, 184, 185, 186, 187, 188, 189, 190, 191, 192, 193, 194, 195, 196, 197, 198, 199, 200, 201, 202, 203] (by decide +kernel) (by decide +kernel)
set_option maxRecDepth 20000 in
theorem gX4_runScript_X2_copyFrom : GoodIn wsX4_runScript (wsV RX4 258 RX2 yX2_copyFrom wsX2_copyFrom) := goodIn_app (goodIn_of _ (by decide +kernel)) ggX4_runScript_X2_copyFrom
set_option maxRecDepth 20000 in
theorem ggX4_runScript_X4_succeeds : GoodIn wsX4_runScript wsX4_succeeds := goodIn_r _ [46, 3, 47, 48, 49, 8, 50, 51, 52, 53, 13, 54, 16, 55, 56, 57, 58, 22, 21, 30, 18, 59, 60, 61, 62, 24, 63, 64, 65, 66, 67, 17, 27, 26, 20, 68, 69, 70, 71, 15, 72, 73, 74, 75, 76, 77, 78, 79, 19, 29, 80, 81, 82, 83, 84, 37, 85, 39, 40, 41, 42, 86, 87, 88, 89, 25, 90, 91, 92, 93, 94, 95, 96, 97, 98, 99, 100, 101, 23, 102, 103, 104, 105, 28, 106, 107, 108, 109, 110, 111, 112, 113, 114, 115, 116, 117, 118, 119, 120, 121, 122, 123, 124, 125, 126, 127, 128, 129, 130, 131, 132, 133, 134, 135, 136, 137, 138, 139, 140, 141, 142, 143, 144, 145, 146, 147, 148, 149, 150, 151, 152, 153, 154, 155, 156, 157, 158, 159, 160, 161, 162, 163, 164, 165, 166, 167, 168, 169, 170, 171, 172, 10, 11, 12, 14, 31, 32, 33, 34, 35, 36, 38, 173, 174, 175, 176, 177, 178, 179, 180, 181, 182, 183, 184, 185, 186, 187, 188, 189, 190, 191, 192, 193, 194, 195, 196, 197, 198, 199, 200, 201, 202, 203] (by decide +kernel) (by decide +kernel)
set_option maxRecDepth 20000 in
theorem gX4_runScript_X4_succeeds : GoodIn wsX4_runScript (wsV RX4 269 RX4 yX4_succeeds wsX4_succeeds) := goodIn_app (goodIn_of _ (by decide +kernel)) ggX4_runScript_X4_succeeds
theorem dX4_runScript_0 : decode cX4_runScript 0 = .ok (.iload_n 1, 1) := by decide +kernel
theorem dX4_runScript_1 : decode cX4_runScript 1 = .ok (.iconst 1, 1) := by decide +kernel
theorem dX4_runScript_2 : decode cX4_runScript 2 = .ok (.if_icmp .lt 24, 3) := by decide +kernel
theorem dX4_runScript_5 : decode cX4_runScript 5 = .ok (.iload_n 1, 1) := by decide +kernel
theorem dX4_runScript_6 : decode cX4_runScript 6 = .ok (.iconst 3, 1) := by decide +kernel
theorem dX4_runScript_7 : decode cX4_runScript 7 = .ok (.if_icmp .gt 19, 3) := by decide +kernel
theorem dX4_runScript_10 : decode cX4_runScript 10 = .ok (.lload_n 2, 1) := by decide +kernel
theorem dX4_runScript_11 : decode cX4_runScript 11 = .ok (.lconst 0, 1) := by decide +kernel
theorem dX4_runScript_12 : decode cX4_runScript 12 = .ok (.lcmp, 1) := by decide +kernel
theorem dX4_runScript_13 : decode cX4_runScript 13 = .ok (.ifCond .lt 13, 3) := by decide +kernel
theorem dX4_runScript_16 : decode cX4_runScript 16 = .ok (.iload_n 1, 1) := by decide +kernel
theorem dX4_runScript_17 : decode cX4_runScript 17 = .ok (.lload_n 2, 1) := by decide +kernel
theorem dX4_runScript_18 : decode cX4_runScript 18 = .ok (.invokestatic 261, 3) := by decide +kernel
theorem dX4_runScript_21 : decode cX4_runScript 21 = .ok (.lconst 0, 1) := by decide +kernel
theorem dX4_runScript_22 : decode cX4_runScript 22 = .ok (.lcmp, 1) := by decide +kernel
theorem dX4_runScript_23 : decode cX4_runScript 23 = .ok (.ifCond .le 14, 3) := by decide +kernel
theorem dX4_runScript_26 : decode cX4_runScript 26 = .ok (.new 44, 3) := by decide +kernel
theorem dX4_runScript_29 : decode cX4_runScript 29 = .ok (.dup, 1) := by decide +kernel
theorem dX4_runScript_30 : decode cX4_runScript 30 = .ok (.ldc_w 265, 3) := by decide +kernel
theorem dX4_runScript_33 : decode cX4_runScript 33 = .ok (.invokespecial 48, 3) := by decide +kernel
theorem dX4_runScript_36 : decode cX4_runScript 36 = .ok (.athrow, 1) := by decide +kernel
theorem dX4_runScript_37 : decode cX4_runScript 37 = .ok (.aload_n 0, 1) := by decide +kernel
theorem dX4_runScript_38 : decode cX4_runScript 38 = .ok (.getfield 23, 3) := by decide +kernel
theorem dX4_runScript_41 : decode cX4_runScript 41 = .ok (.aload_n 0, 1) := by decide +kernel
theorem dX4_runScript_42 : decode cX4_runScript 42 = .ok (.getfield 19, 3) := by decide +kernel
theorem dX4_runScript_45 : decode cX4_runScript 45 = .ok (.invokevirtual 258, 3) := by decide +kernel
theorem dX4_runScript_48 : decode cX4_runScript 48 = .ok (.iconst 0, 1) := by decide +kernel
theorem dX4_runScript_49 : decode cX4_runScript 49 = .ok (.istore 4, 2) := by decide +kernel
theorem dX4_runScript_51 : decode cX4_runScript 51 = .ok (.iload 4, 2) := by decide +kernel
theorem dX4_runScript_53 : decode cX4_runScript 53 = .ok (.iload_n 1, 1) := by decide +kernel
theorem dX4_runScript_54 : decode cX4_runScript 54 = .ok (.if_icmp .ge 38, 3) := by decide +kernel
theorem dX4_runScript_57 : decode cX4_runScript 57 = .ok (.iload_n 1, 1) := by decide +kernel
theorem dX4_runScript_58 : decode cX4_runScript 58 = .ok (.iconst 1, 1) := by decide +kernel
theorem dX4_runScript_59 : decode cX4_runScript 59 = .ok (.isub, 1) := by decide +kernel
theorem dX4_runScript_60 : decode cX4_runScript 60 = .ok (.iload 4, 2) := by decide +kernel
theorem dX4_runScript_62 : decode cX4_runScript 62 = .ok (.isub, 1) := by decide +kernel
theorem dX4_runScript_63 : decode cX4_runScript 63 = .ok (.lload_n 2, 1) := by decide +kernel
theorem dX4_runScript_64 : decode cX4_runScript 64 = .ok (.invokestatic 261, 3) := by decide +kernel
theorem dX4_runScript_67 : decode cX4_runScript 67 = .ok (.ldc2_w 267, 3) := by decide +kernel
theorem dX4_runScript_70 : decode cX4_runScript 70 = .ok (.lrem, 1) := by decide +kernel
theorem dX4_runScript_71 : decode cX4_runScript 71 = .ok (.l2i, 1) := by decide +kernel
theorem dX4_runScript_72 : decode cX4_runScript 72 = .ok (.istore 5, 2) := by decide +kernel
theorem dX4_runScript_74 : decode cX4_runScript 74 = .ok (.aload_n 0, 1) := by decide +kernel
theorem dX4_runScript_75 : decode cX4_runScript 75 = .ok (.iload 5, 2) := by decide +kernel
theorem dX4_runScript_77 : decode cX4_runScript 77 = .ok (.invokevirtual 269, 3) := by decide +kernel
theorem dX4_runScript_80 : decode cX4_runScript 80 = .ok (.ifCond .ne 6, 3) := by decide +kernel
theorem dX4_runScript_83 : decode cX4_runScript 83 = .ok (.iload 4, 2) := by decide +kernel
theorem dX4_runScript_85 : decode cX4_runScript 85 = .ok (.ireturn, 1) := by decide +kernel
theorem dX4_runScript_86 : decode cX4_runScript 86 = .ok (.iinc 4 1, 3) := by decide +kernel
theorem dX4_runScript_89 : decode cX4_runScript 89 = .ok (.goto (-38), 3) := by decide +kernel
theorem dX4_runScript_92 : decode cX4_runScript 92 = .ok (.iconst (-1), 1) := by decide +kernel
theorem dX4_runScript_93 : decode cX4_runScript 93 = .ok (.ireturn, 1) := by decide +kernel
set_option maxRecDepth 20000 in
theorem ggX4_simulate_X2_copyFrom : GoodIn wsX4_simulate wsX2_copyFrom := goodIn_r _ [15, 16, 17, 18, 19, 20, 21, 22, 23, 24, 25, 26, 27, 28, 29, 30, 31, 32, 33, 14, 34, 35, 36, 37, 38, 39, 40, 41, 42, 43, 129, 130, 131, 132, 133, 134, 135, 136, 137, 138, 139, 140, 141, 142, 143, 144, 145, 146, 147, 148] (by decide +kernel) (by decide +kernel)
set_option maxRecDepth 20000 in
theorem gX4_simulate_X2_copyFrom : GoodIn wsX4_simulate (wsV RX4 258 RX2 yX2_copyFrom wsX2_copyFrom) := goodIn_app (goodIn_of _ (by decide +kernel)) ggX4_simulate_X2_copyFrom
set_option maxRecDepth 20000 in
theorem ggX4_simulate_X4_simulateRun : GoodIn wsX4_simulate wsX4_simulateRun := goodIn_r _ [48, 3, 49, 50, 51, 14, 52, 53, 54, 55, 56, 20, 21, 22, 23, 24, 57, 58, 59, 60, 26, 61, 62, 63, 64, 65, 66, 67, 68, 17, 69, 70, 71, 72, 25, 73, 74, 75, 76, 27, 30, 77, 47, 78, 79, 80, 81, 82, 83, 84, 85, 86, 16, 29, 87, 88, 89, 90, 91, 92, 93, 94, 95, 96, 97, 98, 99, 100, 101, 102, 103, 104, 105, 106, 107, 108, 109, 110, 31, 19, 111, 112, 113, 114, 18, 28, 115, 116, 117, 38, 118, 40, 41, 42, 43, 122, 123, 124, 125, 126, 127, 128, 129, 130, 131, 132, 133, 134, 135, 136, 137, 138, 139, 140, 141, 142, 143, 144, 145, 146, 147, 148] (by decide +kernel) (by decide +kernel)
set_option maxRecDepth 20000 in
theorem gX4_simulate_X4_simulateRun : GoodIn wsX4_simulate (wsV RX4 278 RX4 yX4_simulateRun wsX4_simulateRun) := goodIn_app (goodIn_of _ (by decide +kernel)) ggX4_simulate_X4_simulateRun
set_option maxRecDepth 20000 in
theorem ggX4_simulate_X4_sum : GoodIn wsX4_simulate wsX4_sum := goodIn_r _ [121] (by decide +kernel) (by decide +kernel)
set_option maxRecDepth 20000 in
theorem gX4_simulate_X4_sum : GoodIn wsX4_simulate (va_wsS RX4 100 yX4_sum wsX4_sum) := goodIn_app (goodIn_of _ (by decide +kernel)) ggX4_simulate_X4_sum
theorem dX4_simulate_0 : decode cX4_simulate 0 = .ok (.iload_n 3, 1) := by decide +kernel
theorem dX4_simulate_1 : decode cX4_simulate 1 = .ok (.iconst 1, 1) := by decide +kernel
theorem dX4_simulate_2 : decode cX4_simulate 2 = .ok (.if_icmp .lt 9, 3) := by decide +kernel
theorem dX4_simulate_5 : decode cX4_simulate 5 = .ok (.iload_n 3, 1) := by decide +kernel
theorem dX4_simulate_6 : decode cX4_simulate 6 = .ok (.bipush 50, 2) := by decide +kernel
theorem dX4_simulate_8 : decode cX4_simulate 8 = .ok (.if_icmp .le 14, 3) := by decide +kernel
theorem dX4_simulate_11 : decode cX4_simulate 11 = .ok (.new 44, 3) := by decide +kernel
theorem dX4_simulate_14 : decode cX4_simulate 14 = .ok (.dup, 1) := by decide +kernel
theorem dX4_simulate_15 : decode cX4_simulate 15 = .ok (.ldc_w 272, 3) := by decide +kernel
theorem dX4_simulate_18 : decode cX4_simulate 18 = .ok (.invokespecial 48, 3) := by decide +kernel
theorem dX4_simulate_21 : decode cX4_simulate 21 = .ok (.athrow, 1) := by decide +kernel
theorem dX4_simulate_22 : decode cX4_simulate 22 = .ok (.aload_n 0, 1) := by decide +kernel
theorem dX4_simulate_23 : decode cX4_simulate 23 = .ok (.getfield 23, 3) := by decide +kernel
theorem dX4_simulate_26 : decode cX4_simulate 26 = .ok (.aload_n 0, 1) := by decide +kernel
theorem dX4_simulate_27 : decode cX4_simulate 27 = .ok (.getfield 19, 3) := by decide +kernel
theorem dX4_simulate_30 : decode cX4_simulate 30 = .ok (.invokevirtual 258, 3) := by decide +kernel
theorem dX4_simulate_33 : decode cX4_simulate 33 = .ok (.lload_n 1, 1) := by decide +kernel
theorem dX4_simulate_34 : decode cX4_simulate 34 = .ok (.lstore 4, 2) := by decide +kernel
theorem dX4_simulate_36 : decode cX4_simulate 36 = .ok (.iconst 0, 1) := by decide +kernel
theorem dX4_simulate_37 : decode cX4_simulate 37 = .ok (.istore 6, 2) := by decide +kernel
theorem dX4_simulate_39 : decode cX4_simulate 39 = .ok (.iconst 0, 1) := by decide +kernel
theorem dX4_simulate_40 : decode cX4_simulate 40 = .ok (.istore 7, 2) := by decide +kernel
theorem dX4_simulate_42 : decode cX4_simulate 42 = .ok (.iload 7, 2) := by decide +kernel
theorem dX4_simulate_44 : decode cX4_simulate 44 = .ok (.iload_n 3, 1) := by decide +kernel
theorem dX4_simulate_45 : decode cX4_simulate 45 = .ok (.if_icmp .ge 37, 3) := by decide +kernel
theorem dX4_simulate_48 : decode cX4_simulate 48 = .ok (.lload 4, 2) := by decide +kernel
theorem dX4_simulate_50 : decode cX4_simulate 50 = .ok (.ldc2_w 274, 3) := by decide +kernel
theorem dX4_simulate_53 : decode cX4_simulate 53 = .ok (.lmul, 1) := by decide +kernel
theorem dX4_simulate_54 : decode cX4_simulate 54 = .ok (.ldc2_w 276, 3) := by decide +kernel
theorem dX4_simulate_57 : decode cX4_simulate 57 = .ok (.ladd, 1) := by decide +kernel
theorem dX4_simulate_58 : decode cX4_simulate 58 = .ok (.lstore 4, 2) := by decide +kernel
theorem dX4_simulate_60 : decode cX4_simulate 60 = .ok (.aload_n 0, 1) := by decide +kernel
theorem dX4_simulate_61 : decode cX4_simulate 61 = .ok (.lload 4, 2) := by decide +kernel
theorem dX4_simulate_63 : decode cX4_simulate 63 = .ok (.bipush 33, 2) := by decide +kernel
theorem dX4_simulate_65 : decode cX4_simulate 65 = .ok (.lushr, 1) := by decide +kernel
theorem dX4_simulate_66 : decode cX4_simulate 66 = .ok (.l2i, 1) := by decide +kernel
theorem dX4_simulate_67 : decode cX4_simulate 67 = .ok (.invokevirtual 278, 3) := by decide +kernel
theorem dX4_simulate_70 : decode cX4_simulate 70 = .ok (.ifCond .ne 6, 3) := by decide +kernel
theorem dX4_simulate_73 : decode cX4_simulate 73 = .ok (.iinc 6 1, 3) := by decide +kernel
theorem dX4_simulate_76 : decode cX4_simulate 76 = .ok (.iinc 7 1, 3) := by decide +kernel
theorem dX4_simulate_79 : decode cX4_simulate 79 = .ok (.goto (-37), 3) := by decide +kernel
theorem dX4_simulate_82 : decode cX4_simulate 82 = .ok (.aload_n 0, 1) := by decide +kernel
theorem dX4_simulate_83 : decode cX4_simulate 83 = .ok (.getfield 23, 3) := by decide +kernel
theorem dX4_simulate_86 : decode cX4_simulate 86 = .ok (.getfield 104, 3) := by decide +kernel
theorem dX4_simulate_89 : decode cX4_simulate 89 = .ok (.invokestatic 100, 3) := by decide +kernel
theorem dX4_simulate_92 : decode cX4_simulate 92 = .ok (.aload_n 0, 1) := by decide +kernel
theorem dX4_simulate_93 : decode cX4_simulate 93 = .ok (.getfield 19, 3) := by decide +kernel
theorem dX4_simulate_96 : decode cX4_simulate 96 = .ok (.getfield 104, 3) := by decide +kernel
theorem dX4_simulate_99 : decode cX4_simulate 99 = .ok (.invokestatic 100, 3) := by decide +kernel
theorem dX4_simulate_102 : decode cX4_simulate 102 = .ok (.isub, 1) := by decide +kernel
theorem dX4_simulate_103 : decode cX4_simulate 103 = .ok (.istore 7, 2) := by decide +kernel
theorem dX4_simulate_105 : decode cX4_simulate 105 = .ok (.sipush 1000, 3) := by decide +kernel
theorem dX4_simulate_108 : decode cX4_simulate 108 = .ok (.iload 6, 2) := by decide +kernel
theorem dX4_simulate_110 : decode cX4_simulate 110 = .ok (.imul, 1) := by decide +kernel
theorem dX4_simulate_111 : decode cX4_simulate 111 = .ok (.iload 7, 2) := by decide +kernel
theorem dX4_simulate_113 : decode cX4_simulate 113 = .ok (.sipush 999, 3) := by decide +kernel
theorem dX4_simulate_116 : decode cX4_simulate 116 = .ok (.invokestatic 281, 3) := by decide +kernel
theorem dX4_simulate_119 : decode cX4_simulate 119 = .ok (.iadd, 1) := by decide +kernel
theorem dX4_simulate_120 : decode cX4_simulate 120 = .ok (.ireturn, 1) := by decide +kernel
set_option maxRecDepth 20000 in
theorem ggX4_save_X4_isSlot : GoodIn wsX4_save wsX4_isSlot := goodIn_r _ [10, 3, 5, 44, 45, 46, 47, 48, 49, 50] (by decide +kernel) (by decide +kernel)
set_option maxRecDepth 20000 in
theorem gX4_save_X4_isSlot : GoodIn wsX4_save (wsV RX4 286 RX4 yX4_isSlot wsX4_isSlot) := goodIn_app (goodIn_of _ (by decide +kernel)) ggX4_save_X4_isSlot
set_option maxRecDepth 20000 in
theorem ggX4_save_X2_copyFrom : GoodIn wsX4_save wsX2_copyFrom := goodIn_r _ [15, 16, 17, 18, 19, 20, 21, 22, 23, 24, 25, 26, 27, 28, 29, 30, 31, 32, 33, 14, 34, 35, 36, 37, 38, 39, 40, 41, 42, 43, 51, 52, 53, 54, 55, 56, 57, 58, 59, 60, 61, 62, 63, 64, 65, 66, 67, 68, 69, 70] (by decide +kernel) (by decide +kernel)
set_option maxRecDepth 20000 in
theorem gX4_save_X2_copyFrom : GoodIn wsX4_save (wsV RX4 258 RX2 yX2_copyFrom wsX2_copyFrom) := goodIn_app (goodIn_of _ (by decide +kernel)) ggX4_save_X2_copyFrom
theorem dX4_save_0 : decode cX4_save 0 = .ok (.aload_n 0, 1) := by decide +kernel
theorem dX4_save_1 : decode cX4_save 1 = .ok (.iload_n 1, 1) := by decide +kernel
theorem dX4_save_2 : decode cX4_save 2 = .ok (.invokevirtual 286, 3) := by decide +kernel
theorem dX4_save_5 : decode cX4_save 5 = .ok (.ifCond .ne 14, 3) := by decide +kernel
theorem dX4_save_8 : decode cX4_save 8 = .ok (.new 128, 3) := by decide +kernel
theorem dX4_save_11 : decode cX4_save 11 = .ok (.dup, 1) := by decide +kernel
theorem dX4_save_12 : decode cX4_save 12 = .ok (.ldc_w 289, 3) := by decide +kernel
theorem dX4_save_15 : decode cX4_save 15 = .ok (.invokespecial 132, 3) := by decide +kernel
theorem dX4_save_18 : decode cX4_save 18 = .ok (.athrow, 1) := by decide +kernel
theorem dX4_save_19 : decode cX4_save 19 = .ok (.aload_n 0, 1) := by decide +kernel
theorem dX4_save_20 : decode cX4_save 20 = .ok (.getfield 36, 3) := by decide +kernel
theorem dX4_save_23 : decode cX4_save 23 = .ok (.iload_n 1, 1) := by decide +kernel
theorem dX4_save_24 : decode cX4_save 24 = .ok (.aaload, 1) := by decide +kernel
theorem dX4_save_25 : decode cX4_save 25 = .ok (.astore_n 2, 1) := by decide +kernel
theorem dX4_save_26 : decode cX4_save 26 = .ok (.aload_n 2, 1) := by decide +kernel
theorem dX4_save_27 : decode cX4_save 27 = .ok (.ifnull 18, 3) := by decide +kernel
theorem dX4_save_30 : decode cX4_save 30 = .ok (.aload_n 2, 1) := by decide +kernel
theorem dX4_save_31 : decode cX4_save 31 = .ok (.aload_n 0, 1) := by decide +kernel
theorem dX4_save_32 : decode cX4_save 32 = .ok (.getfield 19, 3) := by decide +kernel
theorem dX4_save_35 : decode cX4_save 35 = .ok (.invokevirtual 258, 3) := by decide +kernel
theorem dX4_save_38 : decode cX4_save 38 = .ok (.aload_n 0, 1) := by decide +kernel
theorem dX4_save_39 : decode cX4_save 39 = .ok (.getfield 40, 3) := by decide +kernel
theorem dX4_save_42 : decode cX4_save 42 = .ok (.iload_n 1, 1) := by decide +kernel
theorem dX4_save_43 : decode cX4_save 43 = .ok (.iconst 1, 1) := by decide +kernel
theorem dX4_save_44 : decode cX4_save 44 = .ok (.bastore, 1) := by decide +kernel
theorem dX4_save_45 : decode cX4_save 45 = .ok (.aload_n 0, 1) := by decide +kernel
theorem dX4_save_46 : decode cX4_save 46 = .ok (.getfield 19, 3) := by decide +kernel
theorem dX4_save_49 : decode cX4_save 49 = .ok (.getfield 80, 3) := by decide +kernel
theorem dX4_save_52 : decode cX4_save 52 = .ok (.ireturn, 1) := by decide +kernel
set_option maxRecDepth 20000 in
theorem ggX4_restore_X4_isSlot : GoodIn wsX4_restore wsX4_isSlot := goodIn_r _ [13, 5, 6, 54, 55, 56, 57, 58, 59, 60] (by decide +kernel) (by decide +kernel)
set_option maxRecDepth 20000 in
theorem gX4_restore_X4_isSlot : GoodIn wsX4_restore (wsV RX4 286 RX4 yX4_isSlot wsX4_isSlot) := goodIn_app (goodIn_of _ (by decide +kernel)) ggX4_restore_X4_isSlot
set_option maxRecDepth 20000 in
theorem ggX4_restore_X2_copyFrom : GoodIn wsX4_restore wsX2_copyFrom := goodIn_r _ [18, 19, 20, 21, 22, 23, 24, 25, 26, 27, 28, 29, 30, 31, 32, 33, 34, 35, 36, 17, 37, 38, 39, 40, 41, 42, 43, 44, 45, 46, 61, 62, 63, 64, 65, 66, 67, 68, 69, 70, 71, 72, 73, 74, 75, 76, 77, 78, 79, 80] (by decide +kernel) (by decide +kernel)
set_option maxRecDepth 20000 in
theorem gX4_restore_X2_copyFrom : GoodIn wsX4_restore (wsV RX4 258 RX2 yX2_copyFrom wsX2_copyFrom) := goodIn_app (goodIn_of _ (by decide +kernel)) ggX4_restore_X2_copyFrom
set_option maxRecDepth 20000 in
theorem ggX4_restore_X1_forget : GoodIn wsX4_restore wsX1_forget := goodIn_r _ [51, 52, 53, 81, 82, 83] (by decide +kernel) (by decide +kernel)
set_option maxRecDepth 20000 in
theorem gX4_restore_X1_forget : GoodIn wsX4_restore (wsV RX4 77 RX1 yX1_forget wsX1_forget) := goodIn_app (goodIn_of _ (by decide +kernel)) ggX4_restore_X1_forget
theorem dX4_restore_0 : decode cX4_restore 0 = .ok (.aload_n 0, 1) := by decide +kernel
theorem dX4_restore_1 : decode cX4_restore 1 = .ok (.iload_n 1, 1) := by decide +kernel
theorem dX4_restore_2 : decode cX4_restore 2 = .ok (.invokevirtual 286, 3) := by decide +kernel
theorem dX4_restore_5 : decode cX4_restore 5 = .ok (.ifCond .ne 14, 3) := by decide +kernel
theorem dX4_restore_8 : decode cX4_restore 8 = .ok (.new 128, 3) := by decide +kernel
theorem dX4_restore_11 : decode cX4_restore 11 = .ok (.dup, 1) := by decide +kernel
theorem dX4_restore_12 : decode cX4_restore 12 = .ok (.ldc_w 289, 3) := by decide +kernel
theorem dX4_restore_15 : decode cX4_restore 15 = .ok (.invokespecial 132, 3) := by decide +kernel
theorem dX4_restore_18 : decode cX4_restore 18 = .ok (.athrow, 1) := by decide +kernel
theorem dX4_restore_19 : decode cX4_restore 19 = .ok (.aload_n 0, 1) := by decide +kernel
theorem dX4_restore_20 : decode cX4_restore 20 = .ok (.getfield 36, 3) := by decide +kernel
theorem dX4_restore_23 : decode cX4_restore 23 = .ok (.iload_n 1, 1) := by decide +kernel
theorem dX4_restore_24 : decode cX4_restore 24 = .ok (.aaload, 1) := by decide +kernel
theorem dX4_restore_25 : decode cX4_restore 25 = .ok (.astore_n 2, 1) := by decide +kernel
theorem dX4_restore_26 : decode cX4_restore 26 = .ok (.aload_n 2, 1) := by decide +kernel
theorem dX4_restore_27 : decode cX4_restore 27 = .ok (.ifnull 12, 3) := by decide +kernel
theorem dX4_restore_30 : decode cX4_restore 30 = .ok (.aload_n 0, 1) := by decide +kernel
theorem dX4_restore_31 : decode cX4_restore 31 = .ok (.getfield 40, 3) := by decide +kernel
theorem dX4_restore_34 : decode cX4_restore 34 = .ok (.iload_n 1, 1) := by decide +kernel
theorem dX4_restore_35 : decode cX4_restore 35 = .ok (.baload, 1) := by decide +kernel
theorem dX4_restore_36 : decode cX4_restore 36 = .ok (.ifCond .ne 14, 3) := by decide +kernel
theorem dX4_restore_39 : decode cX4_restore 39 = .ok (.new 55, 3) := by decide +kernel
theorem dX4_restore_42 : decode cX4_restore 42 = .ok (.dup, 1) := by decide +kernel
theorem dX4_restore_43 : decode cX4_restore 43 = .ok (.ldc_w 291, 3) := by decide +kernel
theorem dX4_restore_46 : decode cX4_restore 46 = .ok (.invokespecial 59, 3) := by decide +kernel
theorem dX4_restore_49 : decode cX4_restore 49 = .ok (.athrow, 1) := by decide +kernel
theorem dX4_restore_50 : decode cX4_restore 50 = .ok (.aload_n 0, 1) := by decide +kernel
theorem dX4_restore_51 : decode cX4_restore 51 = .ok (.getfield 19, 3) := by decide +kernel
theorem dX4_restore_54 : decode cX4_restore 54 = .ok (.aload_n 2, 1) := by decide +kernel
theorem dX4_restore_55 : decode cX4_restore 55 = .ok (.invokevirtual 258, 3) := by decide +kernel
theorem dX4_restore_58 : decode cX4_restore 58 = .ok (.aload_n 0, 1) := by decide +kernel
theorem dX4_restore_59 : decode cX4_restore 59 = .ok (.getfield 32, 3) := by decide +kernel
theorem dX4_restore_62 : decode cX4_restore 62 = .ok (.invokevirtual 77, 3) := by decide +kernel
theorem dX4_restore_65 : decode cX4_restore 65 = .ok (.aload_n 0, 1) := by decide +kernel
theorem dX4_restore_66 : decode cX4_restore 66 = .ok (.getfield 19, 3) := by decide +kernel
theorem dX4_restore_69 : decode cX4_restore 69 = .ok (.getfield 80, 3) := by decide +kernel
theorem dX4_restore_72 : decode cX4_restore 72 = .ok (.ireturn, 1) := by decide +kernel
theorem dX4_isAuthor_0 : decode cX4_isAuthor 0 = .ok (.iload_n 0, 1) := by decide +kernel
theorem dX4_isAuthor_1 : decode cX4_isAuthor 1 = .ok (.ifCond .lt 12, 3) := by decide +kernel
theorem dX4_isAuthor_4 : decode cX4_isAuthor 4 = .ok (.iload_n 0, 1) := by decide +kernel
theorem dX4_isAuthor_5 : decode cX4_isAuthor 5 = .ok (.iconst 4, 1) := by decide +kernel
theorem dX4_isAuthor_6 : decode cX4_isAuthor 6 = .ok (.if_icmp .ge 7, 3) := by decide +kernel
theorem dX4_isAuthor_9 : decode cX4_isAuthor 9 = .ok (.iconst 1, 1) := by decide +kernel
theorem dX4_isAuthor_10 : decode cX4_isAuthor 10 = .ok (.goto 4, 3) := by decide +kernel
theorem dX4_isAuthor_13 : decode cX4_isAuthor 13 = .ok (.iconst 0, 1) := by decide +kernel
theorem dX4_isAuthor_14 : decode cX4_isAuthor 14 = .ok (.ireturn, 1) := by decide +kernel
theorem dX4_isWork_0 : decode cX4_isWork 0 = .ok (.iload_n 0, 1) := by decide +kernel
theorem dX4_isWork_1 : decode cX4_isWork 1 = .ok (.iconst 1, 1) := by decide +kernel
theorem dX4_isWork_2 : decode cX4_isWork 2 = .ok (.if_icmp .lt 13, 3) := by decide +kernel
theorem dX4_isWork_5 : decode cX4_isWork 5 = .ok (.iload_n 0, 1) := by decide +kernel
theorem dX4_isWork_6 : decode cX4_isWork 6 = .ok (.bipush 9, 2) := by decide +kernel
theorem dX4_isWork_8 : decode cX4_isWork 8 = .ok (.if_icmp .gt 7, 3) := by decide +kernel
theorem dX4_isWork_11 : decode cX4_isWork 11 = .ok (.iconst 1, 1) := by decide +kernel
theorem dX4_isWork_12 : decode cX4_isWork 12 = .ok (.goto 4, 3) := by decide +kernel
theorem dX4_isWork_15 : decode cX4_isWork 15 = .ok (.iconst 0, 1) := by decide +kernel
theorem dX4_isWork_16 : decode cX4_isWork 16 = .ok (.ireturn, 1) := by decide +kernel
theorem dX4_isLink_0 : decode cX4_isLink 0 = .ok (.iload_n 0, 1) := by decide +kernel
theorem dX4_isLink_1 : decode cX4_isLink 1 = .ok (.iconst (-1), 1) := by decide +kernel
theorem dX4_isLink_2 : decode cX4_isLink 2 = .ok (.if_icmp .eq 13, 3) := by decide +kernel
theorem dX4_isLink_5 : decode cX4_isLink 5 = .ok (.iload_n 0, 1) := by decide +kernel
theorem dX4_isLink_6 : decode cX4_isLink 6 = .ok (.ifCond .lt 13, 3) := by decide +kernel
theorem dX4_isLink_9 : decode cX4_isLink 9 = .ok (.iload_n 0, 1) := by decide +kernel
theorem dX4_isLink_10 : decode cX4_isLink 10 = .ok (.bipush 16, 2) := by decide +kernel
theorem dX4_isLink_12 : decode cX4_isLink 12 = .ok (.if_icmp .ge 7, 3) := by decide +kernel
theorem dX4_isLink_15 : decode cX4_isLink 15 = .ok (.iconst 1, 1) := by decide +kernel
theorem dX4_isLink_16 : decode cX4_isLink 16 = .ok (.goto 4, 3) := by decide +kernel
theorem dX4_isLink_19 : decode cX4_isLink 19 = .ok (.iconst 0, 1) := by decide +kernel
theorem dX4_isLink_20 : decode cX4_isLink 20 = .ok (.ireturn, 1) := by decide +kernel
theorem dX4_isBribe_0 : decode cX4_isBribe 0 = .ok (.iload_n 0, 1) := by decide +kernel
theorem dX4_isBribe_1 : decode cX4_isBribe 1 = .ok (.ifCond .lt 13, 3) := by decide +kernel
theorem dX4_isBribe_4 : decode cX4_isBribe 4 = .ok (.iload_n 0, 1) := by decide +kernel
theorem dX4_isBribe_5 : decode cX4_isBribe 5 = .ok (.bipush 99, 2) := by decide +kernel
theorem dX4_isBribe_7 : decode cX4_isBribe 7 = .ok (.if_icmp .gt 7, 3) := by decide +kernel
theorem dX4_isBribe_10 : decode cX4_isBribe 10 = .ok (.iconst 1, 1) := by decide +kernel
theorem dX4_isBribe_11 : decode cX4_isBribe 11 = .ok (.goto 4, 3) := by decide +kernel
theorem dX4_isBribe_14 : decode cX4_isBribe 14 = .ok (.iconst 0, 1) := by decide +kernel
theorem dX4_isBribe_15 : decode cX4_isBribe 15 = .ok (.ireturn, 1) := by decide +kernel
theorem dX4_isTurn_0 : decode cX4_isTurn 0 = .ok (.iload_n 0, 1) := by decide +kernel
theorem dX4_isTurn_1 : decode cX4_isTurn 1 = .ok (.iconst 1, 1) := by decide +kernel
theorem dX4_isTurn_2 : decode cX4_isTurn 2 = .ok (.if_icmp .lt 13, 3) := by decide +kernel
theorem dX4_isTurn_5 : decode cX4_isTurn 5 = .ok (.iload_n 0, 1) := by decide +kernel
theorem dX4_isTurn_6 : decode cX4_isTurn 6 = .ok (.bipush 99, 2) := by decide +kernel
theorem dX4_isTurn_8 : decode cX4_isTurn 8 = .ok (.if_icmp .gt 7, 3) := by decide +kernel
theorem dX4_isTurn_11 : decode cX4_isTurn 11 = .ok (.iconst 1, 1) := by decide +kernel
theorem dX4_isTurn_12 : decode cX4_isTurn 12 = .ok (.goto 4, 3) := by decide +kernel
theorem dX4_isTurn_15 : decode cX4_isTurn 15 = .ok (.iconst 0, 1) := by decide +kernel
theorem dX4_isTurn_16 : decode cX4_isTurn 16 = .ok (.ireturn, 1) := by decide +kernel
theorem dX4_isSlot_0 : decode cX4_isSlot 0 = .ok (.iload_n 1, 1) := by decide +kernel
theorem dX4_isSlot_1 : decode cX4_isSlot 1 = .ok (.ifCond .lt 25, 3) := by decide +kernel
theorem dX4_isSlot_4 : decode cX4_isSlot 4 = .ok (.iload_n 1, 1) := by decide +kernel
theorem dX4_isSlot_5 : decode cX4_isSlot 5 = .ok (.aload_n 0, 1) := by decide +kernel
theorem dX4_isSlot_6 : decode cX4_isSlot 6 = .ok (.getfield 36, 3) := by decide +kernel
theorem dX4_isSlot_9 : decode cX4_isSlot 9 = .ok (.arraylength, 1) := by decide +kernel
theorem dX4_isSlot_10 : decode cX4_isSlot 10 = .ok (.if_icmp .ge 16, 3) := by decide +kernel
theorem dX4_isSlot_13 : decode cX4_isSlot 13 = .ok (.iload_n 1, 1) := by decide +kernel
theorem dX4_isSlot_14 : decode cX4_isSlot 14 = .ok (.aload_n 0, 1) := by decide +kernel
theorem dX4_isSlot_15 : decode cX4_isSlot 15 = .ok (.getfield 40, 3) := by decide +kernel
theorem dX4_isSlot_18 : decode cX4_isSlot 18 = .ok (.arraylength, 1) := by decide +kernel
theorem dX4_isSlot_19 : decode cX4_isSlot 19 = .ok (.if_icmp .ge 7, 3) := by decide +kernel
theorem dX4_isSlot_22 : decode cX4_isSlot 22 = .ok (.iconst 1, 1) := by decide +kernel
theorem dX4_isSlot_23 : decode cX4_isSlot 23 = .ok (.goto 4, 3) := by decide +kernel
theorem dX4_isSlot_26 : decode cX4_isSlot 26 = .ok (.iconst 0, 1) := by decide +kernel
theorem dX4_isSlot_27 : decode cX4_isSlot 27 = .ok (.ireturn, 1) := by decide +kernel
set_option maxRecDepth 20000 in
theorem ggX4_isNumberOfOrder_X4_isAuthor : GoodIn wsX4_isNumberOfOrder wsX4_isAuthor := goodIn_r _ [4] (by decide +kernel) (by decide +kernel)
set_option maxRecDepth 20000 in
theorem gX4_isNumberOfOrder_X4_isAuthor : GoodIn wsX4_isNumberOfOrder (va_wsS RX4 159 yX4_isAuthor wsX4_isAuthor) := goodIn_app (goodIn_of _ (by decide +kernel)) ggX4_isNumberOfOrder_X4_isAuthor
set_option maxRecDepth 20000 in
theorem ggX4_isNumberOfOrder_X4_isWork : GoodIn wsX4_isNumberOfOrder wsX4_isWork := goodIn_r _ [7] (by decide +kernel) (by decide +kernel)
set_option maxRecDepth 20000 in
theorem gX4_isNumberOfOrder_X4_isWork : GoodIn wsX4_isNumberOfOrder (va_wsS RX4 197 yX4_isWork wsX4_isWork) := goodIn_app (goodIn_of _ (by decide +kernel)) ggX4_isNumberOfOrder_X4_isWork
set_option maxRecDepth 20000 in
theorem ggX4_isNumberOfOrder_X4_isLink : GoodIn wsX4_isNumberOfOrder wsX4_isLink := goodIn_r _ [10] (by decide +kernel) (by decide +kernel)
set_option maxRecDepth 20000 in
theorem gX4_isNumberOfOrder_X4_isLink : GoodIn wsX4_isNumberOfOrder (va_wsS RX4 200 yX4_isLink wsX4_isLink) := goodIn_app (goodIn_of _ (by decide +kernel)) ggX4_isNumberOfOrder_X4_isLink
set_option maxRecDepth 20000 in
theorem ggX4_isNumberOfOrder_X4_isBribe : GoodIn wsX4_isNumberOfOrder wsX4_isBribe := goodIn_r _ [13] (by decide +kernel) (by decide +kernel)
set_option maxRecDepth 20000 in
theorem gX4_isNumberOfOrder_X4_isBribe : GoodIn wsX4_isNumberOfOrder (va_wsS RX4 203 yX4_isBribe wsX4_isBribe) := goodIn_app (goodIn_of _ (by decide +kernel)) ggX4_isNumberOfOrder_X4_isBribe
theorem dX4_isNumberOfOrder_0 : decode cX4_isNumberOfOrder 0 = .ok (.iload_n 0, 1) := by decide +kernel
theorem dX4_isNumberOfOrder_1 : decode cX4_isNumberOfOrder 1 = .ok (.tableswitch 55 0 4 #[35, 40, 45, 45, 50], 35) := by decide +kernel
theorem dX4_isNumberOfOrder_36 : decode cX4_isNumberOfOrder 36 = .ok (.iload_n 1, 1) := by decide +kernel
theorem dX4_isNumberOfOrder_37 : decode cX4_isNumberOfOrder 37 = .ok (.invokestatic 159, 3) := by decide +kernel
theorem dX4_isNumberOfOrder_40 : decode cX4_isNumberOfOrder 40 = .ok (.ireturn, 1) := by decide +kernel
theorem dX4_isNumberOfOrder_41 : decode cX4_isNumberOfOrder 41 = .ok (.iload_n 1, 1) := by decide +kernel
theorem dX4_isNumberOfOrder_42 : decode cX4_isNumberOfOrder 42 = .ok (.invokestatic 197, 3) := by decide +kernel
theorem dX4_isNumberOfOrder_45 : decode cX4_isNumberOfOrder 45 = .ok (.ireturn, 1) := by decide +kernel
theorem dX4_isNumberOfOrder_46 : decode cX4_isNumberOfOrder 46 = .ok (.iload_n 1, 1) := by decide +kernel
theorem dX4_isNumberOfOrder_47 : decode cX4_isNumberOfOrder 47 = .ok (.invokestatic 200, 3) := by decide +kernel
theorem dX4_isNumberOfOrder_50 : decode cX4_isNumberOfOrder 50 = .ok (.ireturn, 1) := by decide +kernel
theorem dX4_isNumberOfOrder_51 : decode cX4_isNumberOfOrder 51 = .ok (.iload_n 1, 1) := by decide +kernel
theorem dX4_isNumberOfOrder_52 : decode cX4_isNumberOfOrder 52 = .ok (.invokestatic 203, 3) := by decide +kernel
theorem dX4_isNumberOfOrder_55 : decode cX4_isNumberOfOrder 55 = .ok (.ireturn, 1) := by decide +kernel
theorem dX4_isNumberOfOrder_56 : decode cX4_isNumberOfOrder 56 = .ok (.iconst 0, 1) := by decide +kernel
theorem dX4_isNumberOfOrder_57 : decode cX4_isNumberOfOrder 57 = .ok (.ireturn, 1) := by decide +kernel
theorem dX4_sum_0 : decode cX4_sum 0 = .ok (.iconst 0, 1) := by decide +kernel
theorem dX4_sum_1 : decode cX4_sum 1 = .ok (.istore_n 1, 1) := by decide +kernel
theorem dX4_sum_2 : decode cX4_sum 2 = .ok (.iconst 0, 1) := by decide +kernel
theorem dX4_sum_3 : decode cX4_sum 3 = .ok (.istore_n 2, 1) := by decide +kernel
theorem dX4_sum_4 : decode cX4_sum 4 = .ok (.iload_n 2, 1) := by decide +kernel
theorem dX4_sum_5 : decode cX4_sum 5 = .ok (.aload_n 0, 1) := by decide +kernel
theorem dX4_sum_6 : decode cX4_sum 6 = .ok (.arraylength, 1) := by decide +kernel
theorem dX4_sum_7 : decode cX4_sum 7 = .ok (.if_icmp .ge 15, 3) := by decide +kernel
theorem dX4_sum_10 : decode cX4_sum 10 = .ok (.iload_n 1, 1) := by decide +kernel
theorem dX4_sum_11 : decode cX4_sum 11 = .ok (.aload_n 0, 1) := by decide +kernel
theorem dX4_sum_12 : decode cX4_sum 12 = .ok (.iload_n 2, 1) := by decide +kernel
theorem dX4_sum_13 : decode cX4_sum 13 = .ok (.iaload, 1) := by decide +kernel
theorem dX4_sum_14 : decode cX4_sum 14 = .ok (.iadd, 1) := by decide +kernel
theorem dX4_sum_15 : decode cX4_sum 15 = .ok (.istore_n 1, 1) := by decide +kernel
theorem dX4_sum_16 : decode cX4_sum 16 = .ok (.iinc 2 1, 3) := by decide +kernel
theorem dX4_sum_19 : decode cX4_sum 19 = .ok (.goto (-15), 3) := by decide +kernel
theorem dX4_sum_22 : decode cX4_sum 22 = .ok (.iload_n 1, 1) := by decide +kernel
theorem dX4_sum_23 : decode cX4_sum 23 = .ok (.ireturn, 1) := by decide +kernel
set_option maxRecDepth 20000 in
theorem ggX4_ticksOfRun_X2_copyFrom : GoodIn wsX4_ticksOfRun wsX2_copyFrom := goodIn_r _ [6, 7, 8, 9, 10, 11, 12, 13, 14, 15, 16, 17, 18, 19, 20, 21, 22, 23, 24, 5, 25, 26, 27, 28, 29, 30, 31, 32, 33, 34, 77, 78, 79, 80, 81, 82, 83, 84, 85, 86, 87, 88, 89, 90, 91, 92, 93, 94, 95, 96] (by decide +kernel) (by decide +kernel)
set_option maxRecDepth 20000 in
theorem gX4_ticksOfRun_X2_copyFrom : GoodIn wsX4_ticksOfRun (wsV RX4 258 RX2 yX2_copyFrom wsX2_copyFrom) := goodIn_app (goodIn_of _ (by decide +kernel)) ggX4_ticksOfRun_X2_copyFrom
set_option maxRecDepth 20000 in
theorem ggX4_ticksOfRun_X2_runFrom : GoodIn wsX4_ticksOfRun wsX2_runFrom := goodIn_r _ [38, 14, 13, 22, 10, 39, 40, 41, 5, 42, 16, 43, 44, 45, 46, 8, 47, 48, 49, 50, 9, 19, 18, 12, 51, 52, 53, 54, 7, 55, 56, 57, 58, 59, 60, 61, 62, 11, 21, 63, 64, 65, 66, 67, 68, 29, 69, 31, 32, 33, 34, 77, 78, 79, 80, 81, 82, 83, 84, 85, 86, 87, 88, 89, 90, 91, 92, 93, 94, 95, 96] (by decide +kernel) (by decide +kernel)
set_option maxRecDepth 20000 in
theorem gX4_ticksOfRun_X2_runFrom : GoodIn wsX4_ticksOfRun (wsV RX4 237 RX2 yX2_runFrom wsX2_runFrom) := goodIn_app (goodIn_of _ (by decide +kernel)) ggX4_ticksOfRun_X2_runFrom
theorem dX4_ticksOfRun_0 : decode cX4_ticksOfRun 0 = .ok (.aload_n 0, 1) := by decide +kernel
theorem dX4_ticksOfRun_1 : decode cX4_ticksOfRun 1 = .ok (.getfield 26, 3) := by decide +kernel
theorem dX4_ticksOfRun_4 : decode cX4_ticksOfRun 4 = .ok (.aload_n 1, 1) := by decide +kernel
theorem dX4_ticksOfRun_5 : decode cX4_ticksOfRun 5 = .ok (.invokevirtual 258, 3) := by decide +kernel
theorem dX4_ticksOfRun_8 : decode cX4_ticksOfRun 8 = .ok (.aload_n 0, 1) := by decide +kernel
theorem dX4_ticksOfRun_9 : decode cX4_ticksOfRun 9 = .ok (.getfield 26, 3) := by decide +kernel
theorem dX4_ticksOfRun_12 : decode cX4_ticksOfRun 12 = .ok (.iload_n 2, 1) := by decide +kernel
theorem dX4_ticksOfRun_13 : decode cX4_ticksOfRun 13 = .ok (.invokevirtual 237, 3) := by decide +kernel
theorem dX4_ticksOfRun_16 : decode cX4_ticksOfRun 16 = .ok (.pop, 1) := by decide +kernel
theorem dX4_ticksOfRun_17 : decode cX4_ticksOfRun 17 = .ok (.aload_n 0, 1) := by decide +kernel
theorem dX4_ticksOfRun_18 : decode cX4_ticksOfRun 18 = .ok (.getfield 26, 3) := by decide +kernel
theorem dX4_ticksOfRun_21 : decode cX4_ticksOfRun 21 = .ok (.getfield 87, 3) := by decide +kernel
theorem dX4_ticksOfRun_24 : decode cX4_ticksOfRun 24 = .ok (.aload_n 1, 1) := by decide +kernel
theorem dX4_ticksOfRun_25 : decode cX4_ticksOfRun 25 = .ok (.getfield 87, 3) := by decide +kernel
theorem dX4_ticksOfRun_28 : decode cX4_ticksOfRun 28 = .ok (.isub, 1) := by decide +kernel
theorem dX4_ticksOfRun_29 : decode cX4_ticksOfRun 29 = .ok (.ireturn, 1) := by decide +kernel
theorem dX4_withoutLast_0 : decode cX4_withoutLast 0 = .ok (.lload_n 1, 1) := by decide +kernel
theorem dX4_withoutLast_1 : decode cX4_withoutLast 1 = .ok (.lstore_n 3, 1) := by decide +kernel
theorem dX4_withoutLast_2 : decode cX4_withoutLast 2 = .ok (.iconst 0, 1) := by decide +kernel
theorem dX4_withoutLast_3 : decode cX4_withoutLast 3 = .ok (.istore 5, 2) := by decide +kernel
theorem dX4_withoutLast_5 : decode cX4_withoutLast 5 = .ok (.iload 5, 2) := by decide +kernel
theorem dX4_withoutLast_7 : decode cX4_withoutLast 7 = .ok (.iload_n 0, 1) := by decide +kernel
theorem dX4_withoutLast_8 : decode cX4_withoutLast 8 = .ok (.if_icmp .ge 15, 3) := by decide +kernel
theorem dX4_withoutLast_11 : decode cX4_withoutLast 11 = .ok (.lload_n 3, 1) := by decide +kernel
theorem dX4_withoutLast_12 : decode cX4_withoutLast 12 = .ok (.ldc2_w 267, 3) := by decide +kernel
theorem dX4_withoutLast_15 : decode cX4_withoutLast 15 = .ok (.ldiv, 1) := by decide +kernel
theorem dX4_withoutLast_16 : decode cX4_withoutLast 16 = .ok (.lstore_n 3, 1) := by decide +kernel
theorem dX4_withoutLast_17 : decode cX4_withoutLast 17 = .ok (.iinc 5 1, 3) := by decide +kernel
theorem dX4_withoutLast_20 : decode cX4_withoutLast 20 = .ok (.goto (-15), 3) := by decide +kernel
theorem dX4_withoutLast_23 : decode cX4_withoutLast 23 = .ok (.lload_n 3, 1) := by decide +kernel
theorem dX4_withoutLast_24 : decode cX4_withoutLast 24 = .ok (.lreturn, 1) := by decide +kernel
set_option maxRecDepth 20000 in
theorem ggX4_succeeds_X4_runsOnTrial : GoodIn wsX4_succeeds wsX4_runsOnTrial := goodIn_r _ [6, 1, 7, 8, 9, 10, 11, 12, 13, 14, 15, 16, 17, 18, 19, 20, 21, 22, 23, 24, 25, 26, 27, 28, 29, 30, 31, 32, 33, 34, 35, 36, 37, 38, 39, 40, 41, 42, 43, 44, 45, 46, 47, 48, 49, 50, 5, 51, 52, 53, 54, 55, 56, 57, 58, 59, 60, 166, 167, 168, 169, 170, 171, 172, 173, 174, 175, 176, 177, 178, 179, 180, 181, 182, 183, 184, 185, 186, 187, 188, 189, 190, 191, 192] (by decide +kernel) (by decide +kernel)
set_option maxRecDepth 20000 in
theorem gX4_succeeds_X4_runsOnTrial : GoodIn wsX4_succeeds (wsV RX4 293 RX4 yX4_runsOnTrial wsX4_runsOnTrial) := goodIn_app (goodIn_of _ (by decide +kernel)) ggX4_succeeds_X4_runsOnTrial
set_option maxRecDepth 20000 in
theorem ggX4_succeeds_X2_layAll : GoodIn wsX4_succeeds wsX2_layAll := goodIn_r _ [64, 65, 66, 67, 68, 10, 69, 26, 8, 9, 11, 12, 70, 71, 72, 73, 25, 44, 45, 46, 47, 33, 48, 49, 50, 5, 51, 74, 75, 76, 77, 78, 79, 80, 81, 82, 39, 83, 84, 85, 86, 87, 18, 34, 35, 36, 37, 38, 40, 41, 42, 43, 21, 22, 23, 24, 88, 89, 90, 91, 173, 174, 175, 176, 177, 178, 179, 180, 181, 182, 183, 184, 185, 186, 187, 188] (by decide +kernel) (by decide +kernel)
set_option maxRecDepth 20000 in
theorem gX4_succeeds_X2_layAll : GoodIn wsX4_succeeds (wsV RX4 234 RX2 yX2_layAll wsX2_layAll) := goodIn_app (goodIn_of _ (by decide +kernel)) ggX4_succeeds_X2_layAll
set_option maxRecDepth 20000 in
theorem ggX4_succeeds_X4_movesOnTrial : GoodIn wsX4_succeeds wsX4_movesOnTrial := goodIn_r _ [95, 1, 7, 8, 9, 10, 11, 12, 96, 97, 98, 99, 39, 100, 101, 102, 103, 88, 89, 90, 91, 25, 26, 104, 71, 72, 73, 65, 44, 45, 46, 47, 33, 48, 49, 50, 5, 51, 166, 167, 168, 169, 170, 171, 172, 173, 174, 175, 176, 177, 178, 179, 180, 181, 182, 183, 184, 185, 186, 187, 188] (by decide +kernel) (by decide +kernel)
set_option maxRecDepth 20000 in
theorem gX4_succeeds_X4_movesOnTrial : GoodIn wsX4_succeeds (wsV RX4 296 RX4 yX4_movesOnTrial wsX4_movesOnTrial) := goodIn_app (goodIn_of _ (by decide +kernel)) ggX4_succeeds_X4_movesOnTrial
set_option maxRecDepth 20000 in
theorem ggX4_succeeds_X4_turnsOnTrial : GoodIn wsX4_succeeds wsX4_turnsOnTrial := goodIn_r _ [108, 1, 109, 110, 5, 111, 166, 167, 168, 169, 170, 171, 172, 173, 174, 175, 176, 177, 178, 179, 180, 181, 182, 183, 184, 185, 186, 187, 188] (by decide +kernel) (by decide +kernel)
set_option maxRecDepth 20000 in
theorem gX4_succeeds_X4_turnsOnTrial : GoodIn wsX4_succeeds (wsV RX4 299 RX4 yX4_turnsOnTrial wsX4_turnsOnTrial) := goodIn_app (goodIn_of _ (by decide +kernel)) ggX4_succeeds_X4_turnsOnTrial
set_option maxRecDepth 20000 in
theorem ggX4_succeeds_X4_changesOnTrial : GoodIn wsX4_succeeds wsX4_changesOnTrial := goodIn_r _ [115, 1, 7, 8, 9, 10, 11, 12, 116, 117, 5, 118, 119, 50, 51, 120, 121, 122, 123, 124, 125, 126, 127, 128, 129, 130, 131, 132, 133, 134, 135, 136, 48, 34, 18, 17, 78, 166, 167, 168, 169, 170, 171, 172, 173, 174, 175, 176, 177, 178, 179, 180, 181, 182, 183, 184, 185, 186, 187, 188] (by decide +kernel) (by decide +kernel)
set_option maxRecDepth 20000 in
theorem gX4_succeeds_X4_changesOnTrial : GoodIn wsX4_succeeds (wsV RX4 302 RX4 yX4_changesOnTrial wsX4_changesOnTrial) := goodIn_app (goodIn_of _ (by decide +kernel)) ggX4_succeeds_X4_changesOnTrial
set_option maxRecDepth 20000 in
theorem ggX4_succeeds_X4_isSoonOnTrial : GoodIn wsX4_succeeds wsX4_isSoonOnTrial := goodIn_r _ [140, 1, 141, 22, 23, 10, 24, 25, 26, 8, 9, 11, 12, 142, 143, 144, 145, 31, 21, 35, 36, 37, 38, 39, 40, 41, 42, 43, 166, 167, 168, 169, 170, 171, 172, 173, 174, 175, 176, 177, 178, 179, 180, 181, 182, 183, 184, 185, 186, 187, 188] (by decide +kernel) (by decide +kernel)
set_option maxRecDepth 20000 in
theorem gX4_succeeds_X4_isSoonOnTrial : GoodIn wsX4_succeeds (wsV RX4 306 RX4 yX4_isSoonOnTrial wsX4_isSoonOnTrial) := goodIn_app (goodIn_of _ (by decide +kernel)) ggX4_succeeds_X4_isSoonOnTrial
set_option maxRecDepth 20000 in
theorem ggX4_succeeds_X4_isShortOnTrial : GoodIn wsX4_succeeds wsX4_isShortOnTrial := goodIn_r _ [149, 1, 150, 7, 8, 9, 10, 11, 12, 151, 152, 153, 154, 39, 31, 20, 48, 34, 18, 17, 78, 25, 65, 33, 32, 83, 49, 19, 155, 156, 157, 158, 159, 160, 55, 161, 57, 58, 59, 60, 13, 14, 15, 16, 21, 22, 23, 24, 26, 27, 28, 29, 30, 35, 36, 37, 38, 40, 41, 42, 43, 44, 45, 46, 47, 50, 5, 51, 52, 53, 54, 56, 166, 167, 168, 169, 170, 171, 172, 173, 174, 175, 176, 177, 178, 179, 180, 181, 182, 183, 184, 185, 186, 187, 188, 189, 190, 191, 192] (by decide +kernel) (by decide +kernel)
set_option maxRecDepth 20000 in
theorem gX4_succeeds_X4_isShortOnTrial : GoodIn wsX4_succeeds (wsV RX4 309 RX4 yX4_isShortOnTrial wsX4_isShortOnTrial) := goodIn_app (goodIn_of _ (by decide +kernel)) ggX4_succeeds_X4_isShortOnTrial
set_option maxRecDepth 20000 in
theorem ggX4_succeeds_X4_isCheapOnTrial : GoodIn wsX4_succeeds wsX4_isCheapOnTrial := goodIn_r _ [165, 1, 119, 50, 5, 51, 166, 167, 168, 169, 170, 171, 172, 173, 174, 175, 176, 177, 178, 179, 180, 181, 182, 183, 184, 185, 186, 187, 188] (by decide +kernel) (by decide +kernel)
set_option maxRecDepth 20000 in
theorem gX4_succeeds_X4_isCheapOnTrial : GoodIn wsX4_succeeds (wsV RX4 312 RX4 yX4_isCheapOnTrial wsX4_isCheapOnTrial) := goodIn_app (goodIn_of _ (by decide +kernel)) ggX4_succeeds_X4_isCheapOnTrial
theorem dX4_succeeds_0 : decode cX4_succeeds 0 = .ok (.iload_n 1, 1) := by decide +kernel
theorem dX4_succeeds_1 : decode cX4_succeeds 1 = .ok (.bipush 100, 2) := by decide +kernel
theorem dX4_succeeds_3 : decode cX4_succeeds 3 = .ok (.idiv, 1) := by decide +kernel
theorem dX4_succeeds_4 : decode cX4_succeeds 4 = .ok (.bipush 100, 2) := by decide +kernel
theorem dX4_succeeds_6 : decode cX4_succeeds 6 = .ok (.irem, 1) := by decide +kernel
theorem dX4_succeeds_7 : decode cX4_succeeds 7 = .ok (.istore_n 2, 1) := by decide +kernel
theorem dX4_succeeds_8 : decode cX4_succeeds 8 = .ok (.iload_n 1, 1) := by decide +kernel
theorem dX4_succeeds_9 : decode cX4_succeeds 9 = .ok (.bipush 100, 2) := by decide +kernel
theorem dX4_succeeds_11 : decode cX4_succeeds 11 = .ok (.irem, 1) := by decide +kernel
theorem dX4_succeeds_12 : decode cX4_succeeds 12 = .ok (.istore_n 3, 1) := by decide +kernel
theorem dX4_succeeds_13 : decode cX4_succeeds 13 = .ok (.iload_n 1, 1) := by decide +kernel
theorem dX4_succeeds_14 : decode cX4_succeeds 14 = .ok (.sipush 10000, 3) := by decide +kernel
theorem dX4_succeeds_17 : decode cX4_succeeds 17 = .ok (.idiv, 1) := by decide +kernel
theorem dX4_succeeds_18 : decode cX4_succeeds 18 = .ok (.tableswitch 174 1 9 #[50, 68, 88, 95, 113, 121, 139, 146, 156], 50) := by decide +kernel
theorem dX4_succeeds_68 : decode cX4_succeeds 68 = .ok (.iload_n 3, 1) := by decide +kernel
theorem dX4_succeeds_69 : decode cX4_succeeds 69 = .ok (.ifCond .ne 15, 3) := by decide +kernel
theorem dX4_succeeds_72 : decode cX4_succeeds 72 = .ok (.aload_n 0, 1) := by decide +kernel
theorem dX4_succeeds_73 : decode cX4_succeeds 73 = .ok (.iload_n 2, 1) := by decide +kernel
theorem dX4_succeeds_74 : decode cX4_succeeds 74 = .ok (.invokevirtual 293, 3) := by decide +kernel
theorem dX4_succeeds_77 : decode cX4_succeeds 77 = .ok (.ifCond .eq 7, 3) := by decide +kernel
theorem dX4_succeeds_80 : decode cX4_succeeds 80 = .ok (.iconst 1, 1) := by decide +kernel
theorem dX4_succeeds_81 : decode cX4_succeeds 81 = .ok (.goto 4, 3) := by decide +kernel
theorem dX4_succeeds_84 : decode cX4_succeeds 84 = .ok (.iconst 0, 1) := by decide +kernel
theorem dX4_succeeds_85 : decode cX4_succeeds 85 = .ok (.ireturn, 1) := by decide +kernel
theorem dX4_succeeds_86 : decode cX4_succeeds 86 = .ok (.iload_n 2, 1) := by decide +kernel
theorem dX4_succeeds_87 : decode cX4_succeeds 87 = .ok (.ifCond .ne 7, 3) := by decide +kernel
theorem dX4_succeeds_90 : decode cX4_succeeds 90 = .ok (.iload_n 3, 1) := by decide +kernel
theorem dX4_succeeds_91 : decode cX4_succeeds 91 = .ok (.ifCond .eq 5, 3) := by decide +kernel
theorem dX4_succeeds_94 : decode cX4_succeeds 94 = .ok (.iconst 0, 1) := by decide +kernel
theorem dX4_succeeds_95 : decode cX4_succeeds 95 = .ok (.ireturn, 1) := by decide +kernel
theorem dX4_succeeds_96 : decode cX4_succeeds 96 = .ok (.aload_n 0, 1) := by decide +kernel
theorem dX4_succeeds_97 : decode cX4_succeeds 97 = .ok (.getfield 23, 3) := by decide +kernel
theorem dX4_succeeds_100 : decode cX4_succeeds 100 = .ok (.invokevirtual 234, 3) := by decide +kernel
theorem dX4_succeeds_103 : decode cX4_succeeds 103 = .ok (.pop, 1) := by decide +kernel
theorem dX4_succeeds_104 : decode cX4_succeeds 104 = .ok (.iconst 1, 1) := by decide +kernel
theorem dX4_succeeds_105 : decode cX4_succeeds 105 = .ok (.ireturn, 1) := by decide +kernel
theorem dX4_succeeds_106 : decode cX4_succeeds 106 = .ok (.aload_n 0, 1) := by decide +kernel
theorem dX4_succeeds_107 : decode cX4_succeeds 107 = .ok (.iload_n 2, 1) := by decide +kernel
theorem dX4_succeeds_108 : decode cX4_succeeds 108 = .ok (.iload_n 3, 1) := by decide +kernel
theorem dX4_succeeds_109 : decode cX4_succeeds 109 = .ok (.invokevirtual 296, 3) := by decide +kernel
theorem dX4_succeeds_112 : decode cX4_succeeds 112 = .ok (.ireturn, 1) := by decide +kernel
theorem dX4_succeeds_113 : decode cX4_succeeds 113 = .ok (.iload_n 2, 1) := by decide +kernel
theorem dX4_succeeds_114 : decode cX4_succeeds 114 = .ok (.ifCond .ne 15, 3) := by decide +kernel
theorem dX4_succeeds_117 : decode cX4_succeeds 117 = .ok (.aload_n 0, 1) := by decide +kernel
theorem dX4_succeeds_118 : decode cX4_succeeds 118 = .ok (.iload_n 3, 1) := by decide +kernel
theorem dX4_succeeds_119 : decode cX4_succeeds 119 = .ok (.invokevirtual 299, 3) := by decide +kernel
theorem dX4_succeeds_122 : decode cX4_succeeds 122 = .ok (.ifCond .eq 7, 3) := by decide +kernel
theorem dX4_succeeds_125 : decode cX4_succeeds 125 = .ok (.iconst 1, 1) := by decide +kernel
theorem dX4_succeeds_126 : decode cX4_succeeds 126 = .ok (.goto 4, 3) := by decide +kernel
theorem dX4_succeeds_129 : decode cX4_succeeds 129 = .ok (.iconst 0, 1) := by decide +kernel
theorem dX4_succeeds_130 : decode cX4_succeeds 130 = .ok (.ireturn, 1) := by decide +kernel
theorem dX4_succeeds_131 : decode cX4_succeeds 131 = .ok (.aload_n 0, 1) := by decide +kernel
theorem dX4_succeeds_132 : decode cX4_succeeds 132 = .ok (.iload_n 2, 1) := by decide +kernel
theorem dX4_succeeds_133 : decode cX4_succeeds 133 = .ok (.iconst 4, 1) := by decide +kernel
theorem dX4_succeeds_134 : decode cX4_succeeds 134 = .ok (.iload_n 3, 1) := by decide +kernel
theorem dX4_succeeds_135 : decode cX4_succeeds 135 = .ok (.invokevirtual 302, 3) := by decide +kernel
theorem dX4_succeeds_138 : decode cX4_succeeds 138 = .ok (.ireturn, 1) := by decide +kernel
theorem dX4_succeeds_139 : decode cX4_succeeds 139 = .ok (.aload_n 0, 1) := by decide +kernel
theorem dX4_succeeds_140 : decode cX4_succeeds 140 = .ok (.iload_n 2, 1) := by decide +kernel
theorem dX4_succeeds_141 : decode cX4_succeeds 141 = .ok (.iconst 2, 1) := by decide +kernel
theorem dX4_succeeds_142 : decode cX4_succeeds 142 = .ok (.iload_n 3, 1) := by decide +kernel
theorem dX4_succeeds_143 : decode cX4_succeeds 143 = .ok (.bipush 99, 2) := by decide +kernel
theorem dX4_succeeds_145 : decode cX4_succeeds 145 = .ok (.if_icmp .ne 7, 3) := by decide +kernel
theorem dX4_succeeds_148 : decode cX4_succeeds 148 = .ok (.iconst (-1), 1) := by decide +kernel
theorem dX4_succeeds_149 : decode cX4_succeeds 149 = .ok (.goto 4, 3) := by decide +kernel
theorem dX4_succeeds_152 : decode cX4_succeeds 152 = .ok (.iload_n 3, 1) := by decide +kernel
theorem dX4_succeeds_153 : decode cX4_succeeds 153 = .ok (.invokevirtual 302, 3) := by decide +kernel
theorem dX4_succeeds_156 : decode cX4_succeeds 156 = .ok (.ireturn, 1) := by decide +kernel
theorem dX4_succeeds_157 : decode cX4_succeeds 157 = .ok (.aload_n 0, 1) := by decide +kernel
theorem dX4_succeeds_158 : decode cX4_succeeds 158 = .ok (.iload_n 2, 1) := by decide +kernel
theorem dX4_succeeds_159 : decode cX4_succeeds 159 = .ok (.iload_n 3, 1) := by decide +kernel
theorem dX4_succeeds_160 : decode cX4_succeeds 160 = .ok (.invokevirtual 306, 3) := by decide +kernel
theorem dX4_succeeds_163 : decode cX4_succeeds 163 = .ok (.ireturn, 1) := by decide +kernel
theorem dX4_succeeds_164 : decode cX4_succeeds 164 = .ok (.aload_n 0, 1) := by decide +kernel
theorem dX4_succeeds_165 : decode cX4_succeeds 165 = .ok (.iload_n 2, 1) := by decide +kernel
theorem dX4_succeeds_166 : decode cX4_succeeds 166 = .ok (.bipush 10, 2) := by decide +kernel
theorem dX4_succeeds_168 : decode cX4_succeeds 168 = .ok (.iload_n 3, 1) := by decide +kernel
theorem dX4_succeeds_169 : decode cX4_succeeds 169 = .ok (.imul, 1) := by decide +kernel
theorem dX4_succeeds_170 : decode cX4_succeeds 170 = .ok (.invokevirtual 309, 3) := by decide +kernel
theorem dX4_succeeds_173 : decode cX4_succeeds 173 = .ok (.ireturn, 1) := by decide +kernel
theorem dX4_succeeds_174 : decode cX4_succeeds 174 = .ok (.aload_n 0, 1) := by decide +kernel
theorem dX4_succeeds_175 : decode cX4_succeeds 175 = .ok (.iload_n 1, 1) := by decide +kernel
theorem dX4_succeeds_176 : decode cX4_succeeds 176 = .ok (.sipush 1000, 3) := by decide +kernel
theorem dX4_succeeds_179 : decode cX4_succeeds 179 = .ok (.idiv, 1) := by decide +kernel
theorem dX4_succeeds_180 : decode cX4_succeeds 180 = .ok (.bipush 10, 2) := by decide +kernel
theorem dX4_succeeds_182 : decode cX4_succeeds 182 = .ok (.irem, 1) := by decide +kernel
theorem dX4_succeeds_183 : decode cX4_succeeds 183 = .ok (.iload_n 1, 1) := by decide +kernel
theorem dX4_succeeds_184 : decode cX4_succeeds 184 = .ok (.sipush 1000, 3) := by decide +kernel
theorem dX4_succeeds_187 : decode cX4_succeeds 187 = .ok (.irem, 1) := by decide +kernel
theorem dX4_succeeds_188 : decode cX4_succeeds 188 = .ok (.invokevirtual 312, 3) := by decide +kernel
theorem dX4_succeeds_191 : decode cX4_succeeds 191 = .ok (.ireturn, 1) := by decide +kernel
theorem dX4_succeeds_192 : decode cX4_succeeds 192 = .ok (.iconst 0, 1) := by decide +kernel
theorem dX4_succeeds_193 : decode cX4_succeeds 193 = .ok (.ireturn, 1) := by decide +kernel
set_option maxRecDepth 20000 in
theorem ggX4_runsOnTrial_X2_has : GoodIn wsX4_runsOnTrial wsX2_has := goodIn_r _ [6, 7, 64, 65, 66, 67, 68, 69, 70, 71, 72, 73, 74, 75, 76, 77, 78, 79] (by decide +kernel) (by decide +kernel)
set_option maxRecDepth 20000 in
theorem gX4_runsOnTrial_X2_has : GoodIn wsX4_runsOnTrial (wsV RX4 124 RX2 yX2_has wsX2_has) := goodIn_app (goodIn_of _ (by decide +kernel)) ggX4_runsOnTrial_X2_has
set_option maxRecDepth 20000 in
theorem ggX4_runsOnTrial_X2_runFrom : GoodIn wsX4_runsOnTrial wsX2_runFrom := goodIn_r _ [11, 12, 13, 14, 15, 16, 17, 18, 5, 19, 20, 21, 3, 4, 6, 7, 22, 23, 24, 25, 26, 27, 28, 29, 30, 31, 32, 33, 34, 35, 36, 37, 38, 39, 40, 41, 42, 43, 44, 45, 46, 47, 48, 49, 50, 51, 52, 53, 54, 55, 56, 64, 65, 66, 67, 68, 69, 70, 71, 72, 73, 74, 75, 76, 77, 78, 79, 80, 81, 82, 83] (by decide +kernel) (by decide +kernel)
set_option maxRecDepth 20000 in
theorem gX4_runsOnTrial_X2_runFrom : GoodIn wsX4_runsOnTrial (wsV RX4 237 RX2 yX2_runFrom wsX2_runFrom) := goodIn_app (goodIn_of _ (by decide +kernel)) ggX4_runsOnTrial_X2_runFrom
theorem dX4_runsOnTrial_0 : decode cX4_runsOnTrial 0 = .ok (.aload_n 0, 1) := by decide +kernel
theorem dX4_runsOnTrial_1 : decode cX4_runsOnTrial 1 = .ok (.getfield 23, 3) := by decide +kernel
theorem dX4_runsOnTrial_4 : decode cX4_runsOnTrial 4 = .ok (.iload_n 1, 1) := by decide +kernel
theorem dX4_runsOnTrial_5 : decode cX4_runsOnTrial 5 = .ok (.invokevirtual 124, 3) := by decide +kernel
theorem dX4_runsOnTrial_8 : decode cX4_runsOnTrial 8 = .ok (.ifCond .ne 5, 3) := by decide +kernel
theorem dX4_runsOnTrial_11 : decode cX4_runsOnTrial 11 = .ok (.iconst 0, 1) := by decide +kernel
theorem dX4_runsOnTrial_12 : decode cX4_runsOnTrial 12 = .ok (.ireturn, 1) := by decide +kernel
theorem dX4_runsOnTrial_13 : decode cX4_runsOnTrial 13 = .ok (.aload_n 0, 1) := by decide +kernel
theorem dX4_runsOnTrial_14 : decode cX4_runsOnTrial 14 = .ok (.getfield 23, 3) := by decide +kernel
theorem dX4_runsOnTrial_17 : decode cX4_runsOnTrial 17 = .ok (.iload_n 1, 1) := by decide +kernel
theorem dX4_runsOnTrial_18 : decode cX4_runsOnTrial 18 = .ok (.invokevirtual 237, 3) := by decide +kernel
theorem dX4_runsOnTrial_21 : decode cX4_runsOnTrial 21 = .ok (.pop, 1) := by decide +kernel
theorem dX4_runsOnTrial_22 : decode cX4_runsOnTrial 22 = .ok (.iconst 1, 1) := by decide +kernel
theorem dX4_runsOnTrial_23 : decode cX4_runsOnTrial 23 = .ok (.ireturn, 1) := by decide +kernel
set_option maxRecDepth 20000 in
theorem ggX4_movesOnTrial_X2_has : GoodIn wsX4_movesOnTrial wsX2_has := goodIn_r _ [6, 7, 45, 46, 47, 48, 49, 50, 51, 52, 53, 54, 55, 56, 57, 58, 59, 60] (by decide +kernel) (by decide +kernel)
set_option maxRecDepth 20000 in
theorem gX4_movesOnTrial_X2_has : GoodIn wsX4_movesOnTrial (wsV RX4 124 RX2 yX2_has wsX2_has) := goodIn_app (goodIn_of _ (by decide +kernel)) ggX4_movesOnTrial_X2_has
set_option maxRecDepth 20000 in
theorem ggX4_movesOnTrial_X2_hasPlace : GoodIn wsX4_movesOnTrial wsX2_hasPlace := goodIn_r _ [11, 12, 45, 46, 47, 48, 49, 50, 51, 52, 53, 54, 55, 56, 57, 58, 59, 60] (by decide +kernel) (by decide +kernel)
set_option maxRecDepth 20000 in
theorem gX4_movesOnTrial_X2_hasPlace : GoodIn wsX4_movesOnTrial (wsV RX4 169 RX2 yX2_hasPlace wsX2_hasPlace) := goodIn_app (goodIn_of _ (by decide +kernel)) ggX4_movesOnTrial_X2_hasPlace
set_option maxRecDepth 20000 in
theorem ggX4_movesOnTrial_X2_isFreeFor : GoodIn wsX4_movesOnTrial wsX2_isFreeFor := goodIn_r _ [16, 17, 18, 19, 5, 20, 21, 22, 3, 4, 6, 7, 45, 46, 47, 48, 49, 50, 51, 52, 53, 54, 55, 56, 57, 58, 59, 60] (by decide +kernel) (by decide +kernel)
set_option maxRecDepth 20000 in
theorem gX4_movesOnTrial_X2_isFreeFor : GoodIn wsX4_movesOnTrial (wsV RX4 226 RX2 yX2_isFreeFor wsX2_isFreeFor) := goodIn_app (goodIn_of _ (by decide +kernel)) ggX4_movesOnTrial_X2_isFreeFor
set_option maxRecDepth 20000 in
theorem ggX4_movesOnTrial_X2_put : GoodIn wsX4_movesOnTrial wsX2_put := goodIn_r _ [26, 21, 27, 28, 29, 30, 5, 31, 32, 33, 34, 35, 36, 37, 45, 46, 47, 48, 49, 50, 51, 52, 53, 54, 55, 56, 57, 58, 59, 60] (by decide +kernel) (by decide +kernel)
set_option maxRecDepth 20000 in
theorem gX4_movesOnTrial_X2_put : GoodIn wsX4_movesOnTrial (wsV RX4 231 RX2 yX2_put wsX2_put) := goodIn_app (goodIn_of _ (by decide +kernel)) ggX4_movesOnTrial_X2_put
theorem dX4_movesOnTrial_0 : decode cX4_movesOnTrial 0 = .ok (.aload_n 0, 1) := by decide +kernel
theorem dX4_movesOnTrial_1 : decode cX4_movesOnTrial 1 = .ok (.getfield 23, 3) := by decide +kernel
theorem dX4_movesOnTrial_4 : decode cX4_movesOnTrial 4 = .ok (.iload_n 1, 1) := by decide +kernel
theorem dX4_movesOnTrial_5 : decode cX4_movesOnTrial 5 = .ok (.invokevirtual 124, 3) := by decide +kernel
theorem dX4_movesOnTrial_8 : decode cX4_movesOnTrial 8 = .ok (.ifCond .eq 26, 3) := by decide +kernel
theorem dX4_movesOnTrial_11 : decode cX4_movesOnTrial 11 = .ok (.aload_n 0, 1) := by decide +kernel
theorem dX4_movesOnTrial_12 : decode cX4_movesOnTrial 12 = .ok (.getfield 23, 3) := by decide +kernel
theorem dX4_movesOnTrial_15 : decode cX4_movesOnTrial 15 = .ok (.iload_n 2, 1) := by decide +kernel
theorem dX4_movesOnTrial_16 : decode cX4_movesOnTrial 16 = .ok (.invokevirtual 169, 3) := by decide +kernel
theorem dX4_movesOnTrial_19 : decode cX4_movesOnTrial 19 = .ok (.ifCond .eq 15, 3) := by decide +kernel
theorem dX4_movesOnTrial_22 : decode cX4_movesOnTrial 22 = .ok (.aload_n 0, 1) := by decide +kernel
theorem dX4_movesOnTrial_23 : decode cX4_movesOnTrial 23 = .ok (.getfield 23, 3) := by decide +kernel
theorem dX4_movesOnTrial_26 : decode cX4_movesOnTrial 26 = .ok (.iload_n 1, 1) := by decide +kernel
theorem dX4_movesOnTrial_27 : decode cX4_movesOnTrial 27 = .ok (.iload_n 2, 1) := by decide +kernel
theorem dX4_movesOnTrial_28 : decode cX4_movesOnTrial 28 = .ok (.invokevirtual 226, 3) := by decide +kernel
theorem dX4_movesOnTrial_31 : decode cX4_movesOnTrial 31 = .ok (.ifCond .ne 5, 3) := by decide +kernel
theorem dX4_movesOnTrial_34 : decode cX4_movesOnTrial 34 = .ok (.iconst 0, 1) := by decide +kernel
theorem dX4_movesOnTrial_35 : decode cX4_movesOnTrial 35 = .ok (.ireturn, 1) := by decide +kernel
theorem dX4_movesOnTrial_36 : decode cX4_movesOnTrial 36 = .ok (.aload_n 0, 1) := by decide +kernel
theorem dX4_movesOnTrial_37 : decode cX4_movesOnTrial 37 = .ok (.getfield 23, 3) := by decide +kernel
theorem dX4_movesOnTrial_40 : decode cX4_movesOnTrial 40 = .ok (.iload_n 1, 1) := by decide +kernel
theorem dX4_movesOnTrial_41 : decode cX4_movesOnTrial 41 = .ok (.iload_n 2, 1) := by decide +kernel
theorem dX4_movesOnTrial_42 : decode cX4_movesOnTrial 42 = .ok (.invokevirtual 231, 3) := by decide +kernel
theorem dX4_movesOnTrial_45 : decode cX4_movesOnTrial 45 = .ok (.pop, 1) := by decide +kernel
theorem dX4_movesOnTrial_46 : decode cX4_movesOnTrial 46 = .ok (.iconst 1, 1) := by decide +kernel
theorem dX4_movesOnTrial_47 : decode cX4_movesOnTrial 47 = .ok (.ireturn, 1) := by decide +kernel
set_option maxRecDepth 20000 in
theorem ggX4_turnsOnTrial_X4_isTurn : GoodIn wsX4_turnsOnTrial wsX4_isTurn := goodIn_r _ [5] (by decide +kernel) (by decide +kernel)
set_option maxRecDepth 20000 in
theorem gX4_turnsOnTrial_X4_isTurn : GoodIn wsX4_turnsOnTrial (va_wsS RX4 240 yX4_isTurn wsX4_isTurn) := goodIn_app (goodIn_of _ (by decide +kernel)) ggX4_turnsOnTrial_X4_isTurn
theorem dX4_turnsOnTrial_0 : decode cX4_turnsOnTrial 0 = .ok (.iload_n 1, 1) := by decide +kernel
theorem dX4_turnsOnTrial_1 : decode cX4_turnsOnTrial 1 = .ok (.invokestatic 240, 3) := by decide +kernel
theorem dX4_turnsOnTrial_4 : decode cX4_turnsOnTrial 4 = .ok (.ifCond .ne 5, 3) := by decide +kernel
theorem dX4_turnsOnTrial_7 : decode cX4_turnsOnTrial 7 = .ok (.iconst 0, 1) := by decide +kernel
theorem dX4_turnsOnTrial_8 : decode cX4_turnsOnTrial 8 = .ok (.ireturn, 1) := by decide +kernel
theorem dX4_turnsOnTrial_9 : decode cX4_turnsOnTrial 9 = .ok (.aload_n 0, 1) := by decide +kernel
theorem dX4_turnsOnTrial_10 : decode cX4_turnsOnTrial 10 = .ok (.getfield 23, 3) := by decide +kernel
theorem dX4_turnsOnTrial_13 : decode cX4_turnsOnTrial 13 = .ok (.dup, 1) := by decide +kernel
theorem dX4_turnsOnTrial_14 : decode cX4_turnsOnTrial 14 = .ok (.getfield 87, 3) := by decide +kernel
theorem dX4_turnsOnTrial_17 : decode cX4_turnsOnTrial 17 = .ok (.iload_n 1, 1) := by decide +kernel
theorem dX4_turnsOnTrial_18 : decode cX4_turnsOnTrial 18 = .ok (.iadd, 1) := by decide +kernel
theorem dX4_turnsOnTrial_19 : decode cX4_turnsOnTrial 19 = .ok (.putfield 87, 3) := by decide +kernel
theorem dX4_turnsOnTrial_22 : decode cX4_turnsOnTrial 22 = .ok (.iconst 1, 1) := by decide +kernel
theorem dX4_turnsOnTrial_23 : decode cX4_turnsOnTrial 23 = .ok (.ireturn, 1) := by decide +kernel
set_option maxRecDepth 20000 in
theorem ggX4_changesOnTrial_X2_has : GoodIn wsX4_changesOnTrial wsX2_has := goodIn_r _ [6, 7, 44, 45, 46, 47, 48, 49, 50, 51, 52, 53, 54, 55, 56, 57, 58, 59] (by decide +kernel) (by decide +kernel)
set_option maxRecDepth 20000 in
theorem gX4_changesOnTrial_X2_has : GoodIn wsX4_changesOnTrial (wsV RX4 124 RX2 yX2_has wsX2_has) := goodIn_app (goodIn_of _ (by decide +kernel)) ggX4_changesOnTrial_X2_has
set_option maxRecDepth 20000 in
theorem ggX4_changesOnTrial_X4_isNumberOfOrder : GoodIn wsX4_changesOnTrial wsX4_isNumberOfOrder := goodIn_r _ [11, 12, 13, 10, 14, 15, 16, 17, 18, 19, 20, 21, 22, 23] (by decide +kernel) (by decide +kernel)
set_option maxRecDepth 20000 in
theorem gX4_changesOnTrial_X4_isNumberOfOrder : GoodIn wsX4_changesOnTrial (va_wsS RX4 214 yX4_isNumberOfOrder wsX4_isNumberOfOrder) := goodIn_app (goodIn_of _ (by decide +kernel)) ggX4_changesOnTrial_X4_isNumberOfOrder
set_option maxRecDepth 20000 in
theorem ggX4_changesOnTrial_X2_replace : GoodIn wsX4_changesOnTrial wsX2_replace := goodIn_r _ [27, 28, 29, 30, 5, 31, 32, 33, 34, 35, 36, 44, 45, 46, 47, 48, 49, 50, 51, 52, 53, 54, 55, 56, 57, 58, 59] (by decide +kernel) (by decide +kernel)
set_option maxRecDepth 20000 in
theorem gX4_changesOnTrial_X2_replace : GoodIn wsX4_changesOnTrial (wsV RX4 220 RX2 yX2_replace wsX2_replace) := goodIn_app (goodIn_of _ (by decide +kernel)) ggX4_changesOnTrial_X2_replace
theorem dX4_changesOnTrial_0 : decode cX4_changesOnTrial 0 = .ok (.aload_n 0, 1) := by decide +kernel
theorem dX4_changesOnTrial_1 : decode cX4_changesOnTrial 1 = .ok (.getfield 23, 3) := by decide +kernel
theorem dX4_changesOnTrial_4 : decode cX4_changesOnTrial 4 = .ok (.iload_n 1, 1) := by decide +kernel
theorem dX4_changesOnTrial_5 : decode cX4_changesOnTrial 5 = .ok (.invokevirtual 124, 3) := by decide +kernel
theorem dX4_changesOnTrial_8 : decode cX4_changesOnTrial 8 = .ok (.ifCond .eq 11, 3) := by decide +kernel
theorem dX4_changesOnTrial_11 : decode cX4_changesOnTrial 11 = .ok (.iload_n 2, 1) := by decide +kernel
theorem dX4_changesOnTrial_12 : decode cX4_changesOnTrial 12 = .ok (.iload_n 3, 1) := by decide +kernel
theorem dX4_changesOnTrial_13 : decode cX4_changesOnTrial 13 = .ok (.invokestatic 214, 3) := by decide +kernel
theorem dX4_changesOnTrial_16 : decode cX4_changesOnTrial 16 = .ok (.ifCond .ne 5, 3) := by decide +kernel
theorem dX4_changesOnTrial_19 : decode cX4_changesOnTrial 19 = .ok (.iconst 0, 1) := by decide +kernel
theorem dX4_changesOnTrial_20 : decode cX4_changesOnTrial 20 = .ok (.ireturn, 1) := by decide +kernel
theorem dX4_changesOnTrial_21 : decode cX4_changesOnTrial 21 = .ok (.aload_n 0, 1) := by decide +kernel
theorem dX4_changesOnTrial_22 : decode cX4_changesOnTrial 22 = .ok (.getfield 23, 3) := by decide +kernel
theorem dX4_changesOnTrial_25 : decode cX4_changesOnTrial 25 = .ok (.iload_n 1, 1) := by decide +kernel
theorem dX4_changesOnTrial_26 : decode cX4_changesOnTrial 26 = .ok (.iload_n 2, 1) := by decide +kernel
theorem dX4_changesOnTrial_27 : decode cX4_changesOnTrial 27 = .ok (.iload_n 3, 1) := by decide +kernel
theorem dX4_changesOnTrial_28 : decode cX4_changesOnTrial 28 = .ok (.invokevirtual 220, 3) := by decide +kernel
theorem dX4_changesOnTrial_31 : decode cX4_changesOnTrial 31 = .ok (.pop, 1) := by decide +kernel
theorem dX4_changesOnTrial_32 : decode cX4_changesOnTrial 32 = .ok (.iconst 1, 1) := by decide +kernel
theorem dX4_changesOnTrial_33 : decode cX4_changesOnTrial 33 = .ok (.ireturn, 1) := by decide +kernel
set_option maxRecDepth 20000 in
theorem ggX4_isSoonOnTrial_X2_isOnDrum : GoodIn wsX4_isSoonOnTrial wsX2_isOnDrum := goodIn_r _ [6, 7, 8, 9, 10, 5, 11, 12, 35, 36, 37, 38, 39, 40, 41, 42, 43, 44, 45, 46, 47, 48, 49, 50] (by decide +kernel) (by decide +kernel)
set_option maxRecDepth 20000 in
theorem gX4_isSoonOnTrial_X2_isOnDrum : GoodIn wsX4_isSoonOnTrial (wsV RX4 315 RX2 yX2_isOnDrum wsX2_isOnDrum) := goodIn_app (goodIn_of _ (by decide +kernel)) ggX4_isSoonOnTrial_X2_isOnDrum
set_option maxRecDepth 20000 in
theorem ggX4_isSoonOnTrial_X2_waitFor : GoodIn wsX4_isSoonOnTrial wsX2_waitFor := goodIn_r _ [16, 7, 17, 18, 3, 4, 5, 6, 8, 9, 10, 11, 12, 19, 20, 21, 22, 23, 24, 25, 26, 27, 35, 36, 37, 38, 39, 40, 41, 42, 43, 44, 45, 46, 47, 48, 49, 50] (by decide +kernel) (by decide +kernel)
set_option maxRecDepth 20000 in
theorem gX4_isSoonOnTrial_X2_waitFor : GoodIn wsX4_isSoonOnTrial (wsV RX4 251 RX2 yX2_waitFor wsX2_waitFor) := goodIn_app (goodIn_of _ (by decide +kernel)) ggX4_isSoonOnTrial_X2_waitFor
theorem dX4_isSoonOnTrial_0 : decode cX4_isSoonOnTrial 0 = .ok (.aload_n 0, 1) := by decide +kernel
theorem dX4_isSoonOnTrial_1 : decode cX4_isSoonOnTrial 1 = .ok (.getfield 23, 3) := by decide +kernel
theorem dX4_isSoonOnTrial_4 : decode cX4_isSoonOnTrial 4 = .ok (.iload_n 1, 1) := by decide +kernel
theorem dX4_isSoonOnTrial_5 : decode cX4_isSoonOnTrial 5 = .ok (.invokevirtual 315, 3) := by decide +kernel
theorem dX4_isSoonOnTrial_8 : decode cX4_isSoonOnTrial 8 = .ok (.ifCond .eq 19, 3) := by decide +kernel
theorem dX4_isSoonOnTrial_11 : decode cX4_isSoonOnTrial 11 = .ok (.aload_n 0, 1) := by decide +kernel
theorem dX4_isSoonOnTrial_12 : decode cX4_isSoonOnTrial 12 = .ok (.getfield 23, 3) := by decide +kernel
theorem dX4_isSoonOnTrial_15 : decode cX4_isSoonOnTrial 15 = .ok (.iload_n 1, 1) := by decide +kernel
theorem dX4_isSoonOnTrial_16 : decode cX4_isSoonOnTrial 16 = .ok (.invokevirtual 251, 3) := by decide +kernel
theorem dX4_isSoonOnTrial_19 : decode cX4_isSoonOnTrial 19 = .ok (.iload_n 2, 1) := by decide +kernel
theorem dX4_isSoonOnTrial_20 : decode cX4_isSoonOnTrial 20 = .ok (.if_icmp .gt 7, 3) := by decide +kernel
theorem dX4_isSoonOnTrial_23 : decode cX4_isSoonOnTrial 23 = .ok (.iconst 1, 1) := by decide +kernel
theorem dX4_isSoonOnTrial_24 : decode cX4_isSoonOnTrial 24 = .ok (.goto 4, 3) := by decide +kernel
theorem dX4_isSoonOnTrial_27 : decode cX4_isSoonOnTrial 27 = .ok (.iconst 0, 1) := by decide +kernel
theorem dX4_isSoonOnTrial_28 : decode cX4_isSoonOnTrial 28 = .ok (.ireturn, 1) := by decide +kernel
set_option maxRecDepth 20000 in
theorem ggX4_isShortOnTrial_X2_has : GoodIn wsX4_isShortOnTrial wsX2_has := goodIn_r _ [7, 8, 79, 80, 81, 82, 83, 84, 85, 86, 87, 88, 89, 90, 91, 92, 93, 94] (by decide +kernel) (by decide +kernel)
set_option maxRecDepth 20000 in
theorem gX4_isShortOnTrial_X2_has : GoodIn wsX4_isShortOnTrial (wsV RX4 124 RX2 yX2_has wsX2_has) := goodIn_app (goodIn_of _ (by decide +kernel)) ggX4_isShortOnTrial_X2_has
set_option maxRecDepth 20000 in
theorem ggX4_isShortOnTrial_X2_copyFrom : GoodIn wsX4_isShortOnTrial wsX2_copyFrom := goodIn_r _ [12, 13, 8, 14, 15, 16, 17, 18, 19, 20, 21, 22, 23, 24, 25, 26, 27, 28, 29, 6, 30, 31, 32, 33, 34, 35, 36, 37, 38, 39, 79, 80, 81, 82, 83, 84, 85, 86, 87, 88, 89, 90, 91, 92, 93, 94, 95, 96, 97, 98] (by decide +kernel) (by decide +kernel)
set_option maxRecDepth 20000 in
theorem gX4_isShortOnTrial_X2_copyFrom : GoodIn wsX4_isShortOnTrial (wsV RX4 258 RX2 yX2_copyFrom wsX2_copyFrom) := goodIn_app (goodIn_of _ (by decide +kernel)) ggX4_isShortOnTrial_X2_copyFrom
set_option maxRecDepth 20000 in
theorem ggX4_isShortOnTrial_X2_runFrom : GoodIn wsX4_isShortOnTrial wsX2_runFrom := goodIn_r _ [43, 19, 18, 27, 15, 44, 45, 46, 6, 47, 21, 48, 4, 5, 7, 8, 49, 50, 51, 52, 14, 24, 23, 17, 53, 54, 55, 56, 13, 57, 58, 59, 60, 61, 62, 63, 64, 16, 26, 65, 66, 67, 68, 69, 70, 34, 71, 36, 37, 38, 39, 79, 80, 81, 82, 83, 84, 85, 86, 87, 88, 89, 90, 91, 92, 93, 94, 95, 96, 97, 98] (by decide +kernel) (by decide +kernel)
set_option maxRecDepth 20000 in
theorem gX4_isShortOnTrial_X2_runFrom : GoodIn wsX4_isShortOnTrial (wsV RX4 237 RX2 yX2_runFrom wsX2_runFrom) := goodIn_app (goodIn_of _ (by decide +kernel)) ggX4_isShortOnTrial_X2_runFrom
theorem dX4_isShortOnTrial_0 : decode cX4_isShortOnTrial 0 = .ok (.aload_n 0, 1) := by decide +kernel
theorem dX4_isShortOnTrial_1 : decode cX4_isShortOnTrial 1 = .ok (.getfield 23, 3) := by decide +kernel
theorem dX4_isShortOnTrial_4 : decode cX4_isShortOnTrial 4 = .ok (.iload_n 1, 1) := by decide +kernel
theorem dX4_isShortOnTrial_5 : decode cX4_isShortOnTrial 5 = .ok (.invokevirtual 124, 3) := by decide +kernel
theorem dX4_isShortOnTrial_8 : decode cX4_isShortOnTrial 8 = .ok (.ifCond .ne 5, 3) := by decide +kernel
theorem dX4_isShortOnTrial_11 : decode cX4_isShortOnTrial 11 = .ok (.iconst 0, 1) := by decide +kernel
theorem dX4_isShortOnTrial_12 : decode cX4_isShortOnTrial 12 = .ok (.ireturn, 1) := by decide +kernel
theorem dX4_isShortOnTrial_13 : decode cX4_isShortOnTrial 13 = .ok (.aload_n 0, 1) := by decide +kernel
theorem dX4_isShortOnTrial_14 : decode cX4_isShortOnTrial 14 = .ok (.getfield 26, 3) := by decide +kernel
theorem dX4_isShortOnTrial_17 : decode cX4_isShortOnTrial 17 = .ok (.aload_n 0, 1) := by decide +kernel
theorem dX4_isShortOnTrial_18 : decode cX4_isShortOnTrial 18 = .ok (.getfield 23, 3) := by decide +kernel
theorem dX4_isShortOnTrial_21 : decode cX4_isShortOnTrial 21 = .ok (.invokevirtual 258, 3) := by decide +kernel
theorem dX4_isShortOnTrial_24 : decode cX4_isShortOnTrial 24 = .ok (.aload_n 0, 1) := by decide +kernel
theorem dX4_isShortOnTrial_25 : decode cX4_isShortOnTrial 25 = .ok (.getfield 26, 3) := by decide +kernel
theorem dX4_isShortOnTrial_28 : decode cX4_isShortOnTrial 28 = .ok (.iload_n 1, 1) := by decide +kernel
theorem dX4_isShortOnTrial_29 : decode cX4_isShortOnTrial 29 = .ok (.invokevirtual 237, 3) := by decide +kernel
theorem dX4_isShortOnTrial_32 : decode cX4_isShortOnTrial 32 = .ok (.ifCond .ne 26, 3) := by decide +kernel
theorem dX4_isShortOnTrial_35 : decode cX4_isShortOnTrial 35 = .ok (.aload_n 0, 1) := by decide +kernel
theorem dX4_isShortOnTrial_36 : decode cX4_isShortOnTrial 36 = .ok (.getfield 26, 3) := by decide +kernel
theorem dX4_isShortOnTrial_39 : decode cX4_isShortOnTrial 39 = .ok (.getfield 87, 3) := by decide +kernel
theorem dX4_isShortOnTrial_42 : decode cX4_isShortOnTrial 42 = .ok (.aload_n 0, 1) := by decide +kernel
theorem dX4_isShortOnTrial_43 : decode cX4_isShortOnTrial 43 = .ok (.getfield 23, 3) := by decide +kernel
theorem dX4_isShortOnTrial_46 : decode cX4_isShortOnTrial 46 = .ok (.getfield 87, 3) := by decide +kernel
theorem dX4_isShortOnTrial_49 : decode cX4_isShortOnTrial 49 = .ok (.isub, 1) := by decide +kernel
theorem dX4_isShortOnTrial_50 : decode cX4_isShortOnTrial 50 = .ok (.iload_n 2, 1) := by decide +kernel
theorem dX4_isShortOnTrial_51 : decode cX4_isShortOnTrial 51 = .ok (.if_icmp .gt 7, 3) := by decide +kernel
theorem dX4_isShortOnTrial_54 : decode cX4_isShortOnTrial 54 = .ok (.iconst 1, 1) := by decide +kernel
theorem dX4_isShortOnTrial_55 : decode cX4_isShortOnTrial 55 = .ok (.goto 4, 3) := by decide +kernel
theorem dX4_isShortOnTrial_58 : decode cX4_isShortOnTrial 58 = .ok (.iconst 0, 1) := by decide +kernel
theorem dX4_isShortOnTrial_59 : decode cX4_isShortOnTrial 59 = .ok (.ireturn, 1) := by decide +kernel
set_option maxRecDepth 20000 in
theorem ggX4_isCheapOnTrial_X4_isAuthor : GoodIn wsX4_isCheapOnTrial wsX4_isAuthor := goodIn_r _ [5] (by decide +kernel) (by decide +kernel)
set_option maxRecDepth 20000 in
theorem gX4_isCheapOnTrial_X4_isAuthor : GoodIn wsX4_isCheapOnTrial (va_wsS RX4 159 yX4_isAuthor wsX4_isAuthor) := goodIn_app (goodIn_of _ (by decide +kernel)) ggX4_isCheapOnTrial_X4_isAuthor
theorem dX4_isCheapOnTrial_0 : decode cX4_isCheapOnTrial 0 = .ok (.iload_n 1, 1) := by decide +kernel
theorem dX4_isCheapOnTrial_1 : decode cX4_isCheapOnTrial 1 = .ok (.invokestatic 159, 3) := by decide +kernel
theorem dX4_isCheapOnTrial_4 : decode cX4_isCheapOnTrial 4 = .ok (.ifCond .eq 20, 3) := by decide +kernel
theorem dX4_isCheapOnTrial_7 : decode cX4_isCheapOnTrial 7 = .ok (.aload_n 0, 1) := by decide +kernel
theorem dX4_isCheapOnTrial_8 : decode cX4_isCheapOnTrial 8 = .ok (.getfield 23, 3) := by decide +kernel
theorem dX4_isCheapOnTrial_11 : decode cX4_isCheapOnTrial 11 = .ok (.getfield 104, 3) := by decide +kernel
theorem dX4_isCheapOnTrial_14 : decode cX4_isCheapOnTrial 14 = .ok (.iload_n 1, 1) := by decide +kernel
theorem dX4_isCheapOnTrial_15 : decode cX4_isCheapOnTrial 15 = .ok (.iaload, 1) := by decide +kernel
theorem dX4_isCheapOnTrial_16 : decode cX4_isCheapOnTrial 16 = .ok (.iload_n 2, 1) := by decide +kernel
theorem dX4_isCheapOnTrial_17 : decode cX4_isCheapOnTrial 17 = .ok (.if_icmp .gt 7, 3) := by decide +kernel
theorem dX4_isCheapOnTrial_20 : decode cX4_isCheapOnTrial 20 = .ok (.iconst 1, 1) := by decide +kernel
theorem dX4_isCheapOnTrial_21 : decode cX4_isCheapOnTrial 21 = .ok (.goto 4, 3) := by decide +kernel
theorem dX4_isCheapOnTrial_24 : decode cX4_isCheapOnTrial 24 = .ok (.iconst 0, 1) := by decide +kernel
theorem dX4_isCheapOnTrial_25 : decode cX4_isCheapOnTrial 25 = .ok (.ireturn, 1) := by decide +kernel
set_option maxRecDepth 20000 in
theorem ggX4_simulateRun_X2_replace : GoodIn wsX4_simulateRun wsX2_replace := goodIn_r _ [6, 7, 8, 9, 5, 10, 11, 12, 13, 14, 15, 102, 103, 104, 105, 106, 107, 108, 109, 110, 111, 112, 113, 114, 115, 116, 117] (by decide +kernel) (by decide +kernel)
set_option maxRecDepth 20000 in
theorem gX4_simulateRun_X2_replace : GoodIn wsX4_simulateRun (wsV RX4 220 RX2 yX2_replace wsX2_replace) := goodIn_app (goodIn_of _ (by decide +kernel)) ggX4_simulateRun_X2_replace
set_option maxRecDepth 20000 in
theorem ggX4_simulateRun_X2_layAll : GoodIn wsX4_simulateRun wsX2_layAll := goodIn_r _ [19, 20, 21, 22, 23, 5, 24, 25, 26, 27, 28, 29, 30, 31, 32, 33, 34, 35, 36, 37, 38, 39, 11, 40, 41, 42, 43, 44, 45, 46, 47, 15, 48, 49, 50, 51, 52, 53, 54, 55, 56, 57, 13, 12, 58, 59, 60, 61, 62, 63, 64, 65, 66, 67, 68, 69, 70, 71, 72, 73, 102, 103, 104, 105, 106, 107, 108, 109, 110, 111, 112, 113, 114, 115, 116, 117] (by decide +kernel) (by decide +kernel)
set_option maxRecDepth 20000 in
theorem gX4_simulateRun_X2_layAll : GoodIn wsX4_simulateRun (wsV RX4 234 RX2 yX2_layAll wsX2_layAll) := goodIn_app (goodIn_of _ (by decide +kernel)) ggX4_simulateRun_X2_layAll
set_option maxRecDepth 20000 in
theorem ggX4_simulateRun_X2_runFrom : GoodIn wsX4_simulateRun wsX2_runFrom := goodIn_r _ [77, 14, 13, 78, 79, 66, 67, 68, 5, 69, 34, 25, 26, 27, 28, 29, 80, 81, 82, 83, 84, 85, 39, 12, 58, 59, 60, 61, 52, 62, 63, 64, 65, 35, 36, 37, 38, 11, 40, 41, 42, 43, 86, 87, 88, 89, 90, 91, 92, 93, 94, 102, 103, 104, 105, 106, 107, 108, 109, 110, 111, 112, 113, 114, 115, 116, 117, 118, 119, 120, 121] (by decide +kernel) (by decide +kernel)
set_option maxRecDepth 20000 in
theorem gX4_simulateRun_X2_runFrom : GoodIn wsX4_simulateRun (wsV RX4 237 RX2 yX2_runFrom wsX2_runFrom) := goodIn_app (goodIn_of _ (by decide +kernel)) ggX4_simulateRun_X2_runFrom
theorem dX4_simulateRun_0 : decode cX4_simulateRun 0 = .ok (.aload_n 0, 1) := by decide +kernel
theorem dX4_simulateRun_1 : decode cX4_simulateRun 1 = .ok (.getfield 23, 3) := by decide +kernel
theorem dX4_simulateRun_4 : decode cX4_simulateRun 4 = .ok (.getfield 80, 3) := by decide +kernel
theorem dX4_simulateRun_7 : decode cX4_simulateRun 7 = .ok (.istore_n 2, 1) := by decide +kernel
theorem dX4_simulateRun_8 : decode cX4_simulateRun 8 = .ok (.iload_n 2, 1) := by decide +kernel
theorem dX4_simulateRun_9 : decode cX4_simulateRun 9 = .ok (.iconst 1, 1) := by decide +kernel
theorem dX4_simulateRun_10 : decode cX4_simulateRun 10 = .ok (.if_icmp .lt 7, 3) := by decide +kernel
theorem dX4_simulateRun_13 : decode cX4_simulateRun 13 = .ok (.iload_n 1, 1) := by decide +kernel
theorem dX4_simulateRun_14 : decode cX4_simulateRun 14 = .ok (.ifCond .ge 5, 3) := by decide +kernel
theorem dX4_simulateRun_17 : decode cX4_simulateRun 17 = .ok (.iconst (-1), 1) := by decide +kernel
theorem dX4_simulateRun_18 : decode cX4_simulateRun 18 = .ok (.ireturn, 1) := by decide +kernel
theorem dX4_simulateRun_19 : decode cX4_simulateRun 19 = .ok (.aload_n 0, 1) := by decide +kernel
theorem dX4_simulateRun_20 : decode cX4_simulateRun 20 = .ok (.getfield 23, 3) := by decide +kernel
theorem dX4_simulateRun_23 : decode cX4_simulateRun 23 = .ok (.iload_n 1, 1) := by decide +kernel
theorem dX4_simulateRun_24 : decode cX4_simulateRun 24 = .ok (.bipush 16, 2) := by decide +kernel
theorem dX4_simulateRun_26 : decode cX4_simulateRun 26 = .ok (.idiv, 1) := by decide +kernel
theorem dX4_simulateRun_27 : decode cX4_simulateRun 27 = .ok (.iload_n 2, 1) := by decide +kernel
theorem dX4_simulateRun_28 : decode cX4_simulateRun 28 = .ok (.irem, 1) := by decide +kernel
theorem dX4_simulateRun_29 : decode cX4_simulateRun 29 = .ok (.iconst 4, 1) := by decide +kernel
theorem dX4_simulateRun_30 : decode cX4_simulateRun 30 = .ok (.iload_n 1, 1) := by decide +kernel
theorem dX4_simulateRun_31 : decode cX4_simulateRun 31 = .ok (.sipush 1024, 3) := by decide +kernel
theorem dX4_simulateRun_34 : decode cX4_simulateRun 34 = .ok (.idiv, 1) := by decide +kernel
theorem dX4_simulateRun_35 : decode cX4_simulateRun 35 = .ok (.bipush 100, 2) := by decide +kernel
theorem dX4_simulateRun_37 : decode cX4_simulateRun 37 = .ok (.irem, 1) := by decide +kernel
theorem dX4_simulateRun_38 : decode cX4_simulateRun 38 = .ok (.invokevirtual 220, 3) := by decide +kernel
theorem dX4_simulateRun_41 : decode cX4_simulateRun 41 = .ok (.pop, 1) := by decide +kernel
theorem dX4_simulateRun_42 : decode cX4_simulateRun 42 = .ok (.iload_n 1, 1) := by decide +kernel
theorem dX4_simulateRun_43 : decode cX4_simulateRun 43 = .ok (.iconst 4, 1) := by decide +kernel
theorem dX4_simulateRun_44 : decode cX4_simulateRun 44 = .ok (.irem, 1) := by decide +kernel
theorem dX4_simulateRun_45 : decode cX4_simulateRun 45 = .ok (.ifCond .ne 11, 3) := by decide +kernel
theorem dX4_simulateRun_48 : decode cX4_simulateRun 48 = .ok (.aload_n 0, 1) := by decide +kernel
theorem dX4_simulateRun_49 : decode cX4_simulateRun 49 = .ok (.getfield 23, 3) := by decide +kernel
theorem dX4_simulateRun_52 : decode cX4_simulateRun 52 = .ok (.invokevirtual 234, 3) := by decide +kernel
theorem dX4_simulateRun_55 : decode cX4_simulateRun 55 = .ok (.pop, 1) := by decide +kernel
theorem dX4_simulateRun_56 : decode cX4_simulateRun 56 = .ok (.aload_n 0, 1) := by decide +kernel
theorem dX4_simulateRun_57 : decode cX4_simulateRun 57 = .ok (.getfield 23, 3) := by decide +kernel
theorem dX4_simulateRun_60 : decode cX4_simulateRun 60 = .ok (.iload_n 1, 1) := by decide +kernel
theorem dX4_simulateRun_61 : decode cX4_simulateRun 61 = .ok (.sipush 256, 3) := by decide +kernel
theorem dX4_simulateRun_64 : decode cX4_simulateRun 64 = .ok (.idiv, 1) := by decide +kernel
theorem dX4_simulateRun_65 : decode cX4_simulateRun 65 = .ok (.iload_n 2, 1) := by decide +kernel
theorem dX4_simulateRun_66 : decode cX4_simulateRun 66 = .ok (.irem, 1) := by decide +kernel
theorem dX4_simulateRun_67 : decode cX4_simulateRun 67 = .ok (.invokevirtual 237, 3) := by decide +kernel
theorem dX4_simulateRun_70 : decode cX4_simulateRun 70 = .ok (.ireturn, 1) := by decide +kernel
