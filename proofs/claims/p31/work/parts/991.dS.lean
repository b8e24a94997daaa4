theorem dX0_init_0 : decode cX0_init 0 = .ok (.aload_n 0, 1) := by decide +kernel
theorem dX0_init_1 : decode cX0_init 1 = .ok (.invokespecial 3, 3) := by decide +kernel
theorem dX0_init_4 : decode cX0_init 4 = .ok (.aload_n 0, 1) := by decide +kernel
theorem dX0_init_5 : decode cX0_init 5 = .ok (.sipush 256, 3) := by decide +kernel
theorem dX0_init_8 : decode cX0_init 8 = .ok (.newarray .int, 2) := by decide +kernel
theorem dX0_init_10 : decode cX0_init 10 = .ok (.putfield 11, 3) := by decide +kernel
theorem dX0_init_13 : decode cX0_init 13 = .ok (.aload_n 0, 1) := by decide +kernel
theorem dX0_init_14 : decode cX0_init 14 = .ok (.sipush 256, 3) := by decide +kernel
theorem dX0_init_17 : decode cX0_init 17 = .ok (.newarray .int, 2) := by decide +kernel
theorem dX0_init_19 : decode cX0_init 19 = .ok (.putfield 15, 3) := by decide +kernel
theorem dX0_init_22 : decode cX0_init 22 = .ok (.aload_n 0, 1) := by decide +kernel
theorem dX0_init_23 : decode cX0_init 23 = .ok (.sipush 256, 3) := by decide +kernel
theorem dX0_init_26 : decode cX0_init 26 = .ok (.newarray .int, 2) := by decide +kernel
theorem dX0_init_28 : decode cX0_init 28 = .ok (.putfield 18, 3) := by decide +kernel
theorem dX0_init_31 : decode cX0_init 31 = .ok (.return_, 1) := by decide +kernel
theorem dX0_note_0 : decode cX0_note 0 = .ok (.iconst 0, 1) := by decide +kernel
theorem dX0_note_1 : decode cX0_note 1 = .ok (.istore_n 3, 1) := by decide +kernel
theorem dX0_note_2 : decode cX0_note 2 = .ok (.iload_n 3, 1) := by decide +kernel
theorem dX0_note_3 : decode cX0_note 3 = .ok (.aload_n 0, 1) := by decide +kernel
theorem dX0_note_4 : decode cX0_note 4 = .ok (.getfield 21, 3) := by decide +kernel
theorem dX0_note_7 : decode cX0_note 7 = .ok (.if_icmp .ge 40, 3) := by decide +kernel
theorem dX0_note_10 : decode cX0_note 10 = .ok (.aload_n 0, 1) := by decide +kernel
theorem dX0_note_11 : decode cX0_note 11 = .ok (.getfield 11, 3) := by decide +kernel
theorem dX0_note_14 : decode cX0_note 14 = .ok (.iload_n 3, 1) := by decide +kernel
theorem dX0_note_15 : decode cX0_note 15 = .ok (.iaload, 1) := by decide +kernel
theorem dX0_note_16 : decode cX0_note 16 = .ok (.iload_n 1, 1) := by decide +kernel
theorem dX0_note_17 : decode cX0_note 17 = .ok (.if_icmp .ne 24, 3) := by decide +kernel
theorem dX0_note_20 : decode cX0_note 20 = .ok (.aload_n 0, 1) := by decide +kernel
theorem dX0_note_21 : decode cX0_note 21 = .ok (.getfield 15, 3) := by decide +kernel
theorem dX0_note_24 : decode cX0_note 24 = .ok (.iload_n 3, 1) := by decide +kernel
theorem dX0_note_25 : decode cX0_note 25 = .ok (.iaload, 1) := by decide +kernel
theorem dX0_note_26 : decode cX0_note 26 = .ok (.iload_n 2, 1) := by decide +kernel
theorem dX0_note_27 : decode cX0_note 27 = .ok (.if_icmp .ne 14, 3) := by decide +kernel
theorem dX0_note_30 : decode cX0_note 30 = .ok (.aload_n 0, 1) := by decide +kernel
theorem dX0_note_31 : decode cX0_note 31 = .ok (.getfield 18, 3) := by decide +kernel
theorem dX0_note_34 : decode cX0_note 34 = .ok (.iload_n 3, 1) := by decide +kernel
theorem dX0_note_35 : decode cX0_note 35 = .ok (.dup2, 1) := by decide +kernel
theorem dX0_note_36 : decode cX0_note 36 = .ok (.iaload, 1) := by decide +kernel
theorem dX0_note_37 : decode cX0_note 37 = .ok (.iconst 1, 1) := by decide +kernel
theorem dX0_note_38 : decode cX0_note 38 = .ok (.iadd, 1) := by decide +kernel
theorem dX0_note_39 : decode cX0_note 39 = .ok (.iastore, 1) := by decide +kernel
theorem dX0_note_40 : decode cX0_note 40 = .ok (.return_, 1) := by decide +kernel
theorem dX0_note_41 : decode cX0_note 41 = .ok (.iinc 3 1, 3) := by decide +kernel
theorem dX0_note_44 : decode cX0_note 44 = .ok (.goto (-42), 3) := by decide +kernel
theorem dX0_note_47 : decode cX0_note 47 = .ok (.aload_n 0, 1) := by decide +kernel
theorem dX0_note_48 : decode cX0_note 48 = .ok (.getfield 21, 3) := by decide +kernel
theorem dX0_note_51 : decode cX0_note 51 = .ok (.sipush 256, 3) := by decide +kernel
theorem dX0_note_54 : decode cX0_note 54 = .ok (.if_icmp .ge 43, 3) := by decide +kernel
theorem dX0_note_57 : decode cX0_note 57 = .ok (.aload_n 0, 1) := by decide +kernel
theorem dX0_note_58 : decode cX0_note 58 = .ok (.getfield 11, 3) := by decide +kernel
theorem dX0_note_61 : decode cX0_note 61 = .ok (.aload_n 0, 1) := by decide +kernel
theorem dX0_note_62 : decode cX0_note 62 = .ok (.getfield 21, 3) := by decide +kernel
theorem dX0_note_65 : decode cX0_note 65 = .ok (.iload_n 1, 1) := by decide +kernel
theorem dX0_note_66 : decode cX0_note 66 = .ok (.iastore, 1) := by decide +kernel
theorem dX0_note_67 : decode cX0_note 67 = .ok (.aload_n 0, 1) := by decide +kernel
theorem dX0_note_68 : decode cX0_note 68 = .ok (.getfield 15, 3) := by decide +kernel
theorem dX0_note_71 : decode cX0_note 71 = .ok (.aload_n 0, 1) := by decide +kernel
theorem dX0_note_72 : decode cX0_note 72 = .ok (.getfield 21, 3) := by decide +kernel
theorem dX0_note_75 : decode cX0_note 75 = .ok (.iload_n 2, 1) := by decide +kernel
theorem dX0_note_76 : decode cX0_note 76 = .ok (.iastore, 1) := by decide +kernel
theorem dX0_note_77 : decode cX0_note 77 = .ok (.aload_n 0, 1) := by decide +kernel
theorem dX0_note_78 : decode cX0_note 78 = .ok (.getfield 18, 3) := by decide +kernel
theorem dX0_note_81 : decode cX0_note 81 = .ok (.aload_n 0, 1) := by decide +kernel
theorem dX0_note_82 : decode cX0_note 82 = .ok (.getfield 21, 3) := by decide +kernel
theorem dX0_note_85 : decode cX0_note 85 = .ok (.iconst 1, 1) := by decide +kernel
theorem dX0_note_86 : decode cX0_note 86 = .ok (.iastore, 1) := by decide +kernel
theorem dX0_note_87 : decode cX0_note 87 = .ok (.aload_n 0, 1) := by decide +kernel
theorem dX0_note_88 : decode cX0_note 88 = .ok (.dup, 1) := by decide +kernel
theorem dX0_note_89 : decode cX0_note 89 = .ok (.getfield 21, 3) := by decide +kernel
theorem dX0_note_92 : decode cX0_note 92 = .ok (.iconst 1, 1) := by decide +kernel
theorem dX0_note_93 : decode cX0_note 93 = .ok (.iadd, 1) := by decide +kernel
theorem dX0_note_94 : decode cX0_note 94 = .ok (.putfield 21, 3) := by decide +kernel
theorem dX0_note_97 : decode cX0_note 97 = .ok (.return_, 1) := by decide +kernel
theorem dX0_number_0 : decode cX0_number 0 = .ok (.iload_n 1, 1) := by decide +kernel
theorem dX0_number_1 : decode cX0_number 1 = .ok (.ifCond .lt 11, 3) := by decide +kernel
theorem dX0_number_4 : decode cX0_number 4 = .ok (.iload_n 1, 1) := by decide +kernel
theorem dX0_number_5 : decode cX0_number 5 = .ok (.aload_n 0, 1) := by decide +kernel
theorem dX0_number_6 : decode cX0_number 6 = .ok (.getfield 21, 3) := by decide +kernel
theorem dX0_number_9 : decode cX0_number 9 = .ok (.if_icmp .lt 5, 3) := by decide +kernel
theorem dX0_number_12 : decode cX0_number 12 = .ok (.iconst (-1), 1) := by decide +kernel
theorem dX0_number_13 : decode cX0_number 13 = .ok (.ireturn, 1) := by decide +kernel
theorem dX0_number_14 : decode cX0_number 14 = .ok (.iload_n 2, 1) := by decide +kernel
theorem dX0_number_15 : decode cX0_number 15 = .ok (.ifCond .ne 10, 3) := by decide +kernel
theorem dX0_number_18 : decode cX0_number 18 = .ok (.aload_n 0, 1) := by decide +kernel
theorem dX0_number_19 : decode cX0_number 19 = .ok (.getfield 11, 3) := by decide +kernel
theorem dX0_number_22 : decode cX0_number 22 = .ok (.iload_n 1, 1) := by decide +kernel
theorem dX0_number_23 : decode cX0_number 23 = .ok (.iaload, 1) := by decide +kernel
theorem dX0_number_24 : decode cX0_number 24 = .ok (.ireturn, 1) := by decide +kernel
theorem dX0_number_25 : decode cX0_number 25 = .ok (.iload_n 2, 1) := by decide +kernel
theorem dX0_number_26 : decode cX0_number 26 = .ok (.iconst 1, 1) := by decide +kernel
theorem dX0_number_27 : decode cX0_number 27 = .ok (.if_icmp .ne 12, 3) := by decide +kernel
theorem dX0_number_30 : decode cX0_number 30 = .ok (.aload_n 0, 1) := by decide +kernel
theorem dX0_number_31 : decode cX0_number 31 = .ok (.getfield 15, 3) := by decide +kernel
theorem dX0_number_34 : decode cX0_number 34 = .ok (.iload_n 1, 1) := by decide +kernel
theorem dX0_number_35 : decode cX0_number 35 = .ok (.iaload, 1) := by decide +kernel
theorem dX0_number_36 : decode cX0_number 36 = .ok (.goto 9, 3) := by decide +kernel
theorem dX0_number_39 : decode cX0_number 39 = .ok (.aload_n 0, 1) := by decide +kernel
theorem dX0_number_40 : decode cX0_number 40 = .ok (.getfield 18, 3) := by decide +kernel
theorem dX0_number_43 : decode cX0_number 43 = .ok (.iload_n 1, 1) := by decide +kernel
theorem dX0_number_44 : decode cX0_number 44 = .ok (.iaload, 1) := by decide +kernel
theorem dX0_number_45 : decode cX0_number 45 = .ok (.ireturn, 1) := by decide +kernel
theorem dX0_copyFrom_0 : decode cX0_copyFrom 0 = .ok (.iconst 0, 1) := by decide +kernel
theorem dX0_copyFrom_1 : decode cX0_copyFrom 1 = .ok (.istore_n 2, 1) := by decide +kernel
theorem dX0_copyFrom_2 : decode cX0_copyFrom 2 = .ok (.iload_n 2, 1) := by decide +kernel
theorem dX0_copyFrom_3 : decode cX0_copyFrom 3 = .ok (.aload_n 1, 1) := by decide +kernel
theorem dX0_copyFrom_4 : decode cX0_copyFrom 4 = .ok (.getfield 21, 3) := by decide +kernel
theorem dX0_copyFrom_7 : decode cX0_copyFrom 7 = .ok (.if_icmp .ge 45, 3) := by decide +kernel
theorem dX0_copyFrom_10 : decode cX0_copyFrom 10 = .ok (.aload_n 0, 1) := by decide +kernel
theorem dX0_copyFrom_11 : decode cX0_copyFrom 11 = .ok (.getfield 11, 3) := by decide +kernel
theorem dX0_copyFrom_14 : decode cX0_copyFrom 14 = .ok (.iload_n 2, 1) := by decide +kernel
theorem dX0_copyFrom_15 : decode cX0_copyFrom 15 = .ok (.aload_n 1, 1) := by decide +kernel
theorem dX0_copyFrom_16 : decode cX0_copyFrom 16 = .ok (.getfield 11, 3) := by decide +kernel
theorem dX0_copyFrom_19 : decode cX0_copyFrom 19 = .ok (.iload_n 2, 1) := by decide +kernel
theorem dX0_copyFrom_20 : decode cX0_copyFrom 20 = .ok (.iaload, 1) := by decide +kernel
theorem dX0_copyFrom_21 : decode cX0_copyFrom 21 = .ok (.iastore, 1) := by decide +kernel
theorem dX0_copyFrom_22 : decode cX0_copyFrom 22 = .ok (.aload_n 0, 1) := by decide +kernel
theorem dX0_copyFrom_23 : decode cX0_copyFrom 23 = .ok (.getfield 15, 3) := by decide +kernel
theorem dX0_copyFrom_26 : decode cX0_copyFrom 26 = .ok (.iload_n 2, 1) := by decide +kernel
theorem dX0_copyFrom_27 : decode cX0_copyFrom 27 = .ok (.aload_n 1, 1) := by decide +kernel
theorem dX0_copyFrom_28 : decode cX0_copyFrom 28 = .ok (.getfield 15, 3) := by decide +kernel
theorem dX0_copyFrom_31 : decode cX0_copyFrom 31 = .ok (.iload_n 2, 1) := by decide +kernel
theorem dX0_copyFrom_32 : decode cX0_copyFrom 32 = .ok (.iaload, 1) := by decide +kernel
theorem dX0_copyFrom_33 : decode cX0_copyFrom 33 = .ok (.iastore, 1) := by decide +kernel
theorem dX0_copyFrom_34 : decode cX0_copyFrom 34 = .ok (.aload_n 0, 1) := by decide +kernel
theorem dX0_copyFrom_35 : decode cX0_copyFrom 35 = .ok (.getfield 18, 3) := by decide +kernel
theorem dX0_copyFrom_38 : decode cX0_copyFrom 38 = .ok (.iload_n 2, 1) := by decide +kernel
theorem dX0_copyFrom_39 : decode cX0_copyFrom 39 = .ok (.aload_n 1, 1) := by decide +kernel
theorem dX0_copyFrom_40 : decode cX0_copyFrom 40 = .ok (.getfield 18, 3) := by decide +kernel
theorem dX0_copyFrom_43 : decode cX0_copyFrom 43 = .ok (.iload_n 2, 1) := by decide +kernel
theorem dX0_copyFrom_44 : decode cX0_copyFrom 44 = .ok (.iaload, 1) := by decide +kernel
theorem dX0_copyFrom_45 : decode cX0_copyFrom 45 = .ok (.iastore, 1) := by decide +kernel
theorem dX0_copyFrom_46 : decode cX0_copyFrom 46 = .ok (.iinc 2 1, 3) := by decide +kernel
theorem dX0_copyFrom_49 : decode cX0_copyFrom 49 = .ok (.goto (-47), 3) := by decide +kernel
theorem dX0_copyFrom_52 : decode cX0_copyFrom 52 = .ok (.aload_n 0, 1) := by decide +kernel
theorem dX0_copyFrom_53 : decode cX0_copyFrom 53 = .ok (.aload_n 1, 1) := by decide +kernel
theorem dX0_copyFrom_54 : decode cX0_copyFrom 54 = .ok (.getfield 21, 3) := by decide +kernel
theorem dX0_copyFrom_57 : decode cX0_copyFrom 57 = .ok (.putfield 21, 3) := by decide +kernel
theorem dX0_copyFrom_60 : decode cX0_copyFrom 60 = .ok (.return_, 1) := by decide +kernel
set_option maxRecDepth 20000 in
theorem ggX1_init_X2_init : GoodIn wsX1_init wsX2_init := goodIn_r _ [9, 10, 2, 3, 11, 12, 13, 14, 15, 16, 17, 18, 19, 20, 21, 22, 23, 24, 25, 26, 27, 28, 29, 30, 31, 32, 33, 34, 38, 39, 40, 41, 42, 43, 44, 45, 46, 47, 48, 49, 50, 51, 52, 53, 54, 55, 56, 57] (by decide +kernel) (by decide +kernel)
set_option maxRecDepth 20000 in
theorem gX1_init_X2_init_n17 : GoodIn wsX1_init (wsX2_init) := ggX1_init_X2_init
theorem dX1_init_0 : decode cX1_init 0 = .ok (.aload_n 0, 1) := by decide +kernel
theorem dX1_init_1 : decode cX1_init 1 = .ok (.invokespecial 3, 3) := by decide +kernel
theorem dX1_init_4 : decode cX1_init 4 = .ok (.aload_n 0, 1) := by decide +kernel
theorem dX1_init_5 : decode cX1_init 5 = .ok (.bipush 14, 2) := by decide +kernel
theorem dX1_init_7 : decode cX1_init 7 = .ok (.anewarray 9, 3) := by decide +kernel
theorem dX1_init_10 : decode cX1_init 10 = .ok (.putfield 11, 3) := by decide +kernel
theorem dX1_init_13 : decode cX1_init 13 = .ok (.iconst 0, 1) := by decide +kernel
theorem dX1_init_14 : decode cX1_init 14 = .ok (.istore_n 1, 1) := by decide +kernel
theorem dX1_init_15 : decode cX1_init 15 = .ok (.iload_n 1, 1) := by decide +kernel
theorem dX1_init_16 : decode cX1_init 16 = .ok (.aload_n 0, 1) := by decide +kernel
theorem dX1_init_17 : decode cX1_init 17 = .ok (.getfield 11, 3) := by decide +kernel
theorem dX1_init_20 : decode cX1_init 20 = .ok (.arraylength, 1) := by decide +kernel
theorem dX1_init_21 : decode cX1_init 21 = .ok (.if_icmp .ge 22, 3) := by decide +kernel
theorem dX1_init_24 : decode cX1_init 24 = .ok (.aload_n 0, 1) := by decide +kernel
theorem dX1_init_25 : decode cX1_init 25 = .ok (.getfield 11, 3) := by decide +kernel
theorem dX1_init_28 : decode cX1_init 28 = .ok (.iload_n 1, 1) := by decide +kernel
theorem dX1_init_29 : decode cX1_init 29 = .ok (.new 9, 3) := by decide +kernel
theorem dX1_init_32 : decode cX1_init 32 = .ok (.dup, 1) := by decide +kernel
theorem dX1_init_33 : decode cX1_init 33 = .ok (.invokespecial 17, 3) := by decide +kernel
theorem dX1_init_36 : decode cX1_init 36 = .ok (.aastore, 1) := by decide +kernel
theorem dX1_init_37 : decode cX1_init 37 = .ok (.iinc 1 1, 3) := by decide +kernel
theorem dX1_init_40 : decode cX1_init 40 = .ok (.goto (-25), 3) := by decide +kernel
theorem dX1_init_43 : decode cX1_init 43 = .ok (.return_, 1) := by decide +kernel
set_option maxRecDepth 20000 in
theorem ggX1_remember_X2_copyFrom : GoodIn wsX1_remember wsX2_copyFrom := goodIn_r _ [8, 9, 10, 11, 12, 13, 14, 15, 16, 17, 18, 19, 20, 21, 22, 23, 24, 25, 26, 7, 27, 28, 29, 30, 31, 32, 33, 34, 35, 36, 40, 41, 42, 43, 44, 45, 46, 47, 48, 49, 50, 51, 52, 53, 54, 55, 56, 57, 58, 59] (by decide +kernel) (by decide +kernel)
set_option maxRecDepth 20000 in
theorem gX1_remember_X2_copyFrom : GoodIn wsX1_remember (wsV RX1 25 RX2 yX2_copyFrom wsX2_copyFrom) := goodIn_app (goodIn_of _ (by decide +kernel)) ggX1_remember_X2_copyFrom
theorem dX1_remember_0 : decode cX1_remember 0 = .ok (.aload_n 0, 1) := by decide +kernel
theorem dX1_remember_1 : decode cX1_remember 1 = .ok (.getfield 11, 3) := by decide +kernel
theorem dX1_remember_4 : decode cX1_remember 4 = .ok (.aload_n 0, 1) := by decide +kernel
theorem dX1_remember_5 : decode cX1_remember 5 = .ok (.getfield 18, 3) := by decide +kernel
theorem dX1_remember_8 : decode cX1_remember 8 = .ok (.aload_n 0, 1) := by decide +kernel
theorem dX1_remember_9 : decode cX1_remember 9 = .ok (.getfield 22, 3) := by decide +kernel
theorem dX1_remember_12 : decode cX1_remember 12 = .ok (.iadd, 1) := by decide +kernel
theorem dX1_remember_13 : decode cX1_remember 13 = .ok (.bipush 14, 2) := by decide +kernel
theorem dX1_remember_15 : decode cX1_remember 15 = .ok (.irem, 1) := by decide +kernel
theorem dX1_remember_16 : decode cX1_remember 16 = .ok (.aaload, 1) := by decide +kernel
theorem dX1_remember_17 : decode cX1_remember 17 = .ok (.astore_n 2, 1) := by decide +kernel
theorem dX1_remember_18 : decode cX1_remember 18 = .ok (.aload_n 2, 1) := by decide +kernel
theorem dX1_remember_19 : decode cX1_remember 19 = .ok (.ifnull 8, 3) := by decide +kernel
theorem dX1_remember_22 : decode cX1_remember 22 = .ok (.aload_n 2, 1) := by decide +kernel
theorem dX1_remember_23 : decode cX1_remember 23 = .ok (.aload_n 1, 1) := by decide +kernel
theorem dX1_remember_24 : decode cX1_remember 24 = .ok (.invokevirtual 25, 3) := by decide +kernel
theorem dX1_remember_27 : decode cX1_remember 27 = .ok (.aload_n 0, 1) := by decide +kernel
theorem dX1_remember_28 : decode cX1_remember 28 = .ok (.getfield 22, 3) := by decide +kernel
theorem dX1_remember_31 : decode cX1_remember 31 = .ok (.bipush 14, 2) := by decide +kernel
theorem dX1_remember_33 : decode cX1_remember 33 = .ok (.if_icmp .ge 16, 3) := by decide +kernel
theorem dX1_remember_36 : decode cX1_remember 36 = .ok (.aload_n 0, 1) := by decide +kernel
theorem dX1_remember_37 : decode cX1_remember 37 = .ok (.dup, 1) := by decide +kernel
theorem dX1_remember_38 : decode cX1_remember 38 = .ok (.getfield 22, 3) := by decide +kernel
theorem dX1_remember_41 : decode cX1_remember 41 = .ok (.iconst 1, 1) := by decide +kernel
theorem dX1_remember_42 : decode cX1_remember 42 = .ok (.iadd, 1) := by decide +kernel
theorem dX1_remember_43 : decode cX1_remember 43 = .ok (.putfield 22, 3) := by decide +kernel
theorem dX1_remember_46 : decode cX1_remember 46 = .ok (.goto 16, 3) := by decide +kernel
theorem dX1_remember_49 : decode cX1_remember 49 = .ok (.aload_n 0, 1) := by decide +kernel
theorem dX1_remember_50 : decode cX1_remember 50 = .ok (.aload_n 0, 1) := by decide +kernel
theorem dX1_remember_51 : decode cX1_remember 51 = .ok (.getfield 18, 3) := by decide +kernel
theorem dX1_remember_54 : decode cX1_remember 54 = .ok (.iconst 1, 1) := by decide +kernel
theorem dX1_remember_55 : decode cX1_remember 55 = .ok (.iadd, 1) := by decide +kernel
theorem dX1_remember_56 : decode cX1_remember 56 = .ok (.bipush 14, 2) := by decide +kernel
theorem dX1_remember_58 : decode cX1_remember 58 = .ok (.irem, 1) := by decide +kernel
theorem dX1_remember_59 : decode cX1_remember 59 = .ok (.putfield 18, 3) := by decide +kernel
theorem dX1_remember_62 : decode cX1_remember 62 = .ok (.return_, 1) := by decide +kernel
set_option maxRecDepth 20000 in
theorem ggX2_init_X0_init : GoodIn wsX2_init wsX0_init := goodIn_r _ [23, 24, 2, 3, 6, 25, 26, 27, 44, 45, 46, 47] (by decide +kernel) (by decide +kernel)
set_option maxRecDepth 20000 in
theorem gX2_init_X0_init_n54 : GoodIn wsX2_init (wsX0_init) := ggX2_init_X0_init
theorem dX2_init_0 : decode cX2_init 0 = .ok (.aload_n 0, 1) := by decide +kernel
theorem dX2_init_1 : decode cX2_init 1 = .ok (.invokespecial 3, 3) := by decide +kernel
theorem dX2_init_4 : decode cX2_init 4 = .ok (.aload_n 0, 1) := by decide +kernel
theorem dX2_init_5 : decode cX2_init 5 = .ok (.bipush 12, 2) := by decide +kernel
theorem dX2_init_7 : decode cX2_init 7 = .ok (.putfield 9, 3) := by decide +kernel
theorem dX2_init_10 : decode cX2_init 10 = .ok (.aload_n 0, 1) := by decide +kernel
theorem dX2_init_11 : decode cX2_init 11 = .ok (.iconst (-1), 1) := by decide +kernel
theorem dX2_init_12 : decode cX2_init 12 = .ok (.putfield 15, 3) := by decide +kernel
theorem dX2_init_15 : decode cX2_init 15 = .ok (.aload_n 0, 1) := by decide +kernel
theorem dX2_init_16 : decode cX2_init 16 = .ok (.bipush 16, 2) := by decide +kernel
theorem dX2_init_18 : decode cX2_init 18 = .ok (.newarray .int, 2) := by decide +kernel
theorem dX2_init_20 : decode cX2_init 20 = .ok (.putfield 18, 3) := by decide +kernel
theorem dX2_init_23 : decode cX2_init 23 = .ok (.aload_n 0, 1) := by decide +kernel
theorem dX2_init_24 : decode cX2_init 24 = .ok (.bipush 16, 2) := by decide +kernel
theorem dX2_init_26 : decode cX2_init 26 = .ok (.newarray .int, 2) := by decide +kernel
theorem dX2_init_28 : decode cX2_init 28 = .ok (.putfield 22, 3) := by decide +kernel
theorem dX2_init_31 : decode cX2_init 31 = .ok (.aload_n 0, 1) := by decide +kernel
theorem dX2_init_32 : decode cX2_init 32 = .ok (.bipush 16, 2) := by decide +kernel
theorem dX2_init_34 : decode cX2_init 34 = .ok (.newarray .int, 2) := by decide +kernel
theorem dX2_init_36 : decode cX2_init 36 = .ok (.putfield 25, 3) := by decide +kernel
theorem dX2_init_39 : decode cX2_init 39 = .ok (.aload_n 0, 1) := by decide +kernel
theorem dX2_init_40 : decode cX2_init 40 = .ok (.bipush 16, 2) := by decide +kernel
theorem dX2_init_42 : decode cX2_init 42 = .ok (.newarray .int, 2) := by decide +kernel
theorem dX2_init_44 : decode cX2_init 44 = .ok (.putfield 28, 3) := by decide +kernel
theorem dX2_init_47 : decode cX2_init 47 = .ok (.aload_n 0, 1) := by decide +kernel
theorem dX2_init_48 : decode cX2_init 48 = .ok (.bipush 16, 2) := by decide +kernel
theorem dX2_init_50 : decode cX2_init 50 = .ok (.newarray .int, 2) := by decide +kernel
theorem dX2_init_52 : decode cX2_init 52 = .ok (.putfield 31, 3) := by decide +kernel
theorem dX2_init_55 : decode cX2_init 55 = .ok (.aload_n 0, 1) := by decide +kernel
theorem dX2_init_56 : decode cX2_init 56 = .ok (.bipush 16, 2) := by decide +kernel
theorem dX2_init_58 : decode cX2_init 58 = .ok (.newarray .int, 2) := by decide +kernel
theorem dX2_init_60 : decode cX2_init 60 = .ok (.putfield 34, 3) := by decide +kernel
theorem dX2_init_63 : decode cX2_init 63 = .ok (.aload_n 0, 1) := by decide +kernel
theorem dX2_init_64 : decode cX2_init 64 = .ok (.bipush 16, 2) := by decide +kernel
theorem dX2_init_66 : decode cX2_init 66 = .ok (.newarray .int, 2) := by decide +kernel
theorem dX2_init_68 : decode cX2_init 68 = .ok (.putfield 37, 3) := by decide +kernel
theorem dX2_init_71 : decode cX2_init 71 = .ok (.aload_n 0, 1) := by decide +kernel
theorem dX2_init_72 : decode cX2_init 72 = .ok (.bipush 16, 2) := by decide +kernel
theorem dX2_init_74 : decode cX2_init 74 = .ok (.newarray .int, 2) := by decide +kernel
theorem dX2_init_76 : decode cX2_init 76 = .ok (.putfield 40, 3) := by decide +kernel
theorem dX2_init_79 : decode cX2_init 79 = .ok (.aload_n 0, 1) := by decide +kernel
theorem dX2_init_80 : decode cX2_init 80 = .ok (.bipush 16, 2) := by decide +kernel
theorem dX2_init_82 : decode cX2_init 82 = .ok (.newarray .int, 2) := by decide +kernel
theorem dX2_init_84 : decode cX2_init 84 = .ok (.putfield 43, 3) := by decide +kernel
theorem dX2_init_87 : decode cX2_init 87 = .ok (.aload_n 0, 1) := by decide +kernel
theorem dX2_init_88 : decode cX2_init 88 = .ok (.iconst 4, 1) := by decide +kernel
theorem dX2_init_89 : decode cX2_init 89 = .ok (.newarray .int, 2) := by decide +kernel
theorem dX2_init_91 : decode cX2_init 91 = .ok (.putfield 46, 3) := by decide +kernel
theorem dX2_init_94 : decode cX2_init 94 = .ok (.aload_n 0, 1) := by decide +kernel
theorem dX2_init_95 : decode cX2_init 95 = .ok (.iconst 4, 1) := by decide +kernel
theorem dX2_init_96 : decode cX2_init 96 = .ok (.newarray .int, 2) := by decide +kernel
theorem dX2_init_98 : decode cX2_init 98 = .ok (.putfield 49, 3) := by decide +kernel
theorem dX2_init_101 : decode cX2_init 101 = .ok (.aload_n 0, 1) := by decide +kernel
theorem dX2_init_102 : decode cX2_init 102 = .ok (.new 52, 3) := by decide +kernel
theorem dX2_init_105 : decode cX2_init 105 = .ok (.dup, 1) := by decide +kernel
theorem dX2_init_106 : decode cX2_init 106 = .ok (.invokespecial 54, 3) := by decide +kernel
theorem dX2_init_109 : decode cX2_init 109 = .ok (.putfield 55, 3) := by decide +kernel
theorem dX2_init_112 : decode cX2_init 112 = .ok (.return_, 1) := by decide +kernel
set_option maxRecDepth 20000 in
theorem ggX2_copyFrom_X2_copyRow : GoodIn wsX2_copyFrom wsX2_copyRow := goodIn_r _ [20] (by decide +kernel) (by decide +kernel)
set_option maxRecDepth 20000 in
theorem gX2_copyFrom_X2_copyRow : GoodIn wsX2_copyFrom (va_wsS RX2 68 yX2_copyRow wsX2_copyRow) := goodIn_app (goodIn_of _ (by decide +kernel)) ggX2_copyFrom_X2_copyRow
set_option maxRecDepth 20000 in
theorem ggX2_copyFrom_X0_copyFrom : GoodIn wsX2_copyFrom wsX0_copyFrom := goodIn_r _ [25, 26, 27, 28, 29, 46, 47, 48, 49] (by decide +kernel) (by decide +kernel)
set_option maxRecDepth 20000 in
theorem gX2_copyFrom_X0_copyFrom : GoodIn wsX2_copyFrom (wsV RX2 72 RX0 yX0_copyFrom wsX0_copyFrom) := goodIn_app (goodIn_of _ (by decide +kernel)) ggX2_copyFrom_X0_copyFrom
theorem dX2_copyFrom_0 : decode cX2_copyFrom 0 = .ok (.aload_n 0, 1) := by decide +kernel
theorem dX2_copyFrom_1 : decode cX2_copyFrom 1 = .ok (.aload_n 1, 1) := by decide +kernel
theorem dX2_copyFrom_2 : decode cX2_copyFrom 2 = .ok (.getfield 9, 3) := by decide +kernel
theorem dX2_copyFrom_5 : decode cX2_copyFrom 5 = .ok (.putfield 9, 3) := by decide +kernel
theorem dX2_copyFrom_8 : decode cX2_copyFrom 8 = .ok (.aload_n 0, 1) := by decide +kernel
theorem dX2_copyFrom_9 : decode cX2_copyFrom 9 = .ok (.aload_n 1, 1) := by decide +kernel
theorem dX2_copyFrom_10 : decode cX2_copyFrom 10 = .ok (.getfield 59, 3) := by decide +kernel
theorem dX2_copyFrom_13 : decode cX2_copyFrom 13 = .ok (.putfield 59, 3) := by decide +kernel
theorem dX2_copyFrom_16 : decode cX2_copyFrom 16 = .ok (.aload_n 0, 1) := by decide +kernel
theorem dX2_copyFrom_17 : decode cX2_copyFrom 17 = .ok (.aload_n 1, 1) := by decide +kernel
theorem dX2_copyFrom_18 : decode cX2_copyFrom 18 = .ok (.getfield 62, 3) := by decide +kernel
theorem dX2_copyFrom_21 : decode cX2_copyFrom 21 = .ok (.putfield 62, 3) := by decide +kernel
theorem dX2_copyFrom_24 : decode cX2_copyFrom 24 = .ok (.aload_n 0, 1) := by decide +kernel
theorem dX2_copyFrom_25 : decode cX2_copyFrom 25 = .ok (.aload_n 1, 1) := by decide +kernel
theorem dX2_copyFrom_26 : decode cX2_copyFrom 26 = .ok (.getfield 15, 3) := by decide +kernel
theorem dX2_copyFrom_29 : decode cX2_copyFrom 29 = .ok (.putfield 15, 3) := by decide +kernel
theorem dX2_copyFrom_32 : decode cX2_copyFrom 32 = .ok (.aload_n 1, 1) := by decide +kernel
theorem dX2_copyFrom_33 : decode cX2_copyFrom 33 = .ok (.getfield 18, 3) := by decide +kernel
theorem dX2_copyFrom_36 : decode cX2_copyFrom 36 = .ok (.aload_n 0, 1) := by decide +kernel
theorem dX2_copyFrom_37 : decode cX2_copyFrom 37 = .ok (.getfield 18, 3) := by decide +kernel
theorem dX2_copyFrom_40 : decode cX2_copyFrom 40 = .ok (.invokestatic 68, 3) := by decide +kernel
theorem dX2_copyFrom_43 : decode cX2_copyFrom 43 = .ok (.aload_n 1, 1) := by decide +kernel
theorem dX2_copyFrom_44 : decode cX2_copyFrom 44 = .ok (.getfield 22, 3) := by decide +kernel
theorem dX2_copyFrom_47 : decode cX2_copyFrom 47 = .ok (.aload_n 0, 1) := by decide +kernel
theorem dX2_copyFrom_48 : decode cX2_copyFrom 48 = .ok (.getfield 22, 3) := by decide +kernel
theorem dX2_copyFrom_51 : decode cX2_copyFrom 51 = .ok (.invokestatic 68, 3) := by decide +kernel
theorem dX2_copyFrom_54 : decode cX2_copyFrom 54 = .ok (.aload_n 1, 1) := by decide +kernel
theorem dX2_copyFrom_55 : decode cX2_copyFrom 55 = .ok (.getfield 25, 3) := by decide +kernel
theorem dX2_copyFrom_58 : decode cX2_copyFrom 58 = .ok (.aload_n 0, 1) := by decide +kernel
theorem dX2_copyFrom_59 : decode cX2_copyFrom 59 = .ok (.getfield 25, 3) := by decide +kernel
theorem dX2_copyFrom_62 : decode cX2_copyFrom 62 = .ok (.invokestatic 68, 3) := by decide +kernel
theorem dX2_copyFrom_65 : decode cX2_copyFrom 65 = .ok (.aload_n 1, 1) := by decide +kernel
theorem dX2_copyFrom_66 : decode cX2_copyFrom 66 = .ok (.getfield 28, 3) := by decide +kernel
theorem dX2_copyFrom_69 : decode cX2_copyFrom 69 = .ok (.aload_n 0, 1) := by decide +kernel
theorem dX2_copyFrom_70 : decode cX2_copyFrom 70 = .ok (.getfield 28, 3) := by decide +kernel
theorem dX2_copyFrom_73 : decode cX2_copyFrom 73 = .ok (.invokestatic 68, 3) := by decide +kernel
theorem dX2_copyFrom_76 : decode cX2_copyFrom 76 = .ok (.aload_n 1, 1) := by decide +kernel
theorem dX2_copyFrom_77 : decode cX2_copyFrom 77 = .ok (.getfield 31, 3) := by decide +kernel
theorem dX2_copyFrom_80 : decode cX2_copyFrom 80 = .ok (.aload_n 0, 1) := by decide +kernel
theorem dX2_copyFrom_81 : decode cX2_copyFrom 81 = .ok (.getfield 31, 3) := by decide +kernel
theorem dX2_copyFrom_84 : decode cX2_copyFrom 84 = .ok (.invokestatic 68, 3) := by decide +kernel
theorem dX2_copyFrom_87 : decode cX2_copyFrom 87 = .ok (.aload_n 1, 1) := by decide +kernel
theorem dX2_copyFrom_88 : decode cX2_copyFrom 88 = .ok (.getfield 34, 3) := by decide +kernel
theorem dX2_copyFrom_91 : decode cX2_copyFrom 91 = .ok (.aload_n 0, 1) := by decide +kernel
theorem dX2_copyFrom_92 : decode cX2_copyFrom 92 = .ok (.getfield 34, 3) := by decide +kernel
theorem dX2_copyFrom_95 : decode cX2_copyFrom 95 = .ok (.invokestatic 68, 3) := by decide +kernel
theorem dX2_copyFrom_98 : decode cX2_copyFrom 98 = .ok (.aload_n 1, 1) := by decide +kernel
theorem dX2_copyFrom_99 : decode cX2_copyFrom 99 = .ok (.getfield 37, 3) := by decide +kernel
theorem dX2_copyFrom_102 : decode cX2_copyFrom 102 = .ok (.aload_n 0, 1) := by decide +kernel
theorem dX2_copyFrom_103 : decode cX2_copyFrom 103 = .ok (.getfield 37, 3) := by decide +kernel
theorem dX2_copyFrom_106 : decode cX2_copyFrom 106 = .ok (.invokestatic 68, 3) := by decide +kernel
theorem dX2_copyFrom_109 : decode cX2_copyFrom 109 = .ok (.aload_n 1, 1) := by decide +kernel
theorem dX2_copyFrom_110 : decode cX2_copyFrom 110 = .ok (.getfield 40, 3) := by decide +kernel
theorem dX2_copyFrom_113 : decode cX2_copyFrom 113 = .ok (.aload_n 0, 1) := by decide +kernel
theorem dX2_copyFrom_114 : decode cX2_copyFrom 114 = .ok (.getfield 40, 3) := by decide +kernel
theorem dX2_copyFrom_117 : decode cX2_copyFrom 117 = .ok (.invokestatic 68, 3) := by decide +kernel
theorem dX2_copyFrom_120 : decode cX2_copyFrom 120 = .ok (.aload_n 1, 1) := by decide +kernel
theorem dX2_copyFrom_121 : decode cX2_copyFrom 121 = .ok (.getfield 43, 3) := by decide +kernel
theorem dX2_copyFrom_124 : decode cX2_copyFrom 124 = .ok (.aload_n 0, 1) := by decide +kernel
theorem dX2_copyFrom_125 : decode cX2_copyFrom 125 = .ok (.getfield 43, 3) := by decide +kernel
theorem dX2_copyFrom_128 : decode cX2_copyFrom 128 = .ok (.invokestatic 68, 3) := by decide +kernel
theorem dX2_copyFrom_131 : decode cX2_copyFrom 131 = .ok (.aload_n 1, 1) := by decide +kernel
theorem dX2_copyFrom_132 : decode cX2_copyFrom 132 = .ok (.getfield 46, 3) := by decide +kernel
theorem dX2_copyFrom_135 : decode cX2_copyFrom 135 = .ok (.aload_n 0, 1) := by decide +kernel
theorem dX2_copyFrom_136 : decode cX2_copyFrom 136 = .ok (.getfield 46, 3) := by decide +kernel
theorem dX2_copyFrom_139 : decode cX2_copyFrom 139 = .ok (.invokestatic 68, 3) := by decide +kernel
theorem dX2_copyFrom_142 : decode cX2_copyFrom 142 = .ok (.aload_n 1, 1) := by decide +kernel
theorem dX2_copyFrom_143 : decode cX2_copyFrom 143 = .ok (.getfield 49, 3) := by decide +kernel
theorem dX2_copyFrom_146 : decode cX2_copyFrom 146 = .ok (.aload_n 0, 1) := by decide +kernel
theorem dX2_copyFrom_147 : decode cX2_copyFrom 147 = .ok (.getfield 49, 3) := by decide +kernel
theorem dX2_copyFrom_150 : decode cX2_copyFrom 150 = .ok (.invokestatic 68, 3) := by decide +kernel
theorem dX2_copyFrom_153 : decode cX2_copyFrom 153 = .ok (.aload_n 0, 1) := by decide +kernel
theorem dX2_copyFrom_154 : decode cX2_copyFrom 154 = .ok (.getfield 55, 3) := by decide +kernel
theorem dX2_copyFrom_157 : decode cX2_copyFrom 157 = .ok (.aload_n 1, 1) := by decide +kernel
theorem dX2_copyFrom_158 : decode cX2_copyFrom 158 = .ok (.getfield 55, 3) := by decide +kernel
theorem dX2_copyFrom_161 : decode cX2_copyFrom 161 = .ok (.invokevirtual 72, 3) := by decide +kernel
theorem dX2_copyFrom_164 : decode cX2_copyFrom 164 = .ok (.return_, 1) := by decide +kernel
theorem dX2_copyRow_0 : decode cX2_copyRow 0 = .ok (.iconst 0, 1) := by decide +kernel
theorem dX2_copyRow_1 : decode cX2_copyRow 1 = .ok (.istore_n 2, 1) := by decide +kernel
theorem dX2_copyRow_2 : decode cX2_copyRow 2 = .ok (.iload_n 2, 1) := by decide +kernel
theorem dX2_copyRow_3 : decode cX2_copyRow 3 = .ok (.aload_n 0, 1) := by decide +kernel
theorem dX2_copyRow_4 : decode cX2_copyRow 4 = .ok (.arraylength, 1) := by decide +kernel
theorem dX2_copyRow_5 : decode cX2_copyRow 5 = .ok (.if_icmp .ge 21, 3) := by decide +kernel
theorem dX2_copyRow_8 : decode cX2_copyRow 8 = .ok (.iload_n 2, 1) := by decide +kernel
theorem dX2_copyRow_9 : decode cX2_copyRow 9 = .ok (.aload_n 1, 1) := by decide +kernel
theorem dX2_copyRow_10 : decode cX2_copyRow 10 = .ok (.arraylength, 1) := by decide +kernel
theorem dX2_copyRow_11 : decode cX2_copyRow 11 = .ok (.if_icmp .ge 15, 3) := by decide +kernel
theorem dX2_copyRow_14 : decode cX2_copyRow 14 = .ok (.aload_n 1, 1) := by decide +kernel
theorem dX2_copyRow_15 : decode cX2_copyRow 15 = .ok (.iload_n 2, 1) := by decide +kernel
theorem dX2_copyRow_16 : decode cX2_copyRow 16 = .ok (.aload_n 0, 1) := by decide +kernel
theorem dX2_copyRow_17 : decode cX2_copyRow 17 = .ok (.iload_n 2, 1) := by decide +kernel
theorem dX2_copyRow_18 : decode cX2_copyRow 18 = .ok (.iaload, 1) := by decide +kernel
theorem dX2_copyRow_19 : decode cX2_copyRow 19 = .ok (.iastore, 1) := by decide +kernel
theorem dX2_copyRow_20 : decode cX2_copyRow 20 = .ok (.iinc 2 1, 3) := by decide +kernel
theorem dX2_copyRow_23 : decode cX2_copyRow 23 = .ok (.goto (-21), 3) := by decide +kernel
theorem dX2_copyRow_26 : decode cX2_copyRow 26 = .ok (.return_, 1) := by decide +kernel
theorem dX2_has_0 : decode cX2_has 0 = .ok (.iload_n 1, 1) := by decide +kernel
theorem dX2_has_1 : decode cX2_has 1 = .ok (.ifCond .lt 21, 3) := by decide +kernel
theorem dX2_has_4 : decode cX2_has 4 = .ok (.iload_n 1, 1) := by decide +kernel
theorem dX2_has_5 : decode cX2_has 5 = .ok (.aload_n 0, 1) := by decide +kernel
theorem dX2_has_6 : decode cX2_has 6 = .ok (.getfield 59, 3) := by decide +kernel
theorem dX2_has_9 : decode cX2_has 9 = .ok (.if_icmp .ge 13, 3) := by decide +kernel
theorem dX2_has_12 : decode cX2_has 12 = .ok (.iload_n 1, 1) := by decide +kernel
theorem dX2_has_13 : decode cX2_has 13 = .ok (.bipush 16, 2) := by decide +kernel
theorem dX2_has_15 : decode cX2_has 15 = .ok (.if_icmp .ge 7, 3) := by decide +kernel
theorem dX2_has_18 : decode cX2_has 18 = .ok (.iconst 1, 1) := by decide +kernel
theorem dX2_has_19 : decode cX2_has 19 = .ok (.goto 4, 3) := by decide +kernel
theorem dX2_has_22 : decode cX2_has 22 = .ok (.iconst 0, 1) := by decide +kernel
theorem dX2_has_23 : decode cX2_has 23 = .ok (.ireturn, 1) := by decide +kernel
theorem dX2_hasPlace_0 : decode cX2_hasPlace 0 = .ok (.iload_n 1, 1) := by decide +kernel
theorem dX2_hasPlace_1 : decode cX2_hasPlace 1 = .ok (.ifCond .lt 15, 3) := by decide +kernel
theorem dX2_hasPlace_4 : decode cX2_hasPlace 4 = .ok (.iload_n 1, 1) := by decide +kernel
theorem dX2_hasPlace_5 : decode cX2_hasPlace 5 = .ok (.aload_n 0, 1) := by decide +kernel
theorem dX2_hasPlace_6 : decode cX2_hasPlace 6 = .ok (.getfield 9, 3) := by decide +kernel
theorem dX2_hasPlace_9 : decode cX2_hasPlace 9 = .ok (.if_icmp .ge 7, 3) := by decide +kernel
theorem dX2_hasPlace_12 : decode cX2_hasPlace 12 = .ok (.iconst 1, 1) := by decide +kernel
theorem dX2_hasPlace_13 : decode cX2_hasPlace 13 = .ok (.goto 4, 3) := by decide +kernel
theorem dX2_hasPlace_16 : decode cX2_hasPlace 16 = .ok (.iconst 0, 1) := by decide +kernel
theorem dX2_hasPlace_17 : decode cX2_hasPlace 17 = .ok (.ireturn, 1) := by decide +kernel
set_option maxRecDepth 20000 in
theorem ggX2_isOnDrum_X2_has : GoodIn wsX2_isOnDrum wsX2_has := goodIn_r _ [6, 7, 8, 9, 10, 11, 12, 13, 14, 15, 16, 17, 18, 19, 20, 21, 22, 23] (by decide +kernel) (by decide +kernel)
set_option maxRecDepth 20000 in
theorem gX2_isOnDrum_X2_has : GoodIn wsX2_isOnDrum (wsV RX2 76 RX2 yX2_has wsX2_has) := goodIn_app (goodIn_of _ (by decide +kernel)) ggX2_isOnDrum_X2_has
theorem dX2_isOnDrum_0 : decode cX2_isOnDrum 0 = .ok (.aload_n 0, 1) := by decide +kernel
theorem dX2_isOnDrum_1 : decode cX2_isOnDrum 1 = .ok (.iload_n 1, 1) := by decide +kernel
theorem dX2_isOnDrum_2 : decode cX2_isOnDrum 2 = .ok (.invokevirtual 76, 3) := by decide +kernel
theorem dX2_isOnDrum_5 : decode cX2_isOnDrum 5 = .ok (.ifCond .eq 17, 3) := by decide +kernel
theorem dX2_isOnDrum_8 : decode cX2_isOnDrum 8 = .ok (.aload_n 0, 1) := by decide +kernel
theorem dX2_isOnDrum_9 : decode cX2_isOnDrum 9 = .ok (.getfield 34, 3) := by decide +kernel
theorem dX2_isOnDrum_12 : decode cX2_isOnDrum 12 = .ok (.iload_n 1, 1) := by decide +kernel
theorem dX2_isOnDrum_13 : decode cX2_isOnDrum 13 = .ok (.iaload, 1) := by decide +kernel
theorem dX2_isOnDrum_14 : decode cX2_isOnDrum 14 = .ok (.iconst (-1), 1) := by decide +kernel
theorem dX2_isOnDrum_15 : decode cX2_isOnDrum 15 = .ok (.if_icmp .eq 7, 3) := by decide +kernel
theorem dX2_isOnDrum_18 : decode cX2_isOnDrum 18 = .ok (.iconst 1, 1) := by decide +kernel
theorem dX2_isOnDrum_19 : decode cX2_isOnDrum 19 = .ok (.goto 4, 3) := by decide +kernel
theorem dX2_isOnDrum_22 : decode cX2_isOnDrum 22 = .ok (.iconst 0, 1) := by decide +kernel
theorem dX2_isOnDrum_23 : decode cX2_isOnDrum 23 = .ok (.ireturn, 1) := by decide +kernel
set_option maxRecDepth 20000 in
theorem ggX2_around_J9_floorMod_7cf53 : GoodIn wsX2_around wsJ9_floorMod_7cf53 := goodIn_r _ [5] (by decide +kernel) (by decide +kernel)
set_option maxRecDepth 20000 in
theorem gX2_around_J9_floorMod_7cf53 : GoodIn wsX2_around (va_wsS RX2 80 yJ9_floorMod_7cf53 wsJ9_floorMod_7cf53) := goodIn_app (goodIn_of _ (by decide +kernel)) ggX2_around_J9_floorMod_7cf53
theorem dX2_around_0 : decode cX2_around 0 = .ok (.aload_n 0, 1) := by decide +kernel
theorem dX2_around_1 : decode cX2_around 1 = .ok (.getfield 9, 3) := by decide +kernel
theorem dX2_around_4 : decode cX2_around 4 = .ok (.ifCond .le 14, 3) := by decide +kernel
theorem dX2_around_7 : decode cX2_around 7 = .ok (.iload_n 1, 1) := by decide +kernel
theorem dX2_around_8 : decode cX2_around 8 = .ok (.aload_n 0, 1) := by decide +kernel
theorem dX2_around_9 : decode cX2_around 9 = .ok (.getfield 9, 3) := by decide +kernel
theorem dX2_around_12 : decode cX2_around 12 = .ok (.invokestatic 80, 3) := by decide +kernel
theorem dX2_around_15 : decode cX2_around 15 = .ok (.goto 4, 3) := by decide +kernel
theorem dX2_around_18 : decode cX2_around 18 = .ok (.iconst 0, 1) := by decide +kernel
theorem dX2_around_19 : decode cX2_around 19 = .ok (.ireturn, 1) := by decide +kernel
set_option maxRecDepth 20000 in
theorem ggX2_laidOrders_X2_has : GoodIn wsX2_laidOrders wsX2_has := goodIn_r _ [6, 7, 8, 9, 10, 11, 12, 13, 14, 15, 16, 17, 18, 19, 20, 21, 22, 23] (by decide +kernel) (by decide +kernel)
set_option maxRecDepth 20000 in
theorem gX2_laidOrders_X2_has : GoodIn wsX2_laidOrders (wsV RX2 76 RX2 yX2_has wsX2_has) := goodIn_app (goodIn_of _ (by decide +kernel)) ggX2_laidOrders_X2_has
theorem dX2_laidOrders_0 : decode cX2_laidOrders 0 = .ok (.iconst 0, 1) := by decide +kernel
theorem dX2_laidOrders_1 : decode cX2_laidOrders 1 = .ok (.istore_n 1, 1) := by decide +kernel
theorem dX2_laidOrders_2 : decode cX2_laidOrders 2 = .ok (.iconst 0, 1) := by decide +kernel
theorem dX2_laidOrders_3 : decode cX2_laidOrders 3 = .ok (.istore_n 2, 1) := by decide +kernel
theorem dX2_laidOrders_4 : decode cX2_laidOrders 4 = .ok (.iload_n 2, 1) := by decide +kernel
theorem dX2_laidOrders_5 : decode cX2_laidOrders 5 = .ok (.bipush 16, 2) := by decide +kernel
theorem dX2_laidOrders_7 : decode cX2_laidOrders 7 = .ok (.if_icmp .ge 30, 3) := by decide +kernel
theorem dX2_laidOrders_10 : decode cX2_laidOrders 10 = .ok (.aload_n 0, 1) := by decide +kernel
theorem dX2_laidOrders_11 : decode cX2_laidOrders 11 = .ok (.iload_n 2, 1) := by decide +kernel
theorem dX2_laidOrders_12 : decode cX2_laidOrders 12 = .ok (.invokevirtual 76, 3) := by decide +kernel
theorem dX2_laidOrders_15 : decode cX2_laidOrders 15 = .ok (.ifCond .eq 22, 3) := by decide +kernel
theorem dX2_laidOrders_18 : decode cX2_laidOrders 18 = .ok (.aload_n 0, 1) := by decide +kernel
theorem dX2_laidOrders_19 : decode cX2_laidOrders 19 = .ok (.getfield 34, 3) := by decide +kernel
theorem dX2_laidOrders_22 : decode cX2_laidOrders 22 = .ok (.iload_n 2, 1) := by decide +kernel
theorem dX2_laidOrders_23 : decode cX2_laidOrders 23 = .ok (.iaload, 1) := by decide +kernel
theorem dX2_laidOrders_24 : decode cX2_laidOrders 24 = .ok (.iconst (-1), 1) := by decide +kernel
theorem dX2_laidOrders_25 : decode cX2_laidOrders 25 = .ok (.if_icmp .eq 6, 3) := by decide +kernel
theorem dX2_laidOrders_28 : decode cX2_laidOrders 28 = .ok (.iinc 1 1, 3) := by decide +kernel
theorem dX2_laidOrders_31 : decode cX2_laidOrders 31 = .ok (.iinc 2 1, 3) := by decide +kernel
theorem dX2_laidOrders_34 : decode cX2_laidOrders 34 = .ok (.goto (-30), 3) := by decide +kernel
theorem dX2_laidOrders_37 : decode cX2_laidOrders 37 = .ok (.iload_n 1, 1) := by decide +kernel
theorem dX2_laidOrders_38 : decode cX2_laidOrders 38 = .ok (.ireturn, 1) := by decide +kernel
set_option maxRecDepth 20000 in
theorem ggX2_ordersOf_X2_has : GoodIn wsX2_ordersOf wsX2_has := goodIn_r _ [6, 7, 8, 9, 10, 11, 12, 13, 14, 15, 16, 17, 18, 19, 20, 21, 22, 23] (by decide +kernel) (by decide +kernel)
set_option maxRecDepth 20000 in
theorem gX2_ordersOf_X2_has : GoodIn wsX2_ordersOf (wsV RX2 76 RX2 yX2_has wsX2_has) := goodIn_app (goodIn_of _ (by decide +kernel)) ggX2_ordersOf_X2_has
theorem dX2_ordersOf_0 : decode cX2_ordersOf 0 = .ok (.iconst 0, 1) := by decide +kernel
theorem dX2_ordersOf_1 : decode cX2_ordersOf 1 = .ok (.istore_n 2, 1) := by decide +kernel
theorem dX2_ordersOf_2 : decode cX2_ordersOf 2 = .ok (.iconst 0, 1) := by decide +kernel
theorem dX2_ordersOf_3 : decode cX2_ordersOf 3 = .ok (.istore_n 3, 1) := by decide +kernel
theorem dX2_ordersOf_4 : decode cX2_ordersOf 4 = .ok (.iload_n 3, 1) := by decide +kernel
theorem dX2_ordersOf_5 : decode cX2_ordersOf 5 = .ok (.bipush 16, 2) := by decide +kernel
theorem dX2_ordersOf_7 : decode cX2_ordersOf 7 = .ok (.if_icmp .ge 30, 3) := by decide +kernel
theorem dX2_ordersOf_10 : decode cX2_ordersOf 10 = .ok (.aload_n 0, 1) := by decide +kernel
theorem dX2_ordersOf_11 : decode cX2_ordersOf 11 = .ok (.iload_n 3, 1) := by decide +kernel
theorem dX2_ordersOf_12 : decode cX2_ordersOf 12 = .ok (.invokevirtual 76, 3) := by decide +kernel
theorem dX2_ordersOf_15 : decode cX2_ordersOf 15 = .ok (.ifCond .eq 22, 3) := by decide +kernel
theorem dX2_ordersOf_18 : decode cX2_ordersOf 18 = .ok (.aload_n 0, 1) := by decide +kernel
theorem dX2_ordersOf_19 : decode cX2_ordersOf 19 = .ok (.getfield 18, 3) := by decide +kernel
theorem dX2_ordersOf_22 : decode cX2_ordersOf 22 = .ok (.iload_n 3, 1) := by decide +kernel
theorem dX2_ordersOf_23 : decode cX2_ordersOf 23 = .ok (.iaload, 1) := by decide +kernel
theorem dX2_ordersOf_24 : decode cX2_ordersOf 24 = .ok (.iload_n 1, 1) := by decide +kernel
theorem dX2_ordersOf_25 : decode cX2_ordersOf 25 = .ok (.if_icmp .ne 6, 3) := by decide +kernel
theorem dX2_ordersOf_28 : decode cX2_ordersOf 28 = .ok (.iinc 2 1, 3) := by decide +kernel
theorem dX2_ordersOf_31 : decode cX2_ordersOf 31 = .ok (.iinc 3 1, 3) := by decide +kernel
theorem dX2_ordersOf_34 : decode cX2_ordersOf 34 = .ok (.goto (-30), 3) := by decide +kernel
theorem dX2_ordersOf_37 : decode cX2_ordersOf 37 = .ok (.iload_n 2, 1) := by decide +kernel
theorem dX2_ordersOf_38 : decode cX2_ordersOf 38 = .ok (.ireturn, 1) := by decide +kernel
set_option maxRecDepth 20000 in
theorem ggX2_orderOn_X2_has : GoodIn wsX2_orderOn wsX2_has := goodIn_r _ [6, 7, 8, 9, 10, 11, 12, 13, 14, 15, 16, 17, 18, 19, 20, 21, 22, 23] (by decide +kernel) (by decide +kernel)
set_option maxRecDepth 20000 in
theorem gX2_orderOn_X2_has : GoodIn wsX2_orderOn (wsV RX2 76 RX2 yX2_has wsX2_has) := goodIn_app (goodIn_of _ (by decide +kernel)) ggX2_orderOn_X2_has
theorem dX2_orderOn_0 : decode cX2_orderOn 0 = .ok (.iconst 0, 1) := by decide +kernel
theorem dX2_orderOn_1 : decode cX2_orderOn 1 = .ok (.istore_n 2, 1) := by decide +kernel
theorem dX2_orderOn_2 : decode cX2_orderOn 2 = .ok (.iload_n 2, 1) := by decide +kernel
theorem dX2_orderOn_3 : decode cX2_orderOn 3 = .ok (.bipush 16, 2) := by decide +kernel
theorem dX2_orderOn_5 : decode cX2_orderOn 5 = .ok (.if_icmp .ge 29, 3) := by decide +kernel
theorem dX2_orderOn_8 : decode cX2_orderOn 8 = .ok (.aload_n 0, 1) := by decide +kernel
theorem dX2_orderOn_9 : decode cX2_orderOn 9 = .ok (.iload_n 2, 1) := by decide +kernel
theorem dX2_orderOn_10 : decode cX2_orderOn 10 = .ok (.invokevirtual 76, 3) := by decide +kernel
theorem dX2_orderOn_13 : decode cX2_orderOn 13 = .ok (.ifCond .eq 21, 3) := by decide +kernel
theorem dX2_orderOn_16 : decode cX2_orderOn 16 = .ok (.aload_n 0, 1) := by decide +kernel
theorem dX2_orderOn_17 : decode cX2_orderOn 17 = .ok (.getfield 34, 3) := by decide +kernel
theorem dX2_orderOn_20 : decode cX2_orderOn 20 = .ok (.iload_n 2, 1) := by decide +kernel
theorem dX2_orderOn_21 : decode cX2_orderOn 21 = .ok (.iaload, 1) := by decide +kernel
theorem dX2_orderOn_22 : decode cX2_orderOn 22 = .ok (.iload_n 1, 1) := by decide +kernel
theorem dX2_orderOn_23 : decode cX2_orderOn 23 = .ok (.if_icmp .ne 5, 3) := by decide +kernel
theorem dX2_orderOn_26 : decode cX2_orderOn 26 = .ok (.iload_n 2, 1) := by decide +kernel
theorem dX2_orderOn_27 : decode cX2_orderOn 27 = .ok (.ireturn, 1) := by decide +kernel
theorem dX2_orderOn_28 : decode cX2_orderOn 28 = .ok (.iinc 2 1, 3) := by decide +kernel
theorem dX2_orderOn_31 : decode cX2_orderOn 31 = .ok (.goto (-29), 3) := by decide +kernel
theorem dX2_orderOn_34 : decode cX2_orderOn 34 = .ok (.iconst (-1), 1) := by decide +kernel
theorem dX2_orderOn_35 : decode cX2_orderOn 35 = .ok (.ireturn, 1) := by decide +kernel
set_option maxRecDepth 20000 in
theorem ggX2_isFreeFor_X2_orderOn : GoodIn wsX2_isFreeFor wsX2_orderOn := goodIn_r _ [5, 6, 7, 8, 9, 4, 10, 11, 12, 13, 14, 15, 16, 17, 18, 19, 20, 21, 22, 23, 24, 25, 26, 27] (by decide +kernel) (by decide +kernel)
set_option maxRecDepth 20000 in
theorem gX2_isFreeFor_X2_orderOn : GoodIn wsX2_isFreeFor (wsV RX2 86 RX2 yX2_orderOn wsX2_orderOn) := goodIn_app (goodIn_of _ (by decide +kernel)) ggX2_isFreeFor_X2_orderOn
theorem dX2_isFreeFor_0 : decode cX2_isFreeFor 0 = .ok (.aload_n 0, 1) := by decide +kernel
theorem dX2_isFreeFor_1 : decode cX2_isFreeFor 1 = .ok (.iload_n 2, 1) := by decide +kernel
theorem dX2_isFreeFor_2 : decode cX2_isFreeFor 2 = .ok (.invokevirtual 86, 3) := by decide +kernel
theorem dX2_isFreeFor_5 : decode cX2_isFreeFor 5 = .ok (.istore_n 3, 1) := by decide +kernel
theorem dX2_isFreeFor_6 : decode cX2_isFreeFor 6 = .ok (.iload_n 3, 1) := by decide +kernel
theorem dX2_isFreeFor_7 : decode cX2_isFreeFor 7 = .ok (.iconst (-1), 1) := by decide +kernel
theorem dX2_isFreeFor_8 : decode cX2_isFreeFor 8 = .ok (.if_icmp .eq 8, 3) := by decide +kernel
theorem dX2_isFreeFor_11 : decode cX2_isFreeFor 11 = .ok (.iload_n 3, 1) := by decide +kernel
theorem dX2_isFreeFor_12 : decode cX2_isFreeFor 12 = .ok (.iload_n 1, 1) := by decide +kernel
theorem dX2_isFreeFor_13 : decode cX2_isFreeFor 13 = .ok (.if_icmp .ne 7, 3) := by decide +kernel
theorem dX2_isFreeFor_16 : decode cX2_isFreeFor 16 = .ok (.iconst 1, 1) := by decide +kernel
theorem dX2_isFreeFor_17 : decode cX2_isFreeFor 17 = .ok (.goto 4, 3) := by decide +kernel
theorem dX2_isFreeFor_20 : decode cX2_isFreeFor 20 = .ok (.iconst 0, 1) := by decide +kernel
theorem dX2_isFreeFor_21 : decode cX2_isFreeFor 21 = .ok (.ireturn, 1) := by decide +kernel
theorem dX2_addNew_0 : decode cX2_addNew 0 = .ok (.aload_n 0, 1) := by decide +kernel
theorem dX2_addNew_1 : decode cX2_addNew 1 = .ok (.getfield 59, 3) := by decide +kernel
theorem dX2_addNew_4 : decode cX2_addNew 4 = .ok (.istore 6, 2) := by decide +kernel
theorem dX2_addNew_6 : decode cX2_addNew 6 = .ok (.iload 6, 2) := by decide +kernel
theorem dX2_addNew_8 : decode cX2_addNew 8 = .ok (.ifCond .lt 10, 3) := by decide +kernel
theorem dX2_addNew_11 : decode cX2_addNew 11 = .ok (.iload 6, 2) := by decide +kernel
theorem dX2_addNew_13 : decode cX2_addNew 13 = .ok (.bipush 16, 2) := by decide +kernel
theorem dX2_addNew_15 : decode cX2_addNew 15 = .ok (.if_icmp .lt 5, 3) := by decide +kernel
theorem dX2_addNew_18 : decode cX2_addNew 18 = .ok (.iconst (-1), 1) := by decide +kernel
theorem dX2_addNew_19 : decode cX2_addNew 19 = .ok (.ireturn, 1) := by decide +kernel
theorem dX2_addNew_20 : decode cX2_addNew 20 = .ok (.aload_n 0, 1) := by decide +kernel
theorem dX2_addNew_21 : decode cX2_addNew 21 = .ok (.getfield 18, 3) := by decide +kernel
theorem dX2_addNew_24 : decode cX2_addNew 24 = .ok (.iload 6, 2) := by decide +kernel
theorem dX2_addNew_26 : decode cX2_addNew 26 = .ok (.iload_n 1, 1) := by decide +kernel
theorem dX2_addNew_27 : decode cX2_addNew 27 = .ok (.iastore, 1) := by decide +kernel
theorem dX2_addNew_28 : decode cX2_addNew 28 = .ok (.aload_n 0, 1) := by decide +kernel
theorem dX2_addNew_29 : decode cX2_addNew 29 = .ok (.getfield 22, 3) := by decide +kernel
theorem dX2_addNew_32 : decode cX2_addNew 32 = .ok (.iload 6, 2) := by decide +kernel
theorem dX2_addNew_34 : decode cX2_addNew 34 = .ok (.iload_n 2, 1) := by decide +kernel
theorem dX2_addNew_35 : decode cX2_addNew 35 = .ok (.iastore, 1) := by decide +kernel
theorem dX2_addNew_36 : decode cX2_addNew 36 = .ok (.aload_n 0, 1) := by decide +kernel
theorem dX2_addNew_37 : decode cX2_addNew 37 = .ok (.getfield 25, 3) := by decide +kernel
theorem dX2_addNew_40 : decode cX2_addNew 40 = .ok (.iload 6, 2) := by decide +kernel
theorem dX2_addNew_42 : decode cX2_addNew 42 = .ok (.iload_n 3, 1) := by decide +kernel
theorem dX2_addNew_43 : decode cX2_addNew 43 = .ok (.iastore, 1) := by decide +kernel
theorem dX2_addNew_44 : decode cX2_addNew 44 = .ok (.aload_n 0, 1) := by decide +kernel
theorem dX2_addNew_45 : decode cX2_addNew 45 = .ok (.getfield 28, 3) := by decide +kernel
theorem dX2_addNew_48 : decode cX2_addNew 48 = .ok (.iload 6, 2) := by decide +kernel
theorem dX2_addNew_50 : decode cX2_addNew 50 = .ok (.iload 4, 2) := by decide +kernel
theorem dX2_addNew_52 : decode cX2_addNew 52 = .ok (.iastore, 1) := by decide +kernel
theorem dX2_addNew_53 : decode cX2_addNew 53 = .ok (.aload_n 0, 1) := by decide +kernel
theorem dX2_addNew_54 : decode cX2_addNew 54 = .ok (.getfield 31, 3) := by decide +kernel
theorem dX2_addNew_57 : decode cX2_addNew 57 = .ok (.iload 6, 2) := by decide +kernel
theorem dX2_addNew_59 : decode cX2_addNew 59 = .ok (.iload 5, 2) := by decide +kernel
theorem dX2_addNew_61 : decode cX2_addNew 61 = .ok (.iastore, 1) := by decide +kernel
theorem dX2_addNew_62 : decode cX2_addNew 62 = .ok (.aload_n 0, 1) := by decide +kernel
theorem dX2_addNew_63 : decode cX2_addNew 63 = .ok (.getfield 34, 3) := by decide +kernel
theorem dX2_addNew_66 : decode cX2_addNew 66 = .ok (.iload 6, 2) := by decide +kernel
theorem dX2_addNew_68 : decode cX2_addNew 68 = .ok (.iconst (-1), 1) := by decide +kernel
theorem dX2_addNew_69 : decode cX2_addNew 69 = .ok (.iastore, 1) := by decide +kernel
theorem dX2_addNew_70 : decode cX2_addNew 70 = .ok (.aload_n 0, 1) := by decide +kernel
theorem dX2_addNew_71 : decode cX2_addNew 71 = .ok (.getfield 37, 3) := by decide +kernel
theorem dX2_addNew_74 : decode cX2_addNew 74 = .ok (.iload 6, 2) := by decide +kernel
theorem dX2_addNew_76 : decode cX2_addNew 76 = .ok (.iconst (-1), 1) := by decide +kernel
theorem dX2_addNew_77 : decode cX2_addNew 77 = .ok (.iastore, 1) := by decide +kernel
theorem dX2_addNew_78 : decode cX2_addNew 78 = .ok (.aload_n 0, 1) := by decide +kernel
theorem dX2_addNew_79 : decode cX2_addNew 79 = .ok (.getfield 40, 3) := by decide +kernel
theorem dX2_addNew_82 : decode cX2_addNew 82 = .ok (.iload 6, 2) := by decide +kernel
theorem dX2_addNew_84 : decode cX2_addNew 84 = .ok (.iconst 0, 1) := by decide +kernel
theorem dX2_addNew_85 : decode cX2_addNew 85 = .ok (.iastore, 1) := by decide +kernel
theorem dX2_addNew_86 : decode cX2_addNew 86 = .ok (.aload_n 0, 1) := by decide +kernel
theorem dX2_addNew_87 : decode cX2_addNew 87 = .ok (.getfield 43, 3) := by decide +kernel
theorem dX2_addNew_90 : decode cX2_addNew 90 = .ok (.iload 6, 2) := by decide +kernel
theorem dX2_addNew_92 : decode cX2_addNew 92 = .ok (.iconst (-1), 1) := by decide +kernel
theorem dX2_addNew_93 : decode cX2_addNew 93 = .ok (.iastore, 1) := by decide +kernel
theorem dX2_addNew_94 : decode cX2_addNew 94 = .ok (.aload_n 0, 1) := by decide +kernel
theorem dX2_addNew_95 : decode cX2_addNew 95 = .ok (.dup, 1) := by decide +kernel
theorem dX2_addNew_96 : decode cX2_addNew 96 = .ok (.getfield 59, 3) := by decide +kernel
theorem dX2_addNew_99 : decode cX2_addNew 99 = .ok (.iconst 1, 1) := by decide +kernel
theorem dX2_addNew_100 : decode cX2_addNew 100 = .ok (.iadd, 1) := by decide +kernel
theorem dX2_addNew_101 : decode cX2_addNew 101 = .ok (.putfield 59, 3) := by decide +kernel
theorem dX2_addNew_104 : decode cX2_addNew 104 = .ok (.iload 6, 2) := by decide +kernel
theorem dX2_addNew_106 : decode cX2_addNew 106 = .ok (.ireturn, 1) := by decide +kernel
set_option maxRecDepth 20000 in
theorem ggX2_replace_X2_changeableRow : GoodIn wsX2_replace wsX2_changeableRow := goodIn_r _ [5, 6, 7, 8, 9, 10, 11, 12, 13, 14, 15, 16, 17, 18, 19, 20, 21, 22, 23, 24, 25, 26] (by decide +kernel) (by decide +kernel)
set_option maxRecDepth 20000 in
theorem gX2_replace_X2_changeableRow : GoodIn wsX2_replace (wsV RX2 93 RX2 yX2_changeableRow wsX2_changeableRow) := goodIn_app (goodIn_of _ (by decide +kernel)) ggX2_replace_X2_changeableRow
theorem dX2_replace_0 : decode cX2_replace 0 = .ok (.aload_n 0, 1) := by decide +kernel
theorem dX2_replace_1 : decode cX2_replace 1 = .ok (.iload_n 2, 1) := by decide +kernel
theorem dX2_replace_2 : decode cX2_replace 2 = .ok (.invokevirtual 93, 3) := by decide +kernel
theorem dX2_replace_5 : decode cX2_replace 5 = .ok (.astore 4, 2) := by decide +kernel
theorem dX2_replace_7 : decode cX2_replace 7 = .ok (.aload 4, 2) := by decide +kernel
theorem dX2_replace_9 : decode cX2_replace 9 = .ok (.ifnull 14, 3) := by decide +kernel
theorem dX2_replace_12 : decode cX2_replace 12 = .ok (.iload_n 1, 1) := by decide +kernel
theorem dX2_replace_13 : decode cX2_replace 13 = .ok (.ifCond .lt 10, 3) := by decide +kernel
theorem dX2_replace_16 : decode cX2_replace 16 = .ok (.iload_n 1, 1) := by decide +kernel
theorem dX2_replace_17 : decode cX2_replace 17 = .ok (.aload 4, 2) := by decide +kernel
theorem dX2_replace_19 : decode cX2_replace 19 = .ok (.arraylength, 1) := by decide +kernel
theorem dX2_replace_20 : decode cX2_replace 20 = .ok (.if_icmp .lt 5, 3) := by decide +kernel
theorem dX2_replace_23 : decode cX2_replace 23 = .ok (.iconst (-1), 1) := by decide +kernel
theorem dX2_replace_24 : decode cX2_replace 24 = .ok (.ireturn, 1) := by decide +kernel
theorem dX2_replace_25 : decode cX2_replace 25 = .ok (.aload 4, 2) := by decide +kernel
theorem dX2_replace_27 : decode cX2_replace 27 = .ok (.iload_n 1, 1) := by decide +kernel
theorem dX2_replace_28 : decode cX2_replace 28 = .ok (.iaload, 1) := by decide +kernel
theorem dX2_replace_29 : decode cX2_replace 29 = .ok (.istore 5, 2) := by decide +kernel
theorem dX2_replace_31 : decode cX2_replace 31 = .ok (.aload 4, 2) := by decide +kernel
theorem dX2_replace_33 : decode cX2_replace 33 = .ok (.iload_n 1, 1) := by decide +kernel
theorem dX2_replace_34 : decode cX2_replace 34 = .ok (.iload_n 3, 1) := by decide +kernel
theorem dX2_replace_35 : decode cX2_replace 35 = .ok (.iastore, 1) := by decide +kernel
theorem dX2_replace_36 : decode cX2_replace 36 = .ok (.iload 5, 2) := by decide +kernel
theorem dX2_replace_38 : decode cX2_replace 38 = .ok (.ireturn, 1) := by decide +kernel
theorem dX2_changeableRow_0 : decode cX2_changeableRow 0 = .ok (.iload_n 1, 1) := by decide +kernel
theorem dX2_changeableRow_1 : decode cX2_changeableRow 1 = .ok (.tableswitch 60 0 4 #[35, 40, 45, 50, 55], 35) := by decide +kernel
theorem dX2_changeableRow_36 : decode cX2_changeableRow 36 = .ok (.aload_n 0, 1) := by decide +kernel
theorem dX2_changeableRow_37 : decode cX2_changeableRow 37 = .ok (.getfield 18, 3) := by decide +kernel
theorem dX2_changeableRow_40 : decode cX2_changeableRow 40 = .ok (.areturn, 1) := by decide +kernel
theorem dX2_changeableRow_41 : decode cX2_changeableRow 41 = .ok (.aload_n 0, 1) := by decide +kernel
theorem dX2_changeableRow_42 : decode cX2_changeableRow 42 = .ok (.getfield 22, 3) := by decide +kernel
theorem dX2_changeableRow_45 : decode cX2_changeableRow 45 = .ok (.areturn, 1) := by decide +kernel
theorem dX2_changeableRow_46 : decode cX2_changeableRow 46 = .ok (.aload_n 0, 1) := by decide +kernel
theorem dX2_changeableRow_47 : decode cX2_changeableRow 47 = .ok (.getfield 25, 3) := by decide +kernel
theorem dX2_changeableRow_50 : decode cX2_changeableRow 50 = .ok (.areturn, 1) := by decide +kernel
theorem dX2_changeableRow_51 : decode cX2_changeableRow 51 = .ok (.aload_n 0, 1) := by decide +kernel
theorem dX2_changeableRow_52 : decode cX2_changeableRow 52 = .ok (.getfield 28, 3) := by decide +kernel
theorem dX2_changeableRow_55 : decode cX2_changeableRow 55 = .ok (.areturn, 1) := by decide +kernel
theorem dX2_changeableRow_56 : decode cX2_changeableRow 56 = .ok (.aload_n 0, 1) := by decide +kernel
theorem dX2_changeableRow_57 : decode cX2_changeableRow 57 = .ok (.getfield 31, 3) := by decide +kernel
theorem dX2_changeableRow_60 : decode cX2_changeableRow 60 = .ok (.areturn, 1) := by decide +kernel
theorem dX2_changeableRow_61 : decode cX2_changeableRow 61 = .ok (.aconst_null, 1) := by decide +kernel
theorem dX2_changeableRow_62 : decode cX2_changeableRow 62 = .ok (.areturn, 1) := by decide +kernel
set_option maxRecDepth 20000 in
theorem ggX2_put_X2_refund : GoodIn wsX2_put wsX2_refund := goodIn_r _ [7, 8, 9, 10, 11, 12, 13, 14, 15, 16, 17, 18, 19, 20, 21, 22, 23, 24, 25, 26, 27, 28, 29] (by decide +kernel) (by decide +kernel)
set_option maxRecDepth 20000 in
theorem gX2_put_X2_refund : GoodIn wsX2_put (wsV RX2 97 RX2 yX2_refund wsX2_refund) := goodIn_app (goodIn_of _ (by decide +kernel)) ggX2_put_X2_refund
theorem dX2_put_0 : decode cX2_put 0 = .ok (.aload_n 0, 1) := by decide +kernel
theorem dX2_put_1 : decode cX2_put 1 = .ok (.iload_n 1, 1) := by decide +kernel
theorem dX2_put_2 : decode cX2_put 2 = .ok (.invokevirtual 97, 3) := by decide +kernel
theorem dX2_put_5 : decode cX2_put 5 = .ok (.istore_n 3, 1) := by decide +kernel
theorem dX2_put_6 : decode cX2_put 6 = .ok (.aload_n 0, 1) := by decide +kernel
theorem dX2_put_7 : decode cX2_put 7 = .ok (.getfield 34, 3) := by decide +kernel
theorem dX2_put_10 : decode cX2_put 10 = .ok (.iload_n 1, 1) := by decide +kernel
theorem dX2_put_11 : decode cX2_put 11 = .ok (.iload_n 2, 1) := by decide +kernel
theorem dX2_put_12 : decode cX2_put 12 = .ok (.iastore, 1) := by decide +kernel
theorem dX2_put_13 : decode cX2_put 13 = .ok (.aload_n 0, 1) := by decide +kernel
theorem dX2_put_14 : decode cX2_put 14 = .ok (.getfield 37, 3) := by decide +kernel
theorem dX2_put_17 : decode cX2_put 17 = .ok (.iload_n 1, 1) := by decide +kernel
theorem dX2_put_18 : decode cX2_put 18 = .ok (.iconst (-1), 1) := by decide +kernel
theorem dX2_put_19 : decode cX2_put 19 = .ok (.iastore, 1) := by decide +kernel
theorem dX2_put_20 : decode cX2_put 20 = .ok (.iload_n 3, 1) := by decide +kernel
theorem dX2_put_21 : decode cX2_put 21 = .ok (.ireturn, 1) := by decide +kernel
set_option maxRecDepth 20000 in
theorem ggX2_refund_X4_isAuthor : GoodIn wsX2_refund wsX4_isAuthor := goodIn_r _ [6] (by decide +kernel) (by decide +kernel)
set_option maxRecDepth 20000 in
theorem gX2_refund_X4_isAuthor_n100 : GoodIn wsX2_refund (wsX4_isAuthor) := ggX2_refund_X4_isAuthor
theorem dX2_refund_0 : decode cX2_refund 0 = .ok (.aload_n 0, 1) := by decide +kernel
theorem dX2_refund_1 : decode cX2_refund 1 = .ok (.getfield 40, 3) := by decide +kernel
theorem dX2_refund_4 : decode cX2_refund 4 = .ok (.iload_n 1, 1) := by decide +kernel
theorem dX2_refund_5 : decode cX2_refund 5 = .ok (.iaload, 1) := by decide +kernel
theorem dX2_refund_6 : decode cX2_refund 6 = .ok (.istore_n 2, 1) := by decide +kernel
theorem dX2_refund_7 : decode cX2_refund 7 = .ok (.aload_n 0, 1) := by decide +kernel
theorem dX2_refund_8 : decode cX2_refund 8 = .ok (.getfield 40, 3) := by decide +kernel
theorem dX2_refund_11 : decode cX2_refund 11 = .ok (.iload_n 1, 1) := by decide +kernel
theorem dX2_refund_12 : decode cX2_refund 12 = .ok (.iconst 0, 1) := by decide +kernel
theorem dX2_refund_13 : decode cX2_refund 13 = .ok (.iastore, 1) := by decide +kernel
theorem dX2_refund_14 : decode cX2_refund 14 = .ok (.aload_n 0, 1) := by decide +kernel
theorem dX2_refund_15 : decode cX2_refund 15 = .ok (.getfield 18, 3) := by decide +kernel
theorem dX2_refund_18 : decode cX2_refund 18 = .ok (.iload_n 1, 1) := by decide +kernel
theorem dX2_refund_19 : decode cX2_refund 19 = .ok (.iaload, 1) := by decide +kernel
theorem dX2_refund_20 : decode cX2_refund 20 = .ok (.invokestatic 100, 3) := by decide +kernel
theorem dX2_refund_23 : decode cX2_refund 23 = .ok (.ifCond .eq 18, 3) := by decide +kernel
theorem dX2_refund_26 : decode cX2_refund 26 = .ok (.aload_n 0, 1) := by decide +kernel
theorem dX2_refund_27 : decode cX2_refund 27 = .ok (.getfield 49, 3) := by decide +kernel
theorem dX2_refund_30 : decode cX2_refund 30 = .ok (.aload_n 0, 1) := by decide +kernel
theorem dX2_refund_31 : decode cX2_refund 31 = .ok (.getfield 18, 3) := by decide +kernel
theorem dX2_refund_34 : decode cX2_refund 34 = .ok (.iload_n 1, 1) := by decide +kernel
theorem dX2_refund_35 : decode cX2_refund 35 = .ok (.iaload, 1) := by decide +kernel
theorem dX2_refund_36 : decode cX2_refund 36 = .ok (.dup2, 1) := by decide +kernel
theorem dX2_refund_37 : decode cX2_refund 37 = .ok (.iaload, 1) := by decide +kernel
theorem dX2_refund_38 : decode cX2_refund 38 = .ok (.iload_n 2, 1) := by decide +kernel
theorem dX2_refund_39 : decode cX2_refund 39 = .ok (.iadd, 1) := by decide +kernel
theorem dX2_refund_40 : decode cX2_refund 40 = .ok (.iastore, 1) := by decide +kernel
theorem dX2_refund_41 : decode cX2_refund 41 = .ok (.iload_n 2, 1) := by decide +kernel
theorem dX2_refund_42 : decode cX2_refund 42 = .ok (.ireturn, 1) := by decide +kernel
set_option maxRecDepth 20000 in
theorem ggX2_takeAllOff_X2_has : GoodIn wsX2_takeAllOff wsX2_has := goodIn_r _ [5, 6, 23, 24, 25, 26, 27, 28, 29, 30, 31, 32, 33, 34, 35, 36, 37, 38] (by decide +kernel) (by decide +kernel)
set_option maxRecDepth 20000 in
theorem gX2_takeAllOff_X2_has : GoodIn wsX2_takeAllOff (wsV RX2 76 RX2 yX2_has wsX2_has) := goodIn_app (goodIn_of _ (by decide +kernel)) ggX2_takeAllOff_X2_has
set_option maxRecDepth 20000 in
theorem ggX2_takeAllOff_X2_put : GoodIn wsX2_takeAllOff wsX2_put := goodIn_r _ [10, 11, 12, 13, 14, 15, 4, 16, 17, 18, 19, 20, 21, 22, 23, 24, 25, 26, 27, 28, 29, 30, 31, 32, 33, 34, 35, 36, 37, 38] (by decide +kernel) (by decide +kernel)
set_option maxRecDepth 20000 in
theorem gX2_takeAllOff_X2_put : GoodIn wsX2_takeAllOff (wsV RX2 103 RX2 yX2_put wsX2_put) := goodIn_app (goodIn_of _ (by decide +kernel)) ggX2_takeAllOff_X2_put
theorem dX2_takeAllOff_0 : decode cX2_takeAllOff 0 = .ok (.iconst 0, 1) := by decide +kernel
theorem dX2_takeAllOff_1 : decode cX2_takeAllOff 1 = .ok (.istore_n 1, 1) := by decide +kernel
theorem dX2_takeAllOff_2 : decode cX2_takeAllOff 2 = .ok (.iload_n 1, 1) := by decide +kernel
theorem dX2_takeAllOff_3 : decode cX2_takeAllOff 3 = .ok (.bipush 16, 2) := by decide +kernel
theorem dX2_takeAllOff_5 : decode cX2_takeAllOff 5 = .ok (.if_icmp .ge 24, 3) := by decide +kernel
theorem dX2_takeAllOff_8 : decode cX2_takeAllOff 8 = .ok (.aload_n 0, 1) := by decide +kernel
theorem dX2_takeAllOff_9 : decode cX2_takeAllOff 9 = .ok (.iload_n 1, 1) := by decide +kernel
theorem dX2_takeAllOff_10 : decode cX2_takeAllOff 10 = .ok (.invokevirtual 76, 3) := by decide +kernel
theorem dX2_takeAllOff_13 : decode cX2_takeAllOff 13 = .ok (.ifCond .eq 16, 3) := by decide +kernel
theorem dX2_takeAllOff_16 : decode cX2_takeAllOff 16 = .ok (.aload_n 0, 1) := by decide +kernel
theorem dX2_takeAllOff_17 : decode cX2_takeAllOff 17 = .ok (.iload_n 1, 1) := by decide +kernel
theorem dX2_takeAllOff_18 : decode cX2_takeAllOff 18 = .ok (.iconst (-1), 1) := by decide +kernel
theorem dX2_takeAllOff_19 : decode cX2_takeAllOff 19 = .ok (.invokevirtual 103, 3) := by decide +kernel
theorem dX2_takeAllOff_22 : decode cX2_takeAllOff 22 = .ok (.pop, 1) := by decide +kernel
theorem dX2_takeAllOff_23 : decode cX2_takeAllOff 23 = .ok (.iinc 1 1, 3) := by decide +kernel
theorem dX2_takeAllOff_26 : decode cX2_takeAllOff 26 = .ok (.goto (-24), 3) := by decide +kernel
theorem dX2_takeAllOff_29 : decode cX2_takeAllOff 29 = .ok (.return_, 1) := by decide +kernel
set_option maxRecDepth 20000 in
theorem ggX2_layAll_X2_takeAllOff : GoodIn wsX2_layAll wsX2_takeAllOff := goodIn_r _ [6, 7, 8, 9, 5, 10, 11, 12, 13, 14, 15, 16, 1, 17, 18, 19, 20, 21, 22, 23, 24, 25, 26, 60, 61, 62, 63, 64, 65, 66, 67, 68, 69, 70, 71, 72, 73, 74, 75] (by decide +kernel) (by decide +kernel)
set_option maxRecDepth 20000 in
theorem gX2_layAll_X2_takeAllOff : GoodIn wsX2_layAll (wsV RX2 106 RX2 yX2_takeAllOff wsX2_takeAllOff) := goodIn_app (goodIn_of _ (by decide +kernel)) ggX2_layAll_X2_takeAllOff
set_option maxRecDepth 20000 in
theorem ggX2_layAll_X2_laidBehind : GoodIn wsX2_layAll wsX2_laidBehind := goodIn_r _ [30, 31, 7, 8, 9, 5, 10, 11, 60, 61, 62, 63, 64, 65, 66, 67, 68, 69, 70, 71, 72, 73, 74, 75] (by decide +kernel) (by decide +kernel)
set_option maxRecDepth 20000 in
theorem gX2_layAll_X2_laidBehind : GoodIn wsX2_layAll (wsV RX2 109 RX2 yX2_laidBehind wsX2_laidBehind) := goodIn_app (goodIn_of _ (by decide +kernel)) ggX2_layAll_X2_laidBehind
set_option maxRecDepth 20000 in
theorem ggX2_layAll_X2_has : GoodIn wsX2_layAll wsX2_has := goodIn_r _ [10, 11, 60, 61, 62, 63, 64, 65, 66, 67, 68, 69, 70, 71, 72, 73, 74, 75] (by decide +kernel) (by decide +kernel)
set_option maxRecDepth 20000 in
theorem gX2_layAll_X2_has : GoodIn wsX2_layAll (wsV RX2 76 RX2 yX2_has wsX2_has) := goodIn_app (goodIn_of _ (by decide +kernel)) ggX2_layAll_X2_has
set_option maxRecDepth 20000 in
theorem ggX2_layAll_X2_layOne : GoodIn wsX2_layAll wsX2_layOne := goodIn_r _ [35, 36, 16, 1, 21, 31, 22, 37, 38, 39, 40, 5, 41, 42, 43, 7, 8, 9, 10, 11, 44, 45, 46, 47, 48, 49, 50, 51, 52, 53, 54, 55, 56, 57, 58, 59, 24, 25, 26, 60, 61, 62, 63, 64, 65, 66, 67, 68, 69, 70, 71, 72, 73, 74, 75] (by decide +kernel) (by decide +kernel)
set_option maxRecDepth 20000 in
theorem gX2_layAll_X2_layOne : GoodIn wsX2_layAll (wsV RX2 112 RX2 yX2_layOne wsX2_layOne) := goodIn_app (goodIn_of _ (by decide +kernel)) ggX2_layAll_X2_layOne
theorem dX2_layAll_0 : decode cX2_layAll 0 = .ok (.aload_n 0, 1) := by decide +kernel
theorem dX2_layAll_1 : decode cX2_layAll 1 = .ok (.invokevirtual 106, 3) := by decide +kernel
theorem dX2_layAll_4 : decode cX2_layAll 4 = .ok (.iconst 0, 1) := by decide +kernel
theorem dX2_layAll_5 : decode cX2_layAll 5 = .ok (.istore_n 1, 1) := by decide +kernel
theorem dX2_layAll_6 : decode cX2_layAll 6 = .ok (.aload_n 0, 1) := by decide +kernel
theorem dX2_layAll_7 : decode cX2_layAll 7 = .ok (.iconst (-1), 1) := by decide +kernel
theorem dX2_layAll_8 : decode cX2_layAll 8 = .ok (.invokevirtual 109, 3) := by decide +kernel
theorem dX2_layAll_11 : decode cX2_layAll 11 = .ok (.istore_n 2, 1) := by decide +kernel
theorem dX2_layAll_12 : decode cX2_layAll 12 = .ok (.iconst 0, 1) := by decide +kernel
theorem dX2_layAll_13 : decode cX2_layAll 13 = .ok (.istore_n 3, 1) := by decide +kernel
theorem dX2_layAll_14 : decode cX2_layAll 14 = .ok (.iload_n 3, 1) := by decide +kernel
theorem dX2_layAll_15 : decode cX2_layAll 15 = .ok (.bipush 16, 2) := by decide +kernel
theorem dX2_layAll_17 : decode cX2_layAll 17 = .ok (.if_icmp .ge 47, 3) := by decide +kernel
theorem dX2_layAll_20 : decode cX2_layAll 20 = .ok (.aload_n 0, 1) := by decide +kernel
theorem dX2_layAll_21 : decode cX2_layAll 21 = .ok (.iload_n 2, 1) := by decide +kernel
theorem dX2_layAll_22 : decode cX2_layAll 22 = .ok (.invokevirtual 76, 3) := by decide +kernel
theorem dX2_layAll_25 : decode cX2_layAll 25 = .ok (.ifCond .eq 39, 3) := by decide +kernel
theorem dX2_layAll_28 : decode cX2_layAll 28 = .ok (.aload_n 0, 1) := by decide +kernel
theorem dX2_layAll_29 : decode cX2_layAll 29 = .ok (.iload_n 2, 1) := by decide +kernel
theorem dX2_layAll_30 : decode cX2_layAll 30 = .ok (.invokevirtual 112, 3) := by decide +kernel
theorem dX2_layAll_33 : decode cX2_layAll 33 = .ok (.aload_n 0, 1) := by decide +kernel
theorem dX2_layAll_34 : decode cX2_layAll 34 = .ok (.getfield 37, 3) := by decide +kernel
theorem dX2_layAll_37 : decode cX2_layAll 37 = .ok (.iload_n 2, 1) := by decide +kernel
theorem dX2_layAll_38 : decode cX2_layAll 38 = .ok (.iaload, 1) := by decide +kernel
theorem dX2_layAll_39 : decode cX2_layAll 39 = .ok (.iconst (-1), 1) := by decide +kernel
theorem dX2_layAll_40 : decode cX2_layAll 40 = .ok (.if_icmp .eq 12, 3) := by decide +kernel
theorem dX2_layAll_43 : decode cX2_layAll 43 = .ok (.iload_n 1, 1) := by decide +kernel
theorem dX2_layAll_44 : decode cX2_layAll 44 = .ok (.aload_n 0, 1) := by decide +kernel
theorem dX2_layAll_45 : decode cX2_layAll 45 = .ok (.getfield 37, 3) := by decide +kernel
theorem dX2_layAll_48 : decode cX2_layAll 48 = .ok (.iload_n 2, 1) := by decide +kernel
theorem dX2_layAll_49 : decode cX2_layAll 49 = .ok (.iaload, 1) := by decide +kernel
theorem dX2_layAll_50 : decode cX2_layAll 50 = .ok (.iadd, 1) := by decide +kernel
theorem dX2_layAll_51 : decode cX2_layAll 51 = .ok (.istore_n 1, 1) := by decide +kernel
theorem dX2_layAll_52 : decode cX2_layAll 52 = .ok (.aload_n 0, 1) := by decide +kernel
theorem dX2_layAll_53 : decode cX2_layAll 53 = .ok (.iload_n 2, 1) := by decide +kernel
theorem dX2_layAll_54 : decode cX2_layAll 54 = .ok (.invokevirtual 109, 3) := by decide +kernel
theorem dX2_layAll_57 : decode cX2_layAll 57 = .ok (.istore_n 2, 1) := by decide +kernel
theorem dX2_layAll_58 : decode cX2_layAll 58 = .ok (.iinc 3 1, 3) := by decide +kernel
theorem dX2_layAll_61 : decode cX2_layAll 61 = .ok (.goto (-47), 3) := by decide +kernel
theorem dX2_layAll_64 : decode cX2_layAll 64 = .ok (.iload_n 1, 1) := by decide +kernel
theorem dX2_layAll_65 : decode cX2_layAll 65 = .ok (.ireturn, 1) := by decide +kernel
set_option maxRecDepth 20000 in
theorem ggX2_laidBehind_X2_has : GoodIn wsX2_laidBehind wsX2_has := goodIn_r _ [6, 7, 8, 9, 10, 11, 12, 13, 14, 15, 16, 17, 18, 19, 20, 21, 22, 23] (by decide +kernel) (by decide +kernel)
set_option maxRecDepth 20000 in
theorem gX2_laidBehind_X2_has : GoodIn wsX2_laidBehind (wsV RX2 76 RX2 yX2_has wsX2_has) := goodIn_app (goodIn_of _ (by decide +kernel)) ggX2_laidBehind_X2_has
theorem dX2_laidBehind_0 : decode cX2_laidBehind 0 = .ok (.iconst (-1), 1) := by decide +kernel
theorem dX2_laidBehind_1 : decode cX2_laidBehind 1 = .ok (.istore_n 2, 1) := by decide +kernel
theorem dX2_laidBehind_2 : decode cX2_laidBehind 2 = .ok (.iconst 0, 1) := by decide +kernel
theorem dX2_laidBehind_3 : decode cX2_laidBehind 3 = .ok (.istore_n 3, 1) := by decide +kernel
theorem dX2_laidBehind_4 : decode cX2_laidBehind 4 = .ok (.iload_n 3, 1) := by decide +kernel
theorem dX2_laidBehind_5 : decode cX2_laidBehind 5 = .ok (.bipush 16, 2) := by decide +kernel
theorem dX2_laidBehind_7 : decode cX2_laidBehind 7 = .ok (.if_icmp .ge 94, 3) := by decide +kernel
theorem dX2_laidBehind_10 : decode cX2_laidBehind 10 = .ok (.aload_n 0, 1) := by decide +kernel
theorem dX2_laidBehind_11 : decode cX2_laidBehind 11 = .ok (.iload_n 3, 1) := by decide +kernel
theorem dX2_laidBehind_12 : decode cX2_laidBehind 12 = .ok (.invokevirtual 76, 3) := by decide +kernel
theorem dX2_laidBehind_15 : decode cX2_laidBehind 15 = .ok (.ifCond .eq 86, 3) := by decide +kernel
theorem dX2_laidBehind_18 : decode cX2_laidBehind 18 = .ok (.aload_n 0, 1) := by decide +kernel
theorem dX2_laidBehind_19 : decode cX2_laidBehind 19 = .ok (.iload_n 1, 1) := by decide +kernel
theorem dX2_laidBehind_20 : decode cX2_laidBehind 20 = .ok (.invokevirtual 76, 3) := by decide +kernel
theorem dX2_laidBehind_23 : decode cX2_laidBehind 23 = .ok (.ifCond .eq 38, 3) := by decide +kernel
theorem dX2_laidBehind_26 : decode cX2_laidBehind 26 = .ok (.aload_n 0, 1) := by decide +kernel
theorem dX2_laidBehind_27 : decode cX2_laidBehind 27 = .ok (.getfield 31, 3) := by decide +kernel
theorem dX2_laidBehind_30 : decode cX2_laidBehind 30 = .ok (.iload_n 3, 1) := by decide +kernel
theorem dX2_laidBehind_31 : decode cX2_laidBehind 31 = .ok (.iaload, 1) := by decide +kernel
theorem dX2_laidBehind_32 : decode cX2_laidBehind 32 = .ok (.aload_n 0, 1) := by decide +kernel
theorem dX2_laidBehind_33 : decode cX2_laidBehind 33 = .ok (.getfield 31, 3) := by decide +kernel
theorem dX2_laidBehind_36 : decode cX2_laidBehind 36 = .ok (.iload_n 1, 1) := by decide +kernel
theorem dX2_laidBehind_37 : decode cX2_laidBehind 37 = .ok (.iaload, 1) := by decide +kernel
theorem dX2_laidBehind_38 : decode cX2_laidBehind 38 = .ok (.if_icmp .lt 23, 3) := by decide +kernel
theorem dX2_laidBehind_41 : decode cX2_laidBehind 41 = .ok (.aload_n 0, 1) := by decide +kernel
theorem dX2_laidBehind_42 : decode cX2_laidBehind 42 = .ok (.getfield 31, 3) := by decide +kernel
theorem dX2_laidBehind_45 : decode cX2_laidBehind 45 = .ok (.iload_n 3, 1) := by decide +kernel
theorem dX2_laidBehind_46 : decode cX2_laidBehind 46 = .ok (.iaload, 1) := by decide +kernel
theorem dX2_laidBehind_47 : decode cX2_laidBehind 47 = .ok (.aload_n 0, 1) := by decide +kernel
theorem dX2_laidBehind_48 : decode cX2_laidBehind 48 = .ok (.getfield 31, 3) := by decide +kernel
theorem dX2_laidBehind_51 : decode cX2_laidBehind 51 = .ok (.iload_n 1, 1) := by decide +kernel
theorem dX2_laidBehind_52 : decode cX2_laidBehind 52 = .ok (.iaload, 1) := by decide +kernel
theorem dX2_laidBehind_53 : decode cX2_laidBehind 53 = .ok (.if_icmp .ne 12, 3) := by decide +kernel
theorem dX2_laidBehind_56 : decode cX2_laidBehind 56 = .ok (.iload_n 3, 1) := by decide +kernel
theorem dX2_laidBehind_57 : decode cX2_laidBehind 57 = .ok (.iload_n 1, 1) := by decide +kernel
theorem dX2_laidBehind_58 : decode cX2_laidBehind 58 = .ok (.if_icmp .le 7, 3) := by decide +kernel
theorem dX2_laidBehind_61 : decode cX2_laidBehind 61 = .ok (.iconst 1, 1) := by decide +kernel
theorem dX2_laidBehind_62 : decode cX2_laidBehind 62 = .ok (.goto 4, 3) := by decide +kernel
theorem dX2_laidBehind_65 : decode cX2_laidBehind 65 = .ok (.iconst 0, 1) := by decide +kernel
theorem dX2_laidBehind_66 : decode cX2_laidBehind 66 = .ok (.istore 4, 2) := by decide +kernel
theorem dX2_laidBehind_68 : decode cX2_laidBehind 68 = .ok (.iload 4, 2) := by decide +kernel
theorem dX2_laidBehind_70 : decode cX2_laidBehind 70 = .ok (.ifCond .eq 25, 3) := by decide +kernel
theorem dX2_laidBehind_73 : decode cX2_laidBehind 73 = .ok (.iload_n 2, 1) := by decide +kernel
theorem dX2_laidBehind_74 : decode cX2_laidBehind 74 = .ok (.iconst (-1), 1) := by decide +kernel
theorem dX2_laidBehind_75 : decode cX2_laidBehind 75 = .ok (.if_icmp .eq 18, 3) := by decide +kernel
theorem dX2_laidBehind_78 : decode cX2_laidBehind 78 = .ok (.aload_n 0, 1) := by decide +kernel
theorem dX2_laidBehind_79 : decode cX2_laidBehind 79 = .ok (.getfield 31, 3) := by decide +kernel
theorem dX2_laidBehind_82 : decode cX2_laidBehind 82 = .ok (.iload_n 3, 1) := by decide +kernel
theorem dX2_laidBehind_83 : decode cX2_laidBehind 83 = .ok (.iaload, 1) := by decide +kernel
theorem dX2_laidBehind_84 : decode cX2_laidBehind 84 = .ok (.aload_n 0, 1) := by decide +kernel
theorem dX2_laidBehind_85 : decode cX2_laidBehind 85 = .ok (.getfield 31, 3) := by decide +kernel
theorem dX2_laidBehind_88 : decode cX2_laidBehind 88 = .ok (.iload_n 2, 1) := by decide +kernel
theorem dX2_laidBehind_89 : decode cX2_laidBehind 89 = .ok (.iaload, 1) := by decide +kernel
theorem dX2_laidBehind_90 : decode cX2_laidBehind 90 = .ok (.if_icmp .le 5, 3) := by decide +kernel
theorem dX2_laidBehind_93 : decode cX2_laidBehind 93 = .ok (.iload_n 3, 1) := by decide +kernel
theorem dX2_laidBehind_94 : decode cX2_laidBehind 94 = .ok (.istore_n 2, 1) := by decide +kernel
theorem dX2_laidBehind_95 : decode cX2_laidBehind 95 = .ok (.iinc 3 1, 3) := by decide +kernel
theorem dX2_laidBehind_98 : decode cX2_laidBehind 98 = .ok (.goto (-94), 3) := by decide +kernel
theorem dX2_laidBehind_101 : decode cX2_laidBehind 101 = .ok (.iload_n 2, 1) := by decide +kernel
theorem dX2_laidBehind_102 : decode cX2_laidBehind 102 = .ok (.ireturn, 1) := by decide +kernel
set_option maxRecDepth 20000 in
theorem ggX2_layOne_X2_wantedPlace : GoodIn wsX2_layOne wsX2_wantedPlace := goodIn_r _ [12, 2, 13, 14, 15, 16, 17, 11, 18, 19, 20, 21, 22, 23, 1, 24, 25, 26, 27, 28, 29, 30, 31, 39, 40, 41, 42, 43, 44, 45, 46, 47, 48, 49, 50, 51, 52, 53, 54] (by decide +kernel) (by decide +kernel)
set_option maxRecDepth 20000 in
theorem gX2_layOne_X2_wantedPlace : GoodIn wsX2_layOne (wsV RX2 116 RX2 yX2_wantedPlace wsX2_wantedPlace) := goodIn_app (goodIn_of _ (by decide +kernel)) ggX2_layOne_X2_wantedPlace
set_option maxRecDepth 20000 in
theorem ggX2_layOne_X2_around : GoodIn wsX2_layOne wsX2_around := goodIn_r _ [23, 1, 24, 25, 26, 27, 39, 40, 41, 42, 43, 44, 45, 46, 47, 48, 49, 50, 51, 52, 53, 54] (by decide +kernel) (by decide +kernel)
set_option maxRecDepth 20000 in
theorem gX2_layOne_X2_around : GoodIn wsX2_layOne (wsV RX2 119 RX2 yX2_around wsX2_around) := goodIn_app (goodIn_of _ (by decide +kernel)) ggX2_layOne_X2_around
set_option maxRecDepth 20000 in
theorem ggX2_layOne_X2_orderOn : GoodIn wsX2_layOne wsX2_orderOn := goodIn_r _ [35, 2, 15, 16, 17, 11, 18, 19, 39, 40, 41, 42, 43, 44, 45, 46, 47, 48, 49, 50, 51, 52, 53, 54] (by decide +kernel) (by decide +kernel)
set_option maxRecDepth 20000 in
theorem gX2_layOne_X2_orderOn : GoodIn wsX2_layOne (wsV RX2 86 RX2 yX2_orderOn wsX2_orderOn) := goodIn_app (goodIn_of _ (by decide +kernel)) ggX2_layOne_X2_orderOn
set_option maxRecDepth 20000 in
theorem ggX2_layOne_X4_isAuthor : GoodIn wsX2_layOne wsX4_isAuthor := goodIn_r _ [38] (by decide +kernel) (by decide +kernel)
set_option maxRecDepth 20000 in
theorem gX2_layOne_X4_isAuthor_n100 : GoodIn wsX2_layOne (wsX4_isAuthor) := ggX2_layOne_X4_isAuthor
theorem dX2_layOne_0 : decode cX2_layOne 0 = .ok (.aload_n 0, 1) := by decide +kernel
theorem dX2_layOne_1 : decode cX2_layOne 1 = .ok (.iload_n 1, 1) := by decide +kernel
theorem dX2_layOne_2 : decode cX2_layOne 2 = .ok (.invokevirtual 116, 3) := by decide +kernel
theorem dX2_layOne_5 : decode cX2_layOne 5 = .ok (.istore_n 2, 1) := by decide +kernel
theorem dX2_layOne_6 : decode cX2_layOne 6 = .ok (.iconst 0, 1) := by decide +kernel
theorem dX2_layOne_7 : decode cX2_layOne 7 = .ok (.istore_n 3, 1) := by decide +kernel
theorem dX2_layOne_8 : decode cX2_layOne 8 = .ok (.iload_n 3, 1) := by decide +kernel
theorem dX2_layOne_9 : decode cX2_layOne 9 = .ok (.aload_n 0, 1) := by decide +kernel
theorem dX2_layOne_10 : decode cX2_layOne 10 = .ok (.getfield 9, 3) := by decide +kernel
theorem dX2_layOne_13 : decode cX2_layOne 13 = .ok (.if_icmp .ge 88, 3) := by decide +kernel
theorem dX2_layOne_16 : decode cX2_layOne 16 = .ok (.aload_n 0, 1) := by decide +kernel
theorem dX2_layOne_17 : decode cX2_layOne 17 = .ok (.iload_n 2, 1) := by decide +kernel
theorem dX2_layOne_18 : decode cX2_layOne 18 = .ok (.iload_n 3, 1) := by decide +kernel
theorem dX2_layOne_19 : decode cX2_layOne 19 = .ok (.iadd, 1) := by decide +kernel
theorem dX2_layOne_20 : decode cX2_layOne 20 = .ok (.invokevirtual 119, 3) := by decide +kernel
theorem dX2_layOne_23 : decode cX2_layOne 23 = .ok (.istore 4, 2) := by decide +kernel
theorem dX2_layOne_25 : decode cX2_layOne 25 = .ok (.aload_n 0, 1) := by decide +kernel
theorem dX2_layOne_26 : decode cX2_layOne 26 = .ok (.iload 4, 2) := by decide +kernel
theorem dX2_layOne_28 : decode cX2_layOne 28 = .ok (.invokevirtual 86, 3) := by decide +kernel
theorem dX2_layOne_31 : decode cX2_layOne 31 = .ok (.iconst (-1), 1) := by decide +kernel
theorem dX2_layOne_32 : decode cX2_layOne 32 = .ok (.if_icmp .ne 63, 3) := by decide +kernel
theorem dX2_layOne_35 : decode cX2_layOne 35 = .ok (.aload_n 0, 1) := by decide +kernel
theorem dX2_layOne_36 : decode cX2_layOne 36 = .ok (.getfield 34, 3) := by decide +kernel
theorem dX2_layOne_39 : decode cX2_layOne 39 = .ok (.iload_n 1, 1) := by decide +kernel
theorem dX2_layOne_40 : decode cX2_layOne 40 = .ok (.iload 4, 2) := by decide +kernel
theorem dX2_layOne_42 : decode cX2_layOne 42 = .ok (.iastore, 1) := by decide +kernel
theorem dX2_layOne_43 : decode cX2_layOne 43 = .ok (.aload_n 0, 1) := by decide +kernel
theorem dX2_layOne_44 : decode cX2_layOne 44 = .ok (.getfield 37, 3) := by decide +kernel
theorem dX2_layOne_47 : decode cX2_layOne 47 = .ok (.iload_n 1, 1) := by decide +kernel
theorem dX2_layOne_48 : decode cX2_layOne 48 = .ok (.iload_n 3, 1) := by decide +kernel
theorem dX2_layOne_49 : decode cX2_layOne 49 = .ok (.iastore, 1) := by decide +kernel
theorem dX2_layOne_50 : decode cX2_layOne 50 = .ok (.aload_n 0, 1) := by decide +kernel
theorem dX2_layOne_51 : decode cX2_layOne 51 = .ok (.getfield 40, 3) := by decide +kernel
theorem dX2_layOne_54 : decode cX2_layOne 54 = .ok (.iload_n 1, 1) := by decide +kernel
theorem dX2_layOne_55 : decode cX2_layOne 55 = .ok (.aload_n 0, 1) := by decide +kernel
theorem dX2_layOne_56 : decode cX2_layOne 56 = .ok (.getfield 31, 3) := by decide +kernel
theorem dX2_layOne_59 : decode cX2_layOne 59 = .ok (.iload_n 1, 1) := by decide +kernel
theorem dX2_layOne_60 : decode cX2_layOne 60 = .ok (.iaload, 1) := by decide +kernel
theorem dX2_layOne_61 : decode cX2_layOne 61 = .ok (.iastore, 1) := by decide +kernel
theorem dX2_layOne_62 : decode cX2_layOne 62 = .ok (.aload_n 0, 1) := by decide +kernel
theorem dX2_layOne_63 : decode cX2_layOne 63 = .ok (.getfield 18, 3) := by decide +kernel
theorem dX2_layOne_66 : decode cX2_layOne 66 = .ok (.iload_n 1, 1) := by decide +kernel
theorem dX2_layOne_67 : decode cX2_layOne 67 = .ok (.iaload, 1) := by decide +kernel
theorem dX2_layOne_68 : decode cX2_layOne 68 = .ok (.invokestatic 100, 3) := by decide +kernel
theorem dX2_layOne_71 : decode cX2_layOne 71 = .ok (.ifCond .eq 23, 3) := by decide +kernel
theorem dX2_layOne_74 : decode cX2_layOne 74 = .ok (.aload_n 0, 1) := by decide +kernel
theorem dX2_layOne_75 : decode cX2_layOne 75 = .ok (.getfield 46, 3) := by decide +kernel
theorem dX2_layOne_78 : decode cX2_layOne 78 = .ok (.aload_n 0, 1) := by decide +kernel
theorem dX2_layOne_79 : decode cX2_layOne 79 = .ok (.getfield 18, 3) := by decide +kernel
theorem dX2_layOne_82 : decode cX2_layOne 82 = .ok (.iload_n 1, 1) := by decide +kernel
theorem dX2_layOne_83 : decode cX2_layOne 83 = .ok (.iaload, 1) := by decide +kernel
theorem dX2_layOne_84 : decode cX2_layOne 84 = .ok (.dup2, 1) := by decide +kernel
theorem dX2_layOne_85 : decode cX2_layOne 85 = .ok (.iaload, 1) := by decide +kernel
theorem dX2_layOne_86 : decode cX2_layOne 86 = .ok (.aload_n 0, 1) := by decide +kernel
theorem dX2_layOne_87 : decode cX2_layOne 87 = .ok (.getfield 31, 3) := by decide +kernel
theorem dX2_layOne_90 : decode cX2_layOne 90 = .ok (.iload_n 1, 1) := by decide +kernel
theorem dX2_layOne_91 : decode cX2_layOne 91 = .ok (.iaload, 1) := by decide +kernel
theorem dX2_layOne_92 : decode cX2_layOne 92 = .ok (.iadd, 1) := by decide +kernel
theorem dX2_layOne_93 : decode cX2_layOne 93 = .ok (.iastore, 1) := by decide +kernel
theorem dX2_layOne_94 : decode cX2_layOne 94 = .ok (.return_, 1) := by decide +kernel
theorem dX2_layOne_95 : decode cX2_layOne 95 = .ok (.iinc 3 1, 3) := by decide +kernel
theorem dX2_layOne_98 : decode cX2_layOne 98 = .ok (.goto (-90), 3) := by decide +kernel
theorem dX2_layOne_101 : decode cX2_layOne 101 = .ok (.return_, 1) := by decide +kernel
set_option maxRecDepth 20000 in
theorem ggX2_wantedPlace_X2_has : GoodIn wsX2_wantedPlace wsX2_has := goodIn_r _ [8, 9, 23, 24, 25, 26, 27, 28, 29, 30, 31, 32, 33, 34, 35, 36, 37, 38] (by decide +kernel) (by decide +kernel)
set_option maxRecDepth 20000 in
theorem gX2_wantedPlace_X2_has : GoodIn wsX2_wantedPlace (wsV RX2 76 RX2 yX2_has wsX2_has) := goodIn_app (goodIn_of _ (by decide +kernel)) ggX2_wantedPlace_X2_has
set_option maxRecDepth 20000 in
theorem ggX2_wantedPlace_X2_around : GoodIn wsX2_wantedPlace wsX2_around := goodIn_r _ [13, 14, 15, 16, 17, 18, 23, 24, 25, 26, 27, 28, 29, 30, 31, 32, 33, 34, 35, 36, 37, 38] (by decide +kernel) (by decide +kernel)
set_option maxRecDepth 20000 in
theorem gX2_wantedPlace_X2_around : GoodIn wsX2_wantedPlace (wsV RX2 119 RX2 yX2_around wsX2_around) := goodIn_app (goodIn_of _ (by decide +kernel)) ggX2_wantedPlace_X2_around
set_option maxRecDepth 20000 in
theorem ggX2_wantedPlace_X2_isOnDrum : GoodIn wsX2_wantedPlace wsX2_isOnDrum := goodIn_r _ [22, 1, 4, 5, 6, 7, 8, 9, 23, 24, 25, 26, 27, 28, 29, 30, 31, 32, 33, 34, 35, 36, 37, 38] (by decide +kernel) (by decide +kernel)
set_option maxRecDepth 20000 in
theorem gX2_wantedPlace_X2_isOnDrum : GoodIn wsX2_wantedPlace (wsV RX2 122 RX2 yX2_isOnDrum wsX2_isOnDrum) := goodIn_app (goodIn_of _ (by decide +kernel)) ggX2_wantedPlace_X2_isOnDrum
theorem dX2_wantedPlace_0 : decode cX2_wantedPlace 0 = .ok (.iconst 0, 1) := by decide +kernel
theorem dX2_wantedPlace_1 : decode cX2_wantedPlace 1 = .ok (.istore_n 2, 1) := by decide +kernel
theorem dX2_wantedPlace_2 : decode cX2_wantedPlace 2 = .ok (.iload_n 2, 1) := by decide +kernel
theorem dX2_wantedPlace_3 : decode cX2_wantedPlace 3 = .ok (.bipush 16, 2) := by decide +kernel
theorem dX2_wantedPlace_5 : decode cX2_wantedPlace 5 = .ok (.if_icmp .ge 57, 3) := by decide +kernel
theorem dX2_wantedPlace_8 : decode cX2_wantedPlace 8 = .ok (.aload_n 0, 1) := by decide +kernel
theorem dX2_wantedPlace_9 : decode cX2_wantedPlace 9 = .ok (.iload_n 2, 1) := by decide +kernel
theorem dX2_wantedPlace_10 : decode cX2_wantedPlace 10 = .ok (.invokevirtual 76, 3) := by decide +kernel
theorem dX2_wantedPlace_13 : decode cX2_wantedPlace 13 = .ok (.ifCond .eq 49, 3) := by decide +kernel
theorem dX2_wantedPlace_16 : decode cX2_wantedPlace 16 = .ok (.aload_n 0, 1) := by decide +kernel
theorem dX2_wantedPlace_17 : decode cX2_wantedPlace 17 = .ok (.getfield 34, 3) := by decide +kernel
theorem dX2_wantedPlace_20 : decode cX2_wantedPlace 20 = .ok (.iload_n 2, 1) := by decide +kernel
theorem dX2_wantedPlace_21 : decode cX2_wantedPlace 21 = .ok (.iaload, 1) := by decide +kernel
theorem dX2_wantedPlace_22 : decode cX2_wantedPlace 22 = .ok (.iconst (-1), 1) := by decide +kernel
theorem dX2_wantedPlace_23 : decode cX2_wantedPlace 23 = .ok (.if_icmp .eq 33, 3) := by decide +kernel
theorem dX2_wantedPlace_26 : decode cX2_wantedPlace 26 = .ok (.aload_n 0, 1) := by decide +kernel
theorem dX2_wantedPlace_27 : decode cX2_wantedPlace 27 = .ok (.getfield 25, 3) := by decide +kernel
theorem dX2_wantedPlace_30 : decode cX2_wantedPlace 30 = .ok (.iload_n 2, 1) := by decide +kernel
theorem dX2_wantedPlace_31 : decode cX2_wantedPlace 31 = .ok (.iaload, 1) := by decide +kernel
theorem dX2_wantedPlace_32 : decode cX2_wantedPlace 32 = .ok (.iload_n 1, 1) := by decide +kernel
theorem dX2_wantedPlace_33 : decode cX2_wantedPlace 33 = .ok (.if_icmp .ne 23, 3) := by decide +kernel
theorem dX2_wantedPlace_36 : decode cX2_wantedPlace 36 = .ok (.aload_n 0, 1) := by decide +kernel
theorem dX2_wantedPlace_37 : decode cX2_wantedPlace 37 = .ok (.aload_n 0, 1) := by decide +kernel
theorem dX2_wantedPlace_38 : decode cX2_wantedPlace 38 = .ok (.getfield 34, 3) := by decide +kernel
theorem dX2_wantedPlace_41 : decode cX2_wantedPlace 41 = .ok (.iload_n 2, 1) := by decide +kernel
theorem dX2_wantedPlace_42 : decode cX2_wantedPlace 42 = .ok (.iaload, 1) := by decide +kernel
theorem dX2_wantedPlace_43 : decode cX2_wantedPlace 43 = .ok (.iconst 1, 1) := by decide +kernel
theorem dX2_wantedPlace_44 : decode cX2_wantedPlace 44 = .ok (.iadd, 1) := by decide +kernel
theorem dX2_wantedPlace_45 : decode cX2_wantedPlace 45 = .ok (.aload_n 0, 1) := by decide +kernel
theorem dX2_wantedPlace_46 : decode cX2_wantedPlace 46 = .ok (.getfield 22, 3) := by decide +kernel
theorem dX2_wantedPlace_49 : decode cX2_wantedPlace 49 = .ok (.iload_n 2, 1) := by decide +kernel
theorem dX2_wantedPlace_50 : decode cX2_wantedPlace 50 = .ok (.iaload, 1) := by decide +kernel
theorem dX2_wantedPlace_51 : decode cX2_wantedPlace 51 = .ok (.iadd, 1) := by decide +kernel
theorem dX2_wantedPlace_52 : decode cX2_wantedPlace 52 = .ok (.invokevirtual 119, 3) := by decide +kernel
theorem dX2_wantedPlace_55 : decode cX2_wantedPlace 55 = .ok (.ireturn, 1) := by decide +kernel
theorem dX2_wantedPlace_56 : decode cX2_wantedPlace 56 = .ok (.iinc 2 1, 3) := by decide +kernel
theorem dX2_wantedPlace_59 : decode cX2_wantedPlace 59 = .ok (.goto (-57), 3) := by decide +kernel
theorem dX2_wantedPlace_62 : decode cX2_wantedPlace 62 = .ok (.aload_n 0, 1) := by decide +kernel
theorem dX2_wantedPlace_63 : decode cX2_wantedPlace 63 = .ok (.aload_n 0, 1) := by decide +kernel
theorem dX2_wantedPlace_64 : decode cX2_wantedPlace 64 = .ok (.getfield 25, 3) := by decide +kernel
theorem dX2_wantedPlace_67 : decode cX2_wantedPlace 67 = .ok (.iload_n 1, 1) := by decide +kernel
theorem dX2_wantedPlace_68 : decode cX2_wantedPlace 68 = .ok (.iaload, 1) := by decide +kernel
theorem dX2_wantedPlace_69 : decode cX2_wantedPlace 69 = .ok (.invokevirtual 122, 3) := by decide +kernel
theorem dX2_wantedPlace_72 : decode cX2_wantedPlace 72 = .ok (.ifCond .eq 28, 3) := by decide +kernel
theorem dX2_wantedPlace_75 : decode cX2_wantedPlace 75 = .ok (.aload_n 0, 1) := by decide +kernel
theorem dX2_wantedPlace_76 : decode cX2_wantedPlace 76 = .ok (.aload_n 0, 1) := by decide +kernel
theorem dX2_wantedPlace_77 : decode cX2_wantedPlace 77 = .ok (.getfield 34, 3) := by decide +kernel
theorem dX2_wantedPlace_80 : decode cX2_wantedPlace 80 = .ok (.aload_n 0, 1) := by decide +kernel
theorem dX2_wantedPlace_81 : decode cX2_wantedPlace 81 = .ok (.getfield 25, 3) := by decide +kernel
theorem dX2_wantedPlace_84 : decode cX2_wantedPlace 84 = .ok (.iload_n 1, 1) := by decide +kernel
theorem dX2_wantedPlace_85 : decode cX2_wantedPlace 85 = .ok (.iaload, 1) := by decide +kernel
theorem dX2_wantedPlace_86 : decode cX2_wantedPlace 86 = .ok (.iaload, 1) := by decide +kernel
theorem dX2_wantedPlace_87 : decode cX2_wantedPlace 87 = .ok (.iconst 1, 1) := by decide +kernel
theorem dX2_wantedPlace_88 : decode cX2_wantedPlace 88 = .ok (.isub, 1) := by decide +kernel
theorem dX2_wantedPlace_89 : decode cX2_wantedPlace 89 = .ok (.aload_n 0, 1) := by decide +kernel
theorem dX2_wantedPlace_90 : decode cX2_wantedPlace 90 = .ok (.getfield 22, 3) := by decide +kernel
theorem dX2_wantedPlace_93 : decode cX2_wantedPlace 93 = .ok (.iload_n 1, 1) := by decide +kernel
theorem dX2_wantedPlace_94 : decode cX2_wantedPlace 94 = .ok (.iaload, 1) := by decide +kernel
theorem dX2_wantedPlace_95 : decode cX2_wantedPlace 95 = .ok (.isub, 1) := by decide +kernel
theorem dX2_wantedPlace_96 : decode cX2_wantedPlace 96 = .ok (.invokevirtual 119, 3) := by decide +kernel
theorem dX2_wantedPlace_99 : decode cX2_wantedPlace 99 = .ok (.ireturn, 1) := by decide +kernel
theorem dX2_wantedPlace_100 : decode cX2_wantedPlace 100 = .ok (.iconst 0, 1) := by decide +kernel
theorem dX2_wantedPlace_101 : decode cX2_wantedPlace 101 = .ok (.ireturn, 1) := by decide +kernel
set_option maxRecDepth 20000 in
theorem ggX2_waitFor_X2_isOnDrum : GoodIn wsX2_waitFor wsX2_isOnDrum := goodIn_r _ [7, 1, 8, 9, 10, 6, 11, 12, 22, 23, 24, 25, 26, 27, 28, 29, 30, 31, 32, 33, 34, 35, 36, 37] (by decide +kernel) (by decide +kernel)
set_option maxRecDepth 20000 in
theorem gX2_waitFor_X2_isOnDrum : GoodIn wsX2_waitFor (wsV RX2 122 RX2 yX2_isOnDrum wsX2_isOnDrum) := goodIn_app (goodIn_of _ (by decide +kernel)) ggX2_waitFor_X2_isOnDrum
set_option maxRecDepth 20000 in
theorem ggX2_waitFor_X2_around : GoodIn wsX2_waitFor wsX2_around := goodIn_r _ [16, 17, 18, 19, 20, 21, 22, 23, 24, 25, 26, 27, 28, 29, 30, 31, 32, 33, 34, 35, 36, 37] (by decide +kernel) (by decide +kernel)
set_option maxRecDepth 20000 in
theorem gX2_waitFor_X2_around : GoodIn wsX2_waitFor (wsV RX2 119 RX2 yX2_around wsX2_around) := goodIn_app (goodIn_of _ (by decide +kernel)) ggX2_waitFor_X2_around
theorem dX2_waitFor_0 : decode cX2_waitFor 0 = .ok (.aload_n 0, 1) := by decide +kernel
theorem dX2_waitFor_1 : decode cX2_waitFor 1 = .ok (.iload_n 1, 1) := by decide +kernel
theorem dX2_waitFor_2 : decode cX2_waitFor 2 = .ok (.invokevirtual 122, 3) := by decide +kernel
theorem dX2_waitFor_5 : decode cX2_waitFor 5 = .ok (.ifCond .eq 21, 3) := by decide +kernel
theorem dX2_waitFor_8 : decode cX2_waitFor 8 = .ok (.aload_n 0, 1) := by decide +kernel
theorem dX2_waitFor_9 : decode cX2_waitFor 9 = .ok (.aload_n 0, 1) := by decide +kernel
theorem dX2_waitFor_10 : decode cX2_waitFor 10 = .ok (.getfield 34, 3) := by decide +kernel
theorem dX2_waitFor_13 : decode cX2_waitFor 13 = .ok (.iload_n 1, 1) := by decide +kernel
theorem dX2_waitFor_14 : decode cX2_waitFor 14 = .ok (.iaload, 1) := by decide +kernel
theorem dX2_waitFor_15 : decode cX2_waitFor 15 = .ok (.aload_n 0, 1) := by decide +kernel
theorem dX2_waitFor_16 : decode cX2_waitFor 16 = .ok (.getfield 62, 3) := by decide +kernel
theorem dX2_waitFor_19 : decode cX2_waitFor 19 = .ok (.isub, 1) := by decide +kernel
theorem dX2_waitFor_20 : decode cX2_waitFor 20 = .ok (.invokevirtual 119, 3) := by decide +kernel
theorem dX2_waitFor_23 : decode cX2_waitFor 23 = .ok (.goto 4, 3) := by decide +kernel
theorem dX2_waitFor_26 : decode cX2_waitFor 26 = .ok (.iconst (-1), 1) := by decide +kernel
theorem dX2_waitFor_27 : decode cX2_waitFor 27 = .ok (.ireturn, 1) := by decide +kernel
set_option maxRecDepth 20000 in
theorem ggX2_runFrom_X2_isOnDrum : GoodIn wsX2_runFrom wsX2_isOnDrum := goodIn_r _ [9, 10, 11, 12, 13, 8, 14, 15, 51, 52, 53, 54, 55, 56, 57, 58, 59, 60, 61, 62, 63, 64, 65, 66] (by decide +kernel) (by decide +kernel)
set_option maxRecDepth 20000 in
theorem gX2_runFrom_X2_isOnDrum : GoodIn wsX2_runFrom (wsV RX2 122 RX2 yX2_isOnDrum wsX2_isOnDrum) := goodIn_app (goodIn_of _ (by decide +kernel)) ggX2_runFrom_X2_isOnDrum
set_option maxRecDepth 20000 in
theorem ggX2_runFrom_X2_read : GoodIn wsX2_runFrom wsX2_read := goodIn_r _ [19, 10, 20, 21, 22, 23, 24, 25, 26, 8, 27, 28, 29, 30, 31, 32, 33, 34, 35, 36, 37, 38, 39, 40, 41, 51, 52, 53, 54, 55, 56, 57, 58, 59, 60, 61, 62, 63, 64, 65, 66] (by decide +kernel) (by decide +kernel)
set_option maxRecDepth 20000 in
theorem gX2_runFrom_X2_read : GoodIn wsX2_runFrom (wsV RX2 125 RX2 yX2_read wsX2_read) := goodIn_app (goodIn_of _ (by decide +kernel)) ggX2_runFrom_X2_read
set_option maxRecDepth 20000 in
theorem ggX2_runFrom_X0_note : GoodIn wsX2_runFrom wsX0_note := goodIn_r _ [46, 47, 48, 49, 50, 67, 68, 69, 70] (by decide +kernel) (by decide +kernel)
set_option maxRecDepth 20000 in
theorem gX2_runFrom_X0_note : GoodIn wsX2_runFrom (wsV RX2 129 RX0 yX0_note wsX0_note) := goodIn_app (goodIn_of _ (by decide +kernel)) ggX2_runFrom_X0_note
theorem dX2_runFrom_0 : decode cX2_runFrom 0 = .ok (.iconst (-1), 1) := by decide +kernel
theorem dX2_runFrom_1 : decode cX2_runFrom 1 = .ok (.istore_n 2, 1) := by decide +kernel
theorem dX2_runFrom_2 : decode cX2_runFrom 2 = .ok (.iconst (-1), 1) := by decide +kernel
theorem dX2_runFrom_3 : decode cX2_runFrom 3 = .ok (.istore_n 3, 1) := by decide +kernel
theorem dX2_runFrom_4 : decode cX2_runFrom 4 = .ok (.iload_n 1, 1) := by decide +kernel
theorem dX2_runFrom_5 : decode cX2_runFrom 5 = .ok (.istore 4, 2) := by decide +kernel
theorem dX2_runFrom_7 : decode cX2_runFrom 7 = .ok (.iconst 0, 1) := by decide +kernel
theorem dX2_runFrom_8 : decode cX2_runFrom 8 = .ok (.istore 5, 2) := by decide +kernel
theorem dX2_runFrom_10 : decode cX2_runFrom 10 = .ok (.iload 5, 2) := by decide +kernel
theorem dX2_runFrom_12 : decode cX2_runFrom 12 = .ok (.bipush 99, 2) := by decide +kernel
theorem dX2_runFrom_14 : decode cX2_runFrom 14 = .ok (.if_icmp .gt 132, 3) := by decide +kernel
theorem dX2_runFrom_17 : decode cX2_runFrom 17 = .ok (.iload_n 2, 1) := by decide +kernel
theorem dX2_runFrom_18 : decode cX2_runFrom 18 = .ok (.iconst (-1), 1) := by decide +kernel
theorem dX2_runFrom_19 : decode cX2_runFrom 19 = .ok (.if_icmp .ne 127, 3) := by decide +kernel
theorem dX2_runFrom_22 : decode cX2_runFrom 22 = .ok (.aload_n 0, 1) := by decide +kernel
theorem dX2_runFrom_23 : decode cX2_runFrom 23 = .ok (.iload 4, 2) := by decide +kernel
theorem dX2_runFrom_25 : decode cX2_runFrom 25 = .ok (.invokevirtual 122, 3) := by decide +kernel
theorem dX2_runFrom_28 : decode cX2_runFrom 28 = .ok (.ifCond .ne 8, 3) := by decide +kernel
theorem dX2_runFrom_31 : decode cX2_runFrom 31 = .ok (.iconst 3, 1) := by decide +kernel
theorem dX2_runFrom_32 : decode cX2_runFrom 32 = .ok (.istore_n 2, 1) := by decide +kernel
theorem dX2_runFrom_33 : decode cX2_runFrom 33 = .ok (.goto 107, 3) := by decide +kernel
theorem dX2_runFrom_36 : decode cX2_runFrom 36 = .ok (.iload_n 3, 1) := by decide +kernel
theorem dX2_runFrom_37 : decode cX2_runFrom 37 = .ok (.iconst (-1), 1) := by decide +kernel
theorem dX2_runFrom_38 : decode cX2_runFrom 38 = .ok (.if_icmp .eq 30, 3) := by decide +kernel
theorem dX2_runFrom_41 : decode cX2_runFrom 41 = .ok (.aload_n 0, 1) := by decide +kernel
theorem dX2_runFrom_42 : decode cX2_runFrom 42 = .ok (.getfield 28, 3) := by decide +kernel
theorem dX2_runFrom_45 : decode cX2_runFrom 45 = .ok (.iload 4, 2) := by decide +kernel
theorem dX2_runFrom_47 : decode cX2_runFrom 47 = .ok (.iaload, 1) := by decide +kernel
theorem dX2_runFrom_48 : decode cX2_runFrom 48 = .ok (.iconst (-1), 1) := by decide +kernel
theorem dX2_runFrom_49 : decode cX2_runFrom 49 = .ok (.if_icmp .eq 19, 3) := by decide +kernel
theorem dX2_runFrom_52 : decode cX2_runFrom 52 = .ok (.aload_n 0, 1) := by decide +kernel
theorem dX2_runFrom_53 : decode cX2_runFrom 53 = .ok (.getfield 28, 3) := by decide +kernel
theorem dX2_runFrom_56 : decode cX2_runFrom 56 = .ok (.iload 4, 2) := by decide +kernel
theorem dX2_runFrom_58 : decode cX2_runFrom 58 = .ok (.iaload, 1) := by decide +kernel
theorem dX2_runFrom_59 : decode cX2_runFrom 59 = .ok (.iload_n 3, 1) := by decide +kernel
theorem dX2_runFrom_60 : decode cX2_runFrom 60 = .ok (.if_icmp .eq 8, 3) := by decide +kernel
theorem dX2_runFrom_63 : decode cX2_runFrom 63 = .ok (.iconst 1, 1) := by decide +kernel
theorem dX2_runFrom_64 : decode cX2_runFrom 64 = .ok (.istore_n 2, 1) := by decide +kernel
theorem dX2_runFrom_65 : decode cX2_runFrom 65 = .ok (.goto 75, 3) := by decide +kernel
theorem dX2_runFrom_68 : decode cX2_runFrom 68 = .ok (.iload 5, 2) := by decide +kernel
theorem dX2_runFrom_70 : decode cX2_runFrom 70 = .ok (.bipush 99, 2) := by decide +kernel
theorem dX2_runFrom_72 : decode cX2_runFrom 72 = .ok (.if_icmp .ne 8, 3) := by decide +kernel
theorem dX2_runFrom_75 : decode cX2_runFrom 75 = .ok (.iconst 2, 1) := by decide +kernel
theorem dX2_runFrom_76 : decode cX2_runFrom 76 = .ok (.istore_n 2, 1) := by decide +kernel
theorem dX2_runFrom_77 : decode cX2_runFrom 77 = .ok (.goto 63, 3) := by decide +kernel
theorem dX2_runFrom_80 : decode cX2_runFrom 80 = .ok (.aload_n 0, 1) := by decide +kernel
theorem dX2_runFrom_81 : decode cX2_runFrom 81 = .ok (.iload 4, 2) := by decide +kernel
theorem dX2_runFrom_83 : decode cX2_runFrom 83 = .ok (.iload_n 3, 1) := by decide +kernel
theorem dX2_runFrom_84 : decode cX2_runFrom 84 = .ok (.iconst (-1), 1) := by decide +kernel
theorem dX2_runFrom_85 : decode cX2_runFrom 85 = .ok (.if_icmp .eq 7, 3) := by decide +kernel
theorem dX2_runFrom_88 : decode cX2_runFrom 88 = .ok (.iconst 1, 1) := by decide +kernel
theorem dX2_runFrom_89 : decode cX2_runFrom 89 = .ok (.goto 4, 3) := by decide +kernel
theorem dX2_runFrom_92 : decode cX2_runFrom 92 = .ok (.iconst 0, 1) := by decide +kernel
theorem dX2_runFrom_93 : decode cX2_runFrom 93 = .ok (.invokevirtual 125, 3) := by decide +kernel
theorem dX2_runFrom_96 : decode cX2_runFrom 96 = .ok (.aload_n 0, 1) := by decide +kernel
theorem dX2_runFrom_97 : decode cX2_runFrom 97 = .ok (.getfield 25, 3) := by decide +kernel
theorem dX2_runFrom_100 : decode cX2_runFrom 100 = .ok (.iload 4, 2) := by decide +kernel
theorem dX2_runFrom_102 : decode cX2_runFrom 102 = .ok (.iaload, 1) := by decide +kernel
theorem dX2_runFrom_103 : decode cX2_runFrom 103 = .ok (.iconst (-1), 1) := by decide +kernel
theorem dX2_runFrom_104 : decode cX2_runFrom 104 = .ok (.if_icmp .ne 8, 3) := by decide +kernel
theorem dX2_runFrom_107 : decode cX2_runFrom 107 = .ok (.iconst 0, 1) := by decide +kernel
theorem dX2_runFrom_108 : decode cX2_runFrom 108 = .ok (.istore_n 2, 1) := by decide +kernel
theorem dX2_runFrom_109 : decode cX2_runFrom 109 = .ok (.goto 31, 3) := by decide +kernel
theorem dX2_runFrom_112 : decode cX2_runFrom 112 = .ok (.aload_n 0, 1) := by decide +kernel
theorem dX2_runFrom_113 : decode cX2_runFrom 113 = .ok (.getfield 55, 3) := by decide +kernel
theorem dX2_runFrom_116 : decode cX2_runFrom 116 = .ok (.iload 4, 2) := by decide +kernel
theorem dX2_runFrom_118 : decode cX2_runFrom 118 = .ok (.aload_n 0, 1) := by decide +kernel
theorem dX2_runFrom_119 : decode cX2_runFrom 119 = .ok (.getfield 25, 3) := by decide +kernel
theorem dX2_runFrom_122 : decode cX2_runFrom 122 = .ok (.iload 4, 2) := by decide +kernel
theorem dX2_runFrom_124 : decode cX2_runFrom 124 = .ok (.iaload, 1) := by decide +kernel
theorem dX2_runFrom_125 : decode cX2_runFrom 125 = .ok (.invokevirtual 129, 3) := by decide +kernel
theorem dX2_runFrom_128 : decode cX2_runFrom 128 = .ok (.iload 4, 2) := by decide +kernel
theorem dX2_runFrom_130 : decode cX2_runFrom 130 = .ok (.istore_n 3, 1) := by decide +kernel
theorem dX2_runFrom_131 : decode cX2_runFrom 131 = .ok (.aload_n 0, 1) := by decide +kernel
theorem dX2_runFrom_132 : decode cX2_runFrom 132 = .ok (.getfield 25, 3) := by decide +kernel
theorem dX2_runFrom_135 : decode cX2_runFrom 135 = .ok (.iload 4, 2) := by decide +kernel
theorem dX2_runFrom_137 : decode cX2_runFrom 137 = .ok (.iaload, 1) := by decide +kernel
theorem dX2_runFrom_138 : decode cX2_runFrom 138 = .ok (.istore 4, 2) := by decide +kernel
theorem dX2_runFrom_140 : decode cX2_runFrom 140 = .ok (.iinc 5 1, 3) := by decide +kernel
theorem dX2_runFrom_143 : decode cX2_runFrom 143 = .ok (.goto (-133), 3) := by decide +kernel
theorem dX2_runFrom_146 : decode cX2_runFrom 146 = .ok (.aload_n 0, 1) := by decide +kernel
theorem dX2_runFrom_147 : decode cX2_runFrom 147 = .ok (.iload_n 2, 1) := by decide +kernel
theorem dX2_runFrom_148 : decode cX2_runFrom 148 = .ok (.putfield 15, 3) := by decide +kernel
theorem dX2_runFrom_151 : decode cX2_runFrom 151 = .ok (.iload_n 2, 1) := by decide +kernel
theorem dX2_runFrom_152 : decode cX2_runFrom 152 = .ok (.ireturn, 1) := by decide +kernel
set_option maxRecDepth 20000 in
theorem ggX2_read_X2_around : GoodIn wsX2_read wsX2_around := goodIn_r _ [10, 11, 12, 13, 14, 15, 25, 26, 27, 28, 29, 30, 31, 32, 33, 34, 35, 36, 37, 38, 39, 40] (by decide +kernel) (by decide +kernel)
set_option maxRecDepth 20000 in
theorem gX2_read_X2_around : GoodIn wsX2_read (wsV RX2 119 RX2 yX2_around wsX2_around) := goodIn_app (goodIn_of _ (by decide +kernel)) ggX2_read_X2_around
set_option maxRecDepth 20000 in
theorem ggX2_read_X2_refund : GoodIn wsX2_read wsX2_refund := goodIn_r _ [19, 4, 20, 21, 22, 23, 24, 25, 26, 27, 28, 29, 30, 31, 32, 33, 34, 35, 36, 37, 38, 39, 40] (by decide +kernel) (by decide +kernel)
set_option maxRecDepth 20000 in
theorem gX2_read_X2_refund : GoodIn wsX2_read (wsV RX2 97 RX2 yX2_refund wsX2_refund) := goodIn_app (goodIn_of _ (by decide +kernel)) ggX2_read_X2_refund
theorem dX2_read_0 : decode cX2_read 0 = .ok (.aload_n 0, 1) := by decide +kernel
theorem dX2_read_1 : decode cX2_read 1 = .ok (.aload_n 0, 1) := by decide +kernel
theorem dX2_read_2 : decode cX2_read 2 = .ok (.getfield 34, 3) := by decide +kernel
theorem dX2_read_5 : decode cX2_read 5 = .ok (.iload_n 1, 1) := by decide +kernel
theorem dX2_read_6 : decode cX2_read 6 = .ok (.iaload, 1) := by decide +kernel
theorem dX2_read_7 : decode cX2_read 7 = .ok (.aload_n 0, 1) := by decide +kernel
theorem dX2_read_8 : decode cX2_read 8 = .ok (.getfield 62, 3) := by decide +kernel
theorem dX2_read_11 : decode cX2_read 11 = .ok (.isub, 1) := by decide +kernel
theorem dX2_read_12 : decode cX2_read 12 = .ok (.invokevirtual 119, 3) := by decide +kernel
theorem dX2_read_15 : decode cX2_read 15 = .ok (.istore_n 3, 1) := by decide +kernel
theorem dX2_read_16 : decode cX2_read 16 = .ok (.aload_n 0, 1) := by decide +kernel
theorem dX2_read_17 : decode cX2_read 17 = .ok (.dup, 1) := by decide +kernel
theorem dX2_read_18 : decode cX2_read 18 = .ok (.getfield 62, 3) := by decide +kernel
theorem dX2_read_21 : decode cX2_read 21 = .ok (.iload_n 3, 1) := by decide +kernel
theorem dX2_read_22 : decode cX2_read 22 = .ok (.iadd, 1) := by decide +kernel
theorem dX2_read_23 : decode cX2_read 23 = .ok (.putfield 62, 3) := by decide +kernel
theorem dX2_read_26 : decode cX2_read 26 = .ok (.aload_n 0, 1) := by decide +kernel
theorem dX2_read_27 : decode cX2_read 27 = .ok (.getfield 43, 3) := by decide +kernel
theorem dX2_read_30 : decode cX2_read 30 = .ok (.iload_n 1, 1) := by decide +kernel
theorem dX2_read_31 : decode cX2_read 31 = .ok (.iload_n 3, 1) := by decide +kernel
theorem dX2_read_32 : decode cX2_read 32 = .ok (.iastore, 1) := by decide +kernel
theorem dX2_read_33 : decode cX2_read 33 = .ok (.iload_n 2, 1) := by decide +kernel
theorem dX2_read_34 : decode cX2_read 34 = .ok (.ifCond .eq 20, 3) := by decide +kernel
theorem dX2_read_37 : decode cX2_read 37 = .ok (.iload_n 3, 1) := by decide +kernel
theorem dX2_read_38 : decode cX2_read 38 = .ok (.ifCond .eq 9, 3) := by decide +kernel
theorem dX2_read_41 : decode cX2_read 41 = .ok (.aload_n 0, 1) := by decide +kernel
theorem dX2_read_42 : decode cX2_read 42 = .ok (.iload_n 1, 1) := by decide +kernel
theorem dX2_read_43 : decode cX2_read 43 = .ok (.invokevirtual 97, 3) := by decide +kernel
theorem dX2_read_46 : decode cX2_read 46 = .ok (.pop, 1) := by decide +kernel
theorem dX2_read_47 : decode cX2_read 47 = .ok (.aload_n 0, 1) := by decide +kernel
theorem dX2_read_48 : decode cX2_read 48 = .ok (.getfield 40, 3) := by decide +kernel
theorem dX2_read_51 : decode cX2_read 51 = .ok (.iload_n 1, 1) := by decide +kernel
theorem dX2_read_52 : decode cX2_read 52 = .ok (.iconst 0, 1) := by decide +kernel
theorem dX2_read_53 : decode cX2_read 53 = .ok (.iastore, 1) := by decide +kernel
theorem dX2_read_54 : decode cX2_read 54 = .ok (.aload_n 0, 1) := by decide +kernel
theorem dX2_read_55 : decode cX2_read 55 = .ok (.dup, 1) := by decide +kernel
theorem dX2_read_56 : decode cX2_read 56 = .ok (.getfield 62, 3) := by decide +kernel
theorem dX2_read_59 : decode cX2_read 59 = .ok (.iconst 1, 1) := by decide +kernel
theorem dX2_read_60 : decode cX2_read 60 = .ok (.aload_n 0, 1) := by decide +kernel
theorem dX2_read_61 : decode cX2_read 61 = .ok (.getfield 22, 3) := by decide +kernel
theorem dX2_read_64 : decode cX2_read 64 = .ok (.iload_n 1, 1) := by decide +kernel
theorem dX2_read_65 : decode cX2_read 65 = .ok (.iaload, 1) := by decide +kernel
theorem dX2_read_66 : decode cX2_read 66 = .ok (.iadd, 1) := by decide +kernel
theorem dX2_read_67 : decode cX2_read 67 = .ok (.iadd, 1) := by decide +kernel
theorem dX2_read_68 : decode cX2_read 68 = .ok (.putfield 62, 3) := by decide +kernel
theorem dX2_read_71 : decode cX2_read 71 = .ok (.return_, 1) := by decide +kernel
theorem dX3_init_0 : decode cX3_init 0 = .ok (.aload_n 0, 1) := by decide +kernel
theorem dX3_init_1 : decode cX3_init 1 = .ok (.invokespecial 5, 3) := by decide +kernel
theorem dX3_init_4 : decode cX3_init 4 = .ok (.aload_n 0, 1) := by decide +kernel
theorem dX3_init_5 : decode cX3_init 5 = .ok (.sipush 160, 3) := by decide +kernel
theorem dX3_init_8 : decode cX3_init 8 = .ok (.newarray .int, 2) := by decide +kernel
theorem dX3_init_10 : decode cX3_init 10 = .ok (.putfield 11, 3) := by decide +kernel
theorem dX3_init_13 : decode cX3_init 13 = .ok (.return_, 1) := by decide +kernel
theorem dJ9_floorMod_7cf53_0 : decode cJ9_floorMod_7cf53 0 = .ok (.iload_n 0, 1) := by decide +kernel
theorem dJ9_floorMod_7cf53_1 : decode cJ9_floorMod_7cf53 1 = .ok (.iload_n 1, 1) := by decide +kernel
theorem dJ9_floorMod_7cf53_2 : decode cJ9_floorMod_7cf53 2 = .ok (.irem, 1) := by decide +kernel
theorem dJ9_floorMod_7cf53_3 : decode cJ9_floorMod_7cf53 3 = .ok (.istore_n 2, 1) := by decide +kernel
theorem dJ9_floorMod_7cf53_4 : decode cJ9_floorMod_7cf53 4 = .ok (.iload_n 0, 1) := by decide +kernel
theorem dJ9_floorMod_7cf53_5 : decode cJ9_floorMod_7cf53 5 = .ok (.iload_n 1, 1) := by decide +kernel
theorem dJ9_floorMod_7cf53_6 : decode cJ9_floorMod_7cf53 6 = .ok (.ixor, 1) := by decide +kernel
theorem dJ9_floorMod_7cf53_7 : decode cJ9_floorMod_7cf53 7 = .ok (.ifCond .ge 11, 3) := by decide +kernel
theorem dJ9_floorMod_7cf53_10 : decode cJ9_floorMod_7cf53 10 = .ok (.iload_n 2, 1) := by decide +kernel
theorem dJ9_floorMod_7cf53_11 : decode cJ9_floorMod_7cf53 11 = .ok (.ifCond .eq 7, 3) := by decide +kernel
theorem dJ9_floorMod_7cf53_14 : decode cJ9_floorMod_7cf53 14 = .ok (.iload_n 2, 1) := by decide +kernel
theorem dJ9_floorMod_7cf53_15 : decode cJ9_floorMod_7cf53 15 = .ok (.iload_n 1, 1) := by decide +kernel
theorem dJ9_floorMod_7cf53_16 : decode cJ9_floorMod_7cf53 16 = .ok (.iadd, 1) := by decide +kernel
theorem dJ9_floorMod_7cf53_17 : decode cJ9_floorMod_7cf53 17 = .ok (.ireturn, 1) := by decide +kernel
theorem dJ9_floorMod_7cf53_18 : decode cJ9_floorMod_7cf53 18 = .ok (.iload_n 2, 1) := by decide +kernel
theorem dJ9_floorMod_7cf53_19 : decode cJ9_floorMod_7cf53 19 = .ok (.ireturn, 1) := by decide +kernel
