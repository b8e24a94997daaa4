theorem dX5_init_0 : decode cX5_init 0 = .ok (.aload_n 0, 1) := by decide +kernel
theorem dX5_init_1 : decode cX5_init 1 = .ok (.invokespecial 1, 3) := by decide +kernel
theorem dX5_init_4 : decode cX5_init 4 = .ok (.aload_n 0, 1) := by decide +kernel
theorem dX5_init_5 : decode cX5_init 5 = .ok (.sipush 925, 3) := by decide +kernel
theorem dX5_init_8 : decode cX5_init 8 = .ok (.newarray .int, 2) := by decide +kernel
theorem dX5_init_10 : decode cX5_init 10 = .ok (.putfield 7, 3) := by decide +kernel
theorem dX5_init_13 : decode cX5_init 13 = .ok (.aload_n 0, 1) := by decide +kernel
theorem dX5_init_14 : decode cX5_init 14 = .ok (.sipush 925, 3) := by decide +kernel
theorem dX5_init_17 : decode cX5_init 17 = .ok (.newarray .int, 2) := by decide +kernel
theorem dX5_init_19 : decode cX5_init 19 = .ok (.putfield 13, 3) := by decide +kernel
theorem dX5_init_22 : decode cX5_init 22 = .ok (.aload_n 0, 1) := by decide +kernel
theorem dX5_init_23 : decode cX5_init 23 = .ok (.sipush 925, 3) := by decide +kernel
theorem dX5_init_26 : decode cX5_init 26 = .ok (.newarray .int, 2) := by decide +kernel
theorem dX5_init_28 : decode cX5_init 28 = .ok (.putfield 16, 3) := by decide +kernel
theorem dX5_init_31 : decode cX5_init 31 = .ok (.aload_n 0, 1) := by decide +kernel
theorem dX5_init_32 : decode cX5_init 32 = .ok (.sipush 925, 3) := by decide +kernel
theorem dX5_init_35 : decode cX5_init 35 = .ok (.newarray .int, 2) := by decide +kernel
theorem dX5_init_37 : decode cX5_init 37 = .ok (.putfield 19, 3) := by decide +kernel
theorem dX5_init_40 : decode cX5_init 40 = .ok (.aload_n 0, 1) := by decide +kernel
theorem dX5_init_41 : decode cX5_init 41 = .ok (.sipush 12950, 3) := by decide +kernel
theorem dX5_init_44 : decode cX5_init 44 = .ok (.newarray .int, 2) := by decide +kernel
theorem dX5_init_46 : decode cX5_init 46 = .ok (.putfield 22, 3) := by decide +kernel
theorem dX5_init_49 : decode cX5_init 49 = .ok (.aload_n 0, 1) := by decide +kernel
theorem dX5_init_50 : decode cX5_init 50 = .ok (.sipush 1850, 3) := by decide +kernel
theorem dX5_init_53 : decode cX5_init 53 = .ok (.newarray .int, 2) := by decide +kernel
theorem dX5_init_55 : decode cX5_init 55 = .ok (.putfield 25, 3) := by decide +kernel
theorem dX5_init_58 : decode cX5_init 58 = .ok (.aload_n 0, 1) := by decide +kernel
theorem dX5_init_59 : decode cX5_init 59 = .ok (.iconst 2, 1) := by decide +kernel
theorem dX5_init_60 : decode cX5_init 60 = .ok (.newarray .int, 2) := by decide +kernel
theorem dX5_init_62 : decode cX5_init 62 = .ok (.putfield 28, 3) := by decide +kernel
theorem dX5_init_65 : decode cX5_init 65 = .ok (.aload_n 0, 1) := by decide +kernel
theorem dX5_init_66 : decode cX5_init 66 = .ok (.sipush 160, 3) := by decide +kernel
theorem dX5_init_69 : decode cX5_init 69 = .ok (.newarray .int, 2) := by decide +kernel
theorem dX5_init_71 : decode cX5_init 71 = .ok (.putfield 31, 3) := by decide +kernel
theorem dX5_init_74 : decode cX5_init 74 = .ok (.aload_n 0, 1) := by decide +kernel
theorem dX5_init_75 : decode cX5_init 75 = .ok (.bipush 16, 2) := by decide +kernel
theorem dX5_init_77 : decode cX5_init 77 = .ok (.newarray .int, 2) := by decide +kernel
theorem dX5_init_79 : decode cX5_init 79 = .ok (.putfield 34, 3) := by decide +kernel
theorem dX5_init_82 : decode cX5_init 82 = .ok (.aload_n 0, 1) := by decide +kernel
theorem dX5_init_83 : decode cX5_init 83 = .ok (.getfield 7, 3) := by decide +kernel
theorem dX5_init_86 : decode cX5_init 86 = .ok (.iconst 0, 1) := by decide +kernel
theorem dX5_init_87 : decode cX5_init 87 = .ok (.bipush 12, 2) := by decide +kernel
theorem dX5_init_89 : decode cX5_init 89 = .ok (.iastore, 1) := by decide +kernel
theorem dX5_init_90 : decode cX5_init 90 = .ok (.aload_n 0, 1) := by decide +kernel
theorem dX5_init_91 : decode cX5_init 91 = .ok (.getfield 7, 3) := by decide +kernel
theorem dX5_init_94 : decode cX5_init 94 = .ok (.iconst 4, 1) := by decide +kernel
theorem dX5_init_95 : decode cX5_init 95 = .ok (.iconst (-1), 1) := by decide +kernel
theorem dX5_init_96 : decode cX5_init 96 = .ok (.iastore, 1) := by decide +kernel
theorem dX5_init_97 : decode cX5_init 97 = .ok (.return_, 1) := by decide +kernel
theorem dX5_thrown_0 : decode cX5_thrown 0 = .ok (.aload_n 0, 1) := by decide +kernel
theorem dX5_thrown_1 : decode cX5_thrown 1 = .ok (.getfield 37, 3) := by decide +kernel
theorem dX5_thrown_4 : decode cX5_thrown 4 = .ok (.ireturn, 1) := by decide +kernel
theorem dX5_copy_0 : decode cX5_copy 0 = .ok (.iconst 0, 1) := by decide +kernel
theorem dX5_copy_1 : decode cX5_copy 1 = .ok (.istore 4, 2) := by decide +kernel
theorem dX5_copy_3 : decode cX5_copy 3 = .ok (.iload 4, 2) := by decide +kernel
theorem dX5_copy_5 : decode cX5_copy 5 = .ok (.sipush 925, 3) := by decide +kernel
theorem dX5_copy_8 : decode cX5_copy 8 = .ok (.if_icmp .ge 21, 3) := by decide +kernel
theorem dX5_copy_11 : decode cX5_copy 11 = .ok (.aload_n 2, 1) := by decide +kernel
theorem dX5_copy_12 : decode cX5_copy 12 = .ok (.iload_n 3, 1) := by decide +kernel
theorem dX5_copy_13 : decode cX5_copy 13 = .ok (.iload 4, 2) := by decide +kernel
theorem dX5_copy_15 : decode cX5_copy 15 = .ok (.iadd, 1) := by decide +kernel
theorem dX5_copy_16 : decode cX5_copy 16 = .ok (.aload_n 0, 1) := by decide +kernel
theorem dX5_copy_17 : decode cX5_copy 17 = .ok (.iload_n 1, 1) := by decide +kernel
theorem dX5_copy_18 : decode cX5_copy 18 = .ok (.iload 4, 2) := by decide +kernel
theorem dX5_copy_20 : decode cX5_copy 20 = .ok (.iadd, 1) := by decide +kernel
theorem dX5_copy_21 : decode cX5_copy 21 = .ok (.iaload, 1) := by decide +kernel
theorem dX5_copy_22 : decode cX5_copy 22 = .ok (.iastore, 1) := by decide +kernel
theorem dX5_copy_23 : decode cX5_copy 23 = .ok (.iinc 4 1, 3) := by decide +kernel
theorem dX5_copy_26 : decode cX5_copy 26 = .ok (.goto (-23), 3) := by decide +kernel
theorem dX5_copy_29 : decode cX5_copy 29 = .ok (.return_, 1) := by decide +kernel
theorem dX5_within_0 : decode cX5_within 0 = .ok (.iload_n 0, 1) := by decide +kernel
theorem dX5_within_1 : decode cX5_within 1 = .ok (.iload_n 1, 1) := by decide +kernel
theorem dX5_within_2 : decode cX5_within 2 = .ok (.if_icmp .lt 12, 3) := by decide +kernel
theorem dX5_within_5 : decode cX5_within 5 = .ok (.iload_n 0, 1) := by decide +kernel
theorem dX5_within_6 : decode cX5_within 6 = .ok (.iload_n 2, 1) := by decide +kernel
theorem dX5_within_7 : decode cX5_within 7 = .ok (.if_icmp .gt 7, 3) := by decide +kernel
theorem dX5_within_10 : decode cX5_within 10 = .ok (.iconst 1, 1) := by decide +kernel
theorem dX5_within_11 : decode cX5_within 11 = .ok (.goto 4, 3) := by decide +kernel
theorem dX5_within_14 : decode cX5_within 14 = .ok (.iconst 0, 1) := by decide +kernel
theorem dX5_within_15 : decode cX5_within 15 = .ok (.ireturn, 1) := by decide +kernel
set_option maxRecDepth 20000 in
theorem ggX5_append_X5_within : GoodIn wsX5_append wsX5_within := goodIn_r _ [7] (by decide +kernel) (by decide +kernel)
set_option maxRecDepth 20000 in
theorem gX5_append_X5_within : GoodIn wsX5_append (va_wsS RX5 41 yX5_within wsX5_within) := goodIn_app (goodIn_of _ (by decide +kernel)) ggX5_append_X5_within
theorem dX5_append_0 : decode cX5_append 0 = .ok (.aload_n 0, 1) := by decide +kernel
theorem dX5_append_1 : decode cX5_append 1 = .ok (.iload_n 1, 1) := by decide +kernel
theorem dX5_append_2 : decode cX5_append 2 = .ok (.iconst 0, 1) := by decide +kernel
theorem dX5_append_3 : decode cX5_append 3 = .ok (.sipush 255, 3) := by decide +kernel
theorem dX5_append_6 : decode cX5_append 6 = .ok (.invokestatic 41, 3) := by decide +kernel
theorem dX5_append_9 : decode cX5_append 9 = .ok (.ifCond .ne 7, 3) := by decide +kernel
theorem dX5_append_12 : decode cX5_append 12 = .ok (.iconst 1, 1) := by decide +kernel
theorem dX5_append_13 : decode cX5_append 13 = .ok (.goto 18, 3) := by decide +kernel
theorem dX5_append_16 : decode cX5_append 16 = .ok (.aload_n 0, 1) := by decide +kernel
theorem dX5_append_17 : decode cX5_append 17 = .ok (.getfield 45, 3) := by decide +kernel
theorem dX5_append_20 : decode cX5_append 20 = .ok (.sipush 160, 3) := by decide +kernel
theorem dX5_append_23 : decode cX5_append 23 = .ok (.if_icmp .ne 7, 3) := by decide +kernel
theorem dX5_append_26 : decode cX5_append 26 = .ok (.iconst 2, 1) := by decide +kernel
theorem dX5_append_27 : decode cX5_append 27 = .ok (.goto 4, 3) := by decide +kernel
theorem dX5_append_30 : decode cX5_append 30 = .ok (.iconst 0, 1) := by decide +kernel
theorem dX5_append_31 : decode cX5_append 31 = .ok (.putfield 37, 3) := by decide +kernel
theorem dX5_append_34 : decode cX5_append 34 = .ok (.aload_n 0, 1) := by decide +kernel
theorem dX5_append_35 : decode cX5_append 35 = .ok (.getfield 37, 3) := by decide +kernel
theorem dX5_append_38 : decode cX5_append 38 = .ok (.ifCond .le 5, 3) := by decide +kernel
theorem dX5_append_41 : decode cX5_append 41 = .ok (.iconst 0, 1) := by decide +kernel
theorem dX5_append_42 : decode cX5_append 42 = .ok (.ireturn, 1) := by decide +kernel
theorem dX5_append_43 : decode cX5_append 43 = .ok (.aload_n 0, 1) := by decide +kernel
theorem dX5_append_44 : decode cX5_append 44 = .ok (.getfield 31, 3) := by decide +kernel
theorem dX5_append_47 : decode cX5_append 47 = .ok (.aload_n 0, 1) := by decide +kernel
theorem dX5_append_48 : decode cX5_append 48 = .ok (.getfield 45, 3) := by decide +kernel
theorem dX5_append_51 : decode cX5_append 51 = .ok (.iload_n 1, 1) := by decide +kernel
theorem dX5_append_52 : decode cX5_append 52 = .ok (.iastore, 1) := by decide +kernel
theorem dX5_append_53 : decode cX5_append 53 = .ok (.aload_n 0, 1) := by decide +kernel
theorem dX5_append_54 : decode cX5_append 54 = .ok (.dup, 1) := by decide +kernel
theorem dX5_append_55 : decode cX5_append 55 = .ok (.getfield 45, 3) := by decide +kernel
theorem dX5_append_58 : decode cX5_append 58 = .ok (.iconst 1, 1) := by decide +kernel
theorem dX5_append_59 : decode cX5_append 59 = .ok (.iadd, 1) := by decide +kernel
theorem dX5_append_60 : decode cX5_append 60 = .ok (.putfield 45, 3) := by decide +kernel
theorem dX5_append_63 : decode cX5_append 63 = .ok (.aload_n 0, 1) := by decide +kernel
theorem dX5_append_64 : decode cX5_append 64 = .ok (.getfield 45, 3) := by decide +kernel
theorem dX5_append_67 : decode cX5_append 67 = .ok (.ireturn, 1) := by decide +kernel
theorem dX5_clearText_0 : decode cX5_clearText 0 = .ok (.aload_n 0, 1) := by decide +kernel
theorem dX5_clearText_1 : decode cX5_clearText 1 = .ok (.iconst 0, 1) := by decide +kernel
theorem dX5_clearText_2 : decode cX5_clearText 2 = .ok (.putfield 37, 3) := by decide +kernel
theorem dX5_clearText_5 : decode cX5_clearText 5 = .ok (.aload_n 0, 1) := by decide +kernel
theorem dX5_clearText_6 : decode cX5_clearText 6 = .ok (.getfield 45, 3) := by decide +kernel
theorem dX5_clearText_9 : decode cX5_clearText 9 = .ok (.istore_n 1, 1) := by decide +kernel
theorem dX5_clearText_10 : decode cX5_clearText 10 = .ok (.aload_n 0, 1) := by decide +kernel
theorem dX5_clearText_11 : decode cX5_clearText 11 = .ok (.iconst 0, 1) := by decide +kernel
theorem dX5_clearText_12 : decode cX5_clearText 12 = .ok (.putfield 45, 3) := by decide +kernel
theorem dX5_clearText_15 : decode cX5_clearText 15 = .ok (.iload_n 1, 1) := by decide +kernel
theorem dX5_clearText_16 : decode cX5_clearText 16 = .ok (.ireturn, 1) := by decide +kernel
set_option maxRecDepth 20000 in
theorem ggX5_digit_X5_within : GoodIn wsX5_digit wsX5_within := goodIn_r _ [6] (by decide +kernel) (by decide +kernel)
set_option maxRecDepth 20000 in
theorem gX5_digit_X5_within : GoodIn wsX5_digit (va_wsS RX5 41 yX5_within wsX5_within) := goodIn_app (goodIn_of _ (by decide +kernel)) ggX5_digit_X5_within
theorem dX5_digit_0 : decode cX5_digit 0 = .ok (.iload_n 1, 1) := by decide +kernel
theorem dX5_digit_1 : decode cX5_digit 1 = .ok (.aload_n 0, 1) := by decide +kernel
theorem dX5_digit_2 : decode cX5_digit 2 = .ok (.getfield 45, 3) := by decide +kernel
theorem dX5_digit_5 : decode cX5_digit 5 = .ok (.if_icmp .ge 31, 3) := by decide +kernel
theorem dX5_digit_8 : decode cX5_digit 8 = .ok (.aload_n 0, 1) := by decide +kernel
theorem dX5_digit_9 : decode cX5_digit 9 = .ok (.getfield 31, 3) := by decide +kernel
theorem dX5_digit_12 : decode cX5_digit 12 = .ok (.iload_n 1, 1) := by decide +kernel
theorem dX5_digit_13 : decode cX5_digit 13 = .ok (.iaload, 1) := by decide +kernel
theorem dX5_digit_14 : decode cX5_digit 14 = .ok (.bipush 48, 2) := by decide +kernel
theorem dX5_digit_16 : decode cX5_digit 16 = .ok (.bipush 57, 2) := by decide +kernel
theorem dX5_digit_18 : decode cX5_digit 18 = .ok (.invokestatic 41, 3) := by decide +kernel
theorem dX5_digit_21 : decode cX5_digit 21 = .ok (.ifCond .eq 15, 3) := by decide +kernel
theorem dX5_digit_24 : decode cX5_digit 24 = .ok (.aload_n 0, 1) := by decide +kernel
theorem dX5_digit_25 : decode cX5_digit 25 = .ok (.getfield 31, 3) := by decide +kernel
theorem dX5_digit_28 : decode cX5_digit 28 = .ok (.iload_n 1, 1) := by decide +kernel
theorem dX5_digit_29 : decode cX5_digit 29 = .ok (.iaload, 1) := by decide +kernel
theorem dX5_digit_30 : decode cX5_digit 30 = .ok (.bipush 48, 2) := by decide +kernel
theorem dX5_digit_32 : decode cX5_digit 32 = .ok (.isub, 1) := by decide +kernel
theorem dX5_digit_33 : decode cX5_digit 33 = .ok (.goto 4, 3) := by decide +kernel
theorem dX5_digit_36 : decode cX5_digit 36 = .ok (.iconst (-1), 1) := by decide +kernel
theorem dX5_digit_37 : decode cX5_digit 37 = .ok (.ireturn, 1) := by decide +kernel
theorem dX5_isMinus_0 : decode cX5_isMinus 0 = .ok (.iload_n 1, 1) := by decide +kernel
theorem dX5_isMinus_1 : decode cX5_isMinus 1 = .ok (.aload_n 0, 1) := by decide +kernel
theorem dX5_isMinus_2 : decode cX5_isMinus 2 = .ok (.getfield 45, 3) := by decide +kernel
theorem dX5_isMinus_5 : decode cX5_isMinus 5 = .ok (.if_icmp .ge 18, 3) := by decide +kernel
theorem dX5_isMinus_8 : decode cX5_isMinus 8 = .ok (.aload_n 0, 1) := by decide +kernel
theorem dX5_isMinus_9 : decode cX5_isMinus 9 = .ok (.getfield 31, 3) := by decide +kernel
theorem dX5_isMinus_12 : decode cX5_isMinus 12 = .ok (.iload_n 1, 1) := by decide +kernel
theorem dX5_isMinus_13 : decode cX5_isMinus 13 = .ok (.iaload, 1) := by decide +kernel
theorem dX5_isMinus_14 : decode cX5_isMinus 14 = .ok (.bipush 45, 2) := by decide +kernel
theorem dX5_isMinus_16 : decode cX5_isMinus 16 = .ok (.if_icmp .ne 7, 3) := by decide +kernel
theorem dX5_isMinus_19 : decode cX5_isMinus 19 = .ok (.iconst 1, 1) := by decide +kernel
theorem dX5_isMinus_20 : decode cX5_isMinus 20 = .ok (.goto 4, 3) := by decide +kernel
theorem dX5_isMinus_23 : decode cX5_isMinus 23 = .ok (.iconst 0, 1) := by decide +kernel
theorem dX5_isMinus_24 : decode cX5_isMinus 24 = .ok (.ireturn, 1) := by decide +kernel
set_option maxRecDepth 20000 in
theorem ggX5_behindLink_X5_digit : GoodIn wsX5_behindLink wsX5_digit := goodIn_r _ [5, 6, 7, 8, 9, 4, 10, 15, 16, 17, 18, 19, 20, 21, 22, 23, 24, 25, 26, 27] (by decide +kernel) (by decide +kernel)
set_option maxRecDepth 20000 in
theorem gX5_behindLink_X5_digit : GoodIn wsX5_behindLink (wsV RX5 48 RX5 yX5_digit wsX5_digit) := goodIn_app (goodIn_of _ (by decide +kernel)) ggX5_behindLink_X5_digit
set_option maxRecDepth 20000 in
theorem ggX5_behindLink_X5_isMinus : GoodIn wsX5_behindLink wsX5_isMinus := goodIn_r _ [14, 6, 7, 15, 16, 17, 18, 19, 20, 21, 22, 23, 24, 25, 26, 27] (by decide +kernel) (by decide +kernel)
set_option maxRecDepth 20000 in
theorem gX5_behindLink_X5_isMinus : GoodIn wsX5_behindLink (wsV RX5 52 RX5 yX5_isMinus wsX5_isMinus) := goodIn_app (goodIn_of _ (by decide +kernel)) ggX5_behindLink_X5_isMinus
set_option maxRecDepth 20000 in
theorem ggX5_behindLink_X5_within : GoodIn wsX5_behindLink wsX5_within := goodIn_r _ [10] (by decide +kernel) (by decide +kernel)
set_option maxRecDepth 20000 in
theorem gX5_behindLink_X5_within : GoodIn wsX5_behindLink (va_wsS RX5 41 yX5_within wsX5_within) := goodIn_app (goodIn_of _ (by decide +kernel)) ggX5_behindLink_X5_within
theorem dX5_behindLink_0 : decode cX5_behindLink 0 = .ok (.aload_n 0, 1) := by decide +kernel
theorem dX5_behindLink_1 : decode cX5_behindLink 1 = .ok (.iload_n 1, 1) := by decide +kernel
theorem dX5_behindLink_2 : decode cX5_behindLink 2 = .ok (.invokevirtual 48, 3) := by decide +kernel
theorem dX5_behindLink_5 : decode cX5_behindLink 5 = .ok (.istore_n 2, 1) := by decide +kernel
theorem dX5_behindLink_6 : decode cX5_behindLink 6 = .ok (.aload_n 0, 1) := by decide +kernel
theorem dX5_behindLink_7 : decode cX5_behindLink 7 = .ok (.iload_n 1, 1) := by decide +kernel
theorem dX5_behindLink_8 : decode cX5_behindLink 8 = .ok (.invokevirtual 52, 3) := by decide +kernel
theorem dX5_behindLink_11 : decode cX5_behindLink 11 = .ok (.ifCond .ne 14, 3) := by decide +kernel
theorem dX5_behindLink_14 : decode cX5_behindLink 14 = .ok (.iload_n 2, 1) := by decide +kernel
theorem dX5_behindLink_15 : decode cX5_behindLink 15 = .ok (.iconst 0, 1) := by decide +kernel
theorem dX5_behindLink_16 : decode cX5_behindLink 16 = .ok (.iconst 1, 1) := by decide +kernel
theorem dX5_behindLink_17 : decode cX5_behindLink 17 = .ok (.invokestatic 41, 3) := by decide +kernel
theorem dX5_behindLink_20 : decode cX5_behindLink 20 = .ok (.ifCond .ne 5, 3) := by decide +kernel
theorem dX5_behindLink_23 : decode cX5_behindLink 23 = .ok (.iload_n 1, 1) := by decide +kernel
theorem dX5_behindLink_24 : decode cX5_behindLink 24 = .ok (.ireturn, 1) := by decide +kernel
theorem dX5_behindLink_25 : decode cX5_behindLink 25 = .ok (.iload_n 2, 1) := by decide +kernel
theorem dX5_behindLink_26 : decode cX5_behindLink 26 = .ok (.ifCond .ge 13, 3) := by decide +kernel
theorem dX5_behindLink_29 : decode cX5_behindLink 29 = .ok (.aload_n 0, 1) := by decide +kernel
theorem dX5_behindLink_30 : decode cX5_behindLink 30 = .ok (.iload_n 1, 1) := by decide +kernel
theorem dX5_behindLink_31 : decode cX5_behindLink 31 = .ok (.iconst 1, 1) := by decide +kernel
theorem dX5_behindLink_32 : decode cX5_behindLink 32 = .ok (.iadd, 1) := by decide +kernel
theorem dX5_behindLink_33 : decode cX5_behindLink 33 = .ok (.invokevirtual 52, 3) := by decide +kernel
theorem dX5_behindLink_36 : decode cX5_behindLink 36 = .ok (.goto 24, 3) := by decide +kernel
theorem dX5_behindLink_39 : decode cX5_behindLink 39 = .ok (.aload_n 0, 1) := by decide +kernel
theorem dX5_behindLink_40 : decode cX5_behindLink 40 = .ok (.iload_n 1, 1) := by decide +kernel
theorem dX5_behindLink_41 : decode cX5_behindLink 41 = .ok (.iconst 1, 1) := by decide +kernel
theorem dX5_behindLink_42 : decode cX5_behindLink 42 = .ok (.iadd, 1) := by decide +kernel
theorem dX5_behindLink_43 : decode cX5_behindLink 43 = .ok (.invokevirtual 48, 3) := by decide +kernel
theorem dX5_behindLink_46 : decode cX5_behindLink 46 = .ok (.iconst 0, 1) := by decide +kernel
theorem dX5_behindLink_47 : decode cX5_behindLink 47 = .ok (.iload_n 2, 1) := by decide +kernel
theorem dX5_behindLink_48 : decode cX5_behindLink 48 = .ok (.ifCond .ne 8, 3) := by decide +kernel
theorem dX5_behindLink_51 : decode cX5_behindLink 51 = .ok (.bipush 9, 2) := by decide +kernel
theorem dX5_behindLink_53 : decode cX5_behindLink 53 = .ok (.goto 4, 3) := by decide +kernel
theorem dX5_behindLink_56 : decode cX5_behindLink 56 = .ok (.iconst 5, 1) := by decide +kernel
theorem dX5_behindLink_57 : decode cX5_behindLink 57 = .ok (.invokestatic 41, 3) := by decide +kernel
theorem dX5_behindLink_60 : decode cX5_behindLink 60 = .ok (.istore_n 3, 1) := by decide +kernel
theorem dX5_behindLink_61 : decode cX5_behindLink 61 = .ok (.iload_n 3, 1) := by decide +kernel
theorem dX5_behindLink_62 : decode cX5_behindLink 62 = .ok (.ifCond .eq 9, 3) := by decide +kernel
theorem dX5_behindLink_65 : decode cX5_behindLink 65 = .ok (.iload_n 1, 1) := by decide +kernel
theorem dX5_behindLink_66 : decode cX5_behindLink 66 = .ok (.iconst 2, 1) := by decide +kernel
theorem dX5_behindLink_67 : decode cX5_behindLink 67 = .ok (.iadd, 1) := by decide +kernel
theorem dX5_behindLink_68 : decode cX5_behindLink 68 = .ok (.goto 6, 3) := by decide +kernel
theorem dX5_behindLink_71 : decode cX5_behindLink 71 = .ok (.iload_n 1, 1) := by decide +kernel
theorem dX5_behindLink_72 : decode cX5_behindLink 72 = .ok (.iconst 1, 1) := by decide +kernel
theorem dX5_behindLink_73 : decode cX5_behindLink 73 = .ok (.iadd, 1) := by decide +kernel
theorem dX5_behindLink_74 : decode cX5_behindLink 74 = .ok (.ireturn, 1) := by decide +kernel
set_option maxRecDepth 20000 in
theorem ggX5_link_X5_isMinus : GoodIn wsX5_link wsX5_isMinus := goodIn_r _ [5, 6, 7, 15, 16, 17, 18, 19, 20, 21, 22, 23, 24, 25, 26, 27] (by decide +kernel) (by decide +kernel)
set_option maxRecDepth 20000 in
theorem gX5_link_X5_isMinus : GoodIn wsX5_link (wsV RX5 52 RX5 yX5_isMinus wsX5_isMinus) := goodIn_app (goodIn_of _ (by decide +kernel)) ggX5_link_X5_isMinus
set_option maxRecDepth 20000 in
theorem ggX5_link_X5_digit : GoodIn wsX5_link wsX5_digit := goodIn_r _ [11, 6, 7, 12, 13, 4, 14, 15, 16, 17, 18, 19, 20, 21, 22, 23, 24, 25, 26, 27] (by decide +kernel) (by decide +kernel)
set_option maxRecDepth 20000 in
theorem gX5_link_X5_digit : GoodIn wsX5_link (wsV RX5 48 RX5 yX5_digit wsX5_digit) := goodIn_app (goodIn_of _ (by decide +kernel)) ggX5_link_X5_digit
theorem dX5_link_0 : decode cX5_link 0 = .ok (.aload_n 0, 1) := by decide +kernel
theorem dX5_link_1 : decode cX5_link 1 = .ok (.iload_n 1, 1) := by decide +kernel
theorem dX5_link_2 : decode cX5_link 2 = .ok (.invokevirtual 52, 3) := by decide +kernel
theorem dX5_link_5 : decode cX5_link 5 = .ok (.ifCond .eq 7, 3) := by decide +kernel
theorem dX5_link_8 : decode cX5_link 8 = .ok (.iconst (-1), 1) := by decide +kernel
theorem dX5_link_9 : decode cX5_link 9 = .ok (.goto 19, 3) := by decide +kernel
theorem dX5_link_12 : decode cX5_link 12 = .ok (.bipush 10, 2) := by decide +kernel
theorem dX5_link_14 : decode cX5_link 14 = .ok (.aload_n 0, 1) := by decide +kernel
theorem dX5_link_15 : decode cX5_link 15 = .ok (.iload_n 1, 1) := by decide +kernel
theorem dX5_link_16 : decode cX5_link 16 = .ok (.invokevirtual 48, 3) := by decide +kernel
theorem dX5_link_19 : decode cX5_link 19 = .ok (.imul, 1) := by decide +kernel
theorem dX5_link_20 : decode cX5_link 20 = .ok (.aload_n 0, 1) := by decide +kernel
theorem dX5_link_21 : decode cX5_link 21 = .ok (.iload_n 1, 1) := by decide +kernel
theorem dX5_link_22 : decode cX5_link 22 = .ok (.iconst 1, 1) := by decide +kernel
theorem dX5_link_23 : decode cX5_link 23 = .ok (.iadd, 1) := by decide +kernel
theorem dX5_link_24 : decode cX5_link 24 = .ok (.invokevirtual 48, 3) := by decide +kernel
theorem dX5_link_27 : decode cX5_link 27 = .ok (.iadd, 1) := by decide +kernel
theorem dX5_link_28 : decode cX5_link 28 = .ok (.ireturn, 1) := by decide +kernel
set_option maxRecDepth 20000 in
theorem ggX5_readOrder_X5_digit : GoodIn wsX5_readOrder wsX5_digit := goodIn_r _ [7, 8, 1, 9, 10, 6, 11, 24, 25, 26, 27, 28, 29, 30, 31, 32, 33, 34, 35, 36] (by decide +kernel) (by decide +kernel)
set_option maxRecDepth 20000 in
theorem gX5_readOrder_X5_digit : GoodIn wsX5_readOrder (wsV RX5 48 RX5 yX5_digit wsX5_digit) := goodIn_app (goodIn_of _ (by decide +kernel)) ggX5_readOrder_X5_digit
set_option maxRecDepth 20000 in
theorem ggX5_readOrder_X5_within : GoodIn wsX5_readOrder wsX5_within := goodIn_r _ [11] (by decide +kernel) (by decide +kernel)
set_option maxRecDepth 20000 in
theorem gX5_readOrder_X5_within : GoodIn wsX5_readOrder (va_wsS RX5 41 yX5_within wsX5_within) := goodIn_app (goodIn_of _ (by decide +kernel)) ggX5_readOrder_X5_within
set_option maxRecDepth 20000 in
theorem ggX5_readOrder_X5_behindLink : GoodIn wsX5_readOrder wsX5_behindLink := goodIn_r _ [15, 3, 4, 5, 6, 7, 8, 1, 9, 10, 11, 16, 17, 18, 19, 24, 25, 26, 27, 28, 29, 30, 31, 32, 33, 34, 35, 36] (by decide +kernel) (by decide +kernel)
set_option maxRecDepth 20000 in
theorem gX5_readOrder_X5_behindLink : GoodIn wsX5_readOrder (wsV RX5 56 RX5 yX5_behindLink wsX5_behindLink) := goodIn_app (goodIn_of _ (by decide +kernel)) ggX5_readOrder_X5_behindLink
set_option maxRecDepth 20000 in
theorem ggX5_readOrder_X5_link : GoodIn wsX5_readOrder wsX5_link := goodIn_r _ [23, 16, 17, 18, 6, 19, 8, 1, 3, 4, 5, 7, 9, 10, 11, 24, 25, 26, 27, 28, 29, 30, 31, 32, 33, 34, 35, 36] (by decide +kernel) (by decide +kernel)
set_option maxRecDepth 20000 in
theorem gX5_readOrder_X5_link : GoodIn wsX5_readOrder (wsV RX5 59 RX5 yX5_link wsX5_link) := goodIn_app (goodIn_of _ (by decide +kernel)) ggX5_readOrder_X5_link
theorem dX5_readOrder_0 : decode cX5_readOrder 0 = .ok (.aload_n 0, 1) := by decide +kernel
theorem dX5_readOrder_1 : decode cX5_readOrder 1 = .ok (.getfield 31, 3) := by decide +kernel
theorem dX5_readOrder_4 : decode cX5_readOrder 4 = .ok (.iload_n 1, 1) := by decide +kernel
theorem dX5_readOrder_5 : decode cX5_readOrder 5 = .ok (.iaload, 1) := by decide +kernel
theorem dX5_readOrder_6 : decode cX5_readOrder 6 = .ok (.bipush 111, 2) := by decide +kernel
theorem dX5_readOrder_8 : decode cX5_readOrder 8 = .ok (.if_icmp .ne 14, 3) := by decide +kernel
theorem dX5_readOrder_11 : decode cX5_readOrder 11 = .ok (.aload_n 0, 1) := by decide +kernel
theorem dX5_readOrder_12 : decode cX5_readOrder 12 = .ok (.getfield 19, 3) := by decide +kernel
theorem dX5_readOrder_15 : decode cX5_readOrder 15 = .ok (.iconst 2, 1) := by decide +kernel
theorem dX5_readOrder_16 : decode cX5_readOrder 16 = .ok (.iaload, 1) := by decide +kernel
theorem dX5_readOrder_17 : decode cX5_readOrder 17 = .ok (.bipush 16, 2) := by decide +kernel
theorem dX5_readOrder_19 : decode cX5_readOrder 19 = .ok (.if_icmp .ne 5, 3) := by decide +kernel
theorem dX5_readOrder_22 : decode cX5_readOrder 22 = .ok (.iload_n 1, 1) := by decide +kernel
theorem dX5_readOrder_23 : decode cX5_readOrder 23 = .ok (.ireturn, 1) := by decide +kernel
theorem dX5_readOrder_24 : decode cX5_readOrder 24 = .ok (.aload_n 0, 1) := by decide +kernel
theorem dX5_readOrder_25 : decode cX5_readOrder 25 = .ok (.iload_n 1, 1) := by decide +kernel
theorem dX5_readOrder_26 : decode cX5_readOrder 26 = .ok (.iconst 1, 1) := by decide +kernel
theorem dX5_readOrder_27 : decode cX5_readOrder 27 = .ok (.iadd, 1) := by decide +kernel
theorem dX5_readOrder_28 : decode cX5_readOrder 28 = .ok (.invokevirtual 48, 3) := by decide +kernel
theorem dX5_readOrder_31 : decode cX5_readOrder 31 = .ok (.iconst 0, 1) := by decide +kernel
theorem dX5_readOrder_32 : decode cX5_readOrder 32 = .ok (.iconst 3, 1) := by decide +kernel
theorem dX5_readOrder_33 : decode cX5_readOrder 33 = .ok (.invokestatic 41, 3) := by decide +kernel
theorem dX5_readOrder_36 : decode cX5_readOrder 36 = .ok (.ifCond .ne 7, 3) := by decide +kernel
theorem dX5_readOrder_39 : decode cX5_readOrder 39 = .ok (.iload_n 1, 1) := by decide +kernel
theorem dX5_readOrder_40 : decode cX5_readOrder 40 = .ok (.iconst 1, 1) := by decide +kernel
theorem dX5_readOrder_41 : decode cX5_readOrder 41 = .ok (.iadd, 1) := by decide +kernel
theorem dX5_readOrder_42 : decode cX5_readOrder 42 = .ok (.ireturn, 1) := by decide +kernel
theorem dX5_readOrder_43 : decode cX5_readOrder 43 = .ok (.aload_n 0, 1) := by decide +kernel
theorem dX5_readOrder_44 : decode cX5_readOrder 44 = .ok (.iload_n 1, 1) := by decide +kernel
theorem dX5_readOrder_45 : decode cX5_readOrder 45 = .ok (.iconst 2, 1) := by decide +kernel
theorem dX5_readOrder_46 : decode cX5_readOrder 46 = .ok (.iadd, 1) := by decide +kernel
theorem dX5_readOrder_47 : decode cX5_readOrder 47 = .ok (.invokevirtual 48, 3) := by decide +kernel
theorem dX5_readOrder_50 : decode cX5_readOrder 50 = .ok (.iconst 1, 1) := by decide +kernel
theorem dX5_readOrder_51 : decode cX5_readOrder 51 = .ok (.bipush 9, 2) := by decide +kernel
theorem dX5_readOrder_53 : decode cX5_readOrder 53 = .ok (.invokestatic 41, 3) := by decide +kernel
theorem dX5_readOrder_56 : decode cX5_readOrder 56 = .ok (.ifCond .ne 7, 3) := by decide +kernel
theorem dX5_readOrder_59 : decode cX5_readOrder 59 = .ok (.iload_n 1, 1) := by decide +kernel
theorem dX5_readOrder_60 : decode cX5_readOrder 60 = .ok (.iconst 2, 1) := by decide +kernel
theorem dX5_readOrder_61 : decode cX5_readOrder 61 = .ok (.iadd, 1) := by decide +kernel
theorem dX5_readOrder_62 : decode cX5_readOrder 62 = .ok (.ireturn, 1) := by decide +kernel
theorem dX5_readOrder_63 : decode cX5_readOrder 63 = .ok (.aload_n 0, 1) := by decide +kernel
theorem dX5_readOrder_64 : decode cX5_readOrder 64 = .ok (.iload_n 1, 1) := by decide +kernel
theorem dX5_readOrder_65 : decode cX5_readOrder 65 = .ok (.iconst 3, 1) := by decide +kernel
theorem dX5_readOrder_66 : decode cX5_readOrder 66 = .ok (.iadd, 1) := by decide +kernel
theorem dX5_readOrder_67 : decode cX5_readOrder 67 = .ok (.invokevirtual 56, 3) := by decide +kernel
theorem dX5_readOrder_70 : decode cX5_readOrder 70 = .ok (.istore_n 2, 1) := by decide +kernel
theorem dX5_readOrder_71 : decode cX5_readOrder 71 = .ok (.iload_n 2, 1) := by decide +kernel
theorem dX5_readOrder_72 : decode cX5_readOrder 72 = .ok (.iload_n 1, 1) := by decide +kernel
theorem dX5_readOrder_73 : decode cX5_readOrder 73 = .ok (.iconst 5, 1) := by decide +kernel
theorem dX5_readOrder_74 : decode cX5_readOrder 74 = .ok (.iadd, 1) := by decide +kernel
theorem dX5_readOrder_75 : decode cX5_readOrder 75 = .ok (.if_icmp .ge 5, 3) := by decide +kernel
theorem dX5_readOrder_78 : decode cX5_readOrder 78 = .ok (.iload_n 2, 1) := by decide +kernel
theorem dX5_readOrder_79 : decode cX5_readOrder 79 = .ok (.ireturn, 1) := by decide +kernel
theorem dX5_readOrder_80 : decode cX5_readOrder 80 = .ok (.aload_n 0, 1) := by decide +kernel
theorem dX5_readOrder_81 : decode cX5_readOrder 81 = .ok (.iload_n 1, 1) := by decide +kernel
theorem dX5_readOrder_82 : decode cX5_readOrder 82 = .ok (.iconst 5, 1) := by decide +kernel
theorem dX5_readOrder_83 : decode cX5_readOrder 83 = .ok (.iadd, 1) := by decide +kernel
theorem dX5_readOrder_84 : decode cX5_readOrder 84 = .ok (.invokevirtual 56, 3) := by decide +kernel
theorem dX5_readOrder_87 : decode cX5_readOrder 87 = .ok (.istore_n 2, 1) := by decide +kernel
theorem dX5_readOrder_88 : decode cX5_readOrder 88 = .ok (.iload_n 2, 1) := by decide +kernel
theorem dX5_readOrder_89 : decode cX5_readOrder 89 = .ok (.iload_n 1, 1) := by decide +kernel
theorem dX5_readOrder_90 : decode cX5_readOrder 90 = .ok (.bipush 7, 2) := by decide +kernel
theorem dX5_readOrder_92 : decode cX5_readOrder 92 = .ok (.iadd, 1) := by decide +kernel
theorem dX5_readOrder_93 : decode cX5_readOrder 93 = .ok (.if_icmp .ge 5, 3) := by decide +kernel
theorem dX5_readOrder_96 : decode cX5_readOrder 96 = .ok (.iload_n 2, 1) := by decide +kernel
theorem dX5_readOrder_97 : decode cX5_readOrder 97 = .ok (.ireturn, 1) := by decide +kernel
theorem dX5_readOrder_98 : decode cX5_readOrder 98 = .ok (.aload_n 0, 1) := by decide +kernel
theorem dX5_readOrder_99 : decode cX5_readOrder 99 = .ok (.iload_n 1, 1) := by decide +kernel
theorem dX5_readOrder_100 : decode cX5_readOrder 100 = .ok (.bipush 7, 2) := by decide +kernel
theorem dX5_readOrder_102 : decode cX5_readOrder 102 = .ok (.iadd, 1) := by decide +kernel
theorem dX5_readOrder_103 : decode cX5_readOrder 103 = .ok (.invokevirtual 48, 3) := by decide +kernel
theorem dX5_readOrder_106 : decode cX5_readOrder 106 = .ok (.ifCond .lt 14, 3) := by decide +kernel
theorem dX5_readOrder_109 : decode cX5_readOrder 109 = .ok (.aload_n 0, 1) := by decide +kernel
theorem dX5_readOrder_110 : decode cX5_readOrder 110 = .ok (.iload_n 1, 1) := by decide +kernel
theorem dX5_readOrder_111 : decode cX5_readOrder 111 = .ok (.bipush 8, 2) := by decide +kernel
theorem dX5_readOrder_113 : decode cX5_readOrder 113 = .ok (.iadd, 1) := by decide +kernel
theorem dX5_readOrder_114 : decode cX5_readOrder 114 = .ok (.invokevirtual 48, 3) := by decide +kernel
theorem dX5_readOrder_117 : decode cX5_readOrder 117 = .ok (.ifCond .ge 26, 3) := by decide +kernel
theorem dX5_readOrder_120 : decode cX5_readOrder 120 = .ok (.aload_n 0, 1) := by decide +kernel
theorem dX5_readOrder_121 : decode cX5_readOrder 121 = .ok (.iload_n 1, 1) := by decide +kernel
theorem dX5_readOrder_122 : decode cX5_readOrder 122 = .ok (.bipush 7, 2) := by decide +kernel
theorem dX5_readOrder_124 : decode cX5_readOrder 124 = .ok (.iadd, 1) := by decide +kernel
theorem dX5_readOrder_125 : decode cX5_readOrder 125 = .ok (.invokevirtual 48, 3) := by decide +kernel
theorem dX5_readOrder_128 : decode cX5_readOrder 128 = .ok (.ifCond .ge 10, 3) := by decide +kernel
theorem dX5_readOrder_131 : decode cX5_readOrder 131 = .ok (.iload_n 1, 1) := by decide +kernel
theorem dX5_readOrder_132 : decode cX5_readOrder 132 = .ok (.bipush 7, 2) := by decide +kernel
theorem dX5_readOrder_134 : decode cX5_readOrder 134 = .ok (.iadd, 1) := by decide +kernel
theorem dX5_readOrder_135 : decode cX5_readOrder 135 = .ok (.goto 7, 3) := by decide +kernel
theorem dX5_readOrder_138 : decode cX5_readOrder 138 = .ok (.iload_n 1, 1) := by decide +kernel
theorem dX5_readOrder_139 : decode cX5_readOrder 139 = .ok (.bipush 8, 2) := by decide +kernel
theorem dX5_readOrder_141 : decode cX5_readOrder 141 = .ok (.iadd, 1) := by decide +kernel
theorem dX5_readOrder_142 : decode cX5_readOrder 142 = .ok (.ireturn, 1) := by decide +kernel
theorem dX5_readOrder_143 : decode cX5_readOrder 143 = .ok (.bipush 13, 2) := by decide +kernel
theorem dX5_readOrder_145 : decode cX5_readOrder 145 = .ok (.bipush 9, 2) := by decide +kernel
theorem dX5_readOrder_147 : decode cX5_readOrder 147 = .ok (.aload_n 0, 1) := by decide +kernel
theorem dX5_readOrder_148 : decode cX5_readOrder 148 = .ok (.getfield 19, 3) := by decide +kernel
theorem dX5_readOrder_151 : decode cX5_readOrder 151 = .ok (.iconst 2, 1) := by decide +kernel
theorem dX5_readOrder_152 : decode cX5_readOrder 152 = .ok (.iaload, 1) := by decide +kernel
theorem dX5_readOrder_153 : decode cX5_readOrder 153 = .ok (.imul, 1) := by decide +kernel
theorem dX5_readOrder_154 : decode cX5_readOrder 154 = .ok (.iadd, 1) := by decide +kernel
theorem dX5_readOrder_155 : decode cX5_readOrder 155 = .ok (.istore_n 3, 1) := by decide +kernel
theorem dX5_readOrder_156 : decode cX5_readOrder 156 = .ok (.aload_n 0, 1) := by decide +kernel
theorem dX5_readOrder_157 : decode cX5_readOrder 157 = .ok (.getfield 19, 3) := by decide +kernel
theorem dX5_readOrder_160 : decode cX5_readOrder 160 = .ok (.iload_n 3, 1) := by decide +kernel
theorem dX5_readOrder_161 : decode cX5_readOrder 161 = .ok (.iconst 0, 1) := by decide +kernel
theorem dX5_readOrder_162 : decode cX5_readOrder 162 = .ok (.iadd, 1) := by decide +kernel
theorem dX5_readOrder_163 : decode cX5_readOrder 163 = .ok (.aload_n 0, 1) := by decide +kernel
theorem dX5_readOrder_164 : decode cX5_readOrder 164 = .ok (.iload_n 1, 1) := by decide +kernel
theorem dX5_readOrder_165 : decode cX5_readOrder 165 = .ok (.iconst 1, 1) := by decide +kernel
theorem dX5_readOrder_166 : decode cX5_readOrder 166 = .ok (.iadd, 1) := by decide +kernel
theorem dX5_readOrder_167 : decode cX5_readOrder 167 = .ok (.invokevirtual 48, 3) := by decide +kernel
theorem dX5_readOrder_170 : decode cX5_readOrder 170 = .ok (.iastore, 1) := by decide +kernel
theorem dX5_readOrder_171 : decode cX5_readOrder 171 = .ok (.aload_n 0, 1) := by decide +kernel
theorem dX5_readOrder_172 : decode cX5_readOrder 172 = .ok (.getfield 19, 3) := by decide +kernel
theorem dX5_readOrder_175 : decode cX5_readOrder 175 = .ok (.iload_n 3, 1) := by decide +kernel
theorem dX5_readOrder_176 : decode cX5_readOrder 176 = .ok (.iconst 1, 1) := by decide +kernel
theorem dX5_readOrder_177 : decode cX5_readOrder 177 = .ok (.iadd, 1) := by decide +kernel
theorem dX5_readOrder_178 : decode cX5_readOrder 178 = .ok (.aload_n 0, 1) := by decide +kernel
theorem dX5_readOrder_179 : decode cX5_readOrder 179 = .ok (.iload_n 1, 1) := by decide +kernel
theorem dX5_readOrder_180 : decode cX5_readOrder 180 = .ok (.iconst 2, 1) := by decide +kernel
theorem dX5_readOrder_181 : decode cX5_readOrder 181 = .ok (.iadd, 1) := by decide +kernel
theorem dX5_readOrder_182 : decode cX5_readOrder 182 = .ok (.invokevirtual 48, 3) := by decide +kernel
theorem dX5_readOrder_185 : decode cX5_readOrder 185 = .ok (.iastore, 1) := by decide +kernel
theorem dX5_readOrder_186 : decode cX5_readOrder 186 = .ok (.aload_n 0, 1) := by decide +kernel
theorem dX5_readOrder_187 : decode cX5_readOrder 187 = .ok (.getfield 19, 3) := by decide +kernel
theorem dX5_readOrder_190 : decode cX5_readOrder 190 = .ok (.iload_n 3, 1) := by decide +kernel
theorem dX5_readOrder_191 : decode cX5_readOrder 191 = .ok (.iconst 2, 1) := by decide +kernel
theorem dX5_readOrder_192 : decode cX5_readOrder 192 = .ok (.iadd, 1) := by decide +kernel
theorem dX5_readOrder_193 : decode cX5_readOrder 193 = .ok (.aload_n 0, 1) := by decide +kernel
theorem dX5_readOrder_194 : decode cX5_readOrder 194 = .ok (.iload_n 1, 1) := by decide +kernel
theorem dX5_readOrder_195 : decode cX5_readOrder 195 = .ok (.iconst 3, 1) := by decide +kernel
theorem dX5_readOrder_196 : decode cX5_readOrder 196 = .ok (.iadd, 1) := by decide +kernel
theorem dX5_readOrder_197 : decode cX5_readOrder 197 = .ok (.invokevirtual 59, 3) := by decide +kernel
theorem dX5_readOrder_200 : decode cX5_readOrder 200 = .ok (.iastore, 1) := by decide +kernel
theorem dX5_readOrder_201 : decode cX5_readOrder 201 = .ok (.aload_n 0, 1) := by decide +kernel
theorem dX5_readOrder_202 : decode cX5_readOrder 202 = .ok (.getfield 19, 3) := by decide +kernel
theorem dX5_readOrder_205 : decode cX5_readOrder 205 = .ok (.iload_n 3, 1) := by decide +kernel
theorem dX5_readOrder_206 : decode cX5_readOrder 206 = .ok (.iconst 3, 1) := by decide +kernel
theorem dX5_readOrder_207 : decode cX5_readOrder 207 = .ok (.iadd, 1) := by decide +kernel
theorem dX5_readOrder_208 : decode cX5_readOrder 208 = .ok (.aload_n 0, 1) := by decide +kernel
theorem dX5_readOrder_209 : decode cX5_readOrder 209 = .ok (.iload_n 1, 1) := by decide +kernel
theorem dX5_readOrder_210 : decode cX5_readOrder 210 = .ok (.iconst 5, 1) := by decide +kernel
theorem dX5_readOrder_211 : decode cX5_readOrder 211 = .ok (.iadd, 1) := by decide +kernel
theorem dX5_readOrder_212 : decode cX5_readOrder 212 = .ok (.invokevirtual 59, 3) := by decide +kernel
theorem dX5_readOrder_215 : decode cX5_readOrder 215 = .ok (.iastore, 1) := by decide +kernel
theorem dX5_readOrder_216 : decode cX5_readOrder 216 = .ok (.aload_n 0, 1) := by decide +kernel
theorem dX5_readOrder_217 : decode cX5_readOrder 217 = .ok (.getfield 19, 3) := by decide +kernel
theorem dX5_readOrder_220 : decode cX5_readOrder 220 = .ok (.iload_n 3, 1) := by decide +kernel
theorem dX5_readOrder_221 : decode cX5_readOrder 221 = .ok (.iconst 4, 1) := by decide +kernel
theorem dX5_readOrder_222 : decode cX5_readOrder 222 = .ok (.iadd, 1) := by decide +kernel
theorem dX5_readOrder_223 : decode cX5_readOrder 223 = .ok (.bipush 10, 2) := by decide +kernel
theorem dX5_readOrder_225 : decode cX5_readOrder 225 = .ok (.aload_n 0, 1) := by decide +kernel
theorem dX5_readOrder_226 : decode cX5_readOrder 226 = .ok (.iload_n 1, 1) := by decide +kernel
theorem dX5_readOrder_227 : decode cX5_readOrder 227 = .ok (.bipush 7, 2) := by decide +kernel
theorem dX5_readOrder_229 : decode cX5_readOrder 229 = .ok (.iadd, 1) := by decide +kernel
theorem dX5_readOrder_230 : decode cX5_readOrder 230 = .ok (.invokevirtual 48, 3) := by decide +kernel
theorem dX5_readOrder_233 : decode cX5_readOrder 233 = .ok (.imul, 1) := by decide +kernel
theorem dX5_readOrder_234 : decode cX5_readOrder 234 = .ok (.aload_n 0, 1) := by decide +kernel
theorem dX5_readOrder_235 : decode cX5_readOrder 235 = .ok (.iload_n 1, 1) := by decide +kernel
theorem dX5_readOrder_236 : decode cX5_readOrder 236 = .ok (.bipush 8, 2) := by decide +kernel
theorem dX5_readOrder_238 : decode cX5_readOrder 238 = .ok (.iadd, 1) := by decide +kernel
theorem dX5_readOrder_239 : decode cX5_readOrder 239 = .ok (.invokevirtual 48, 3) := by decide +kernel
theorem dX5_readOrder_242 : decode cX5_readOrder 242 = .ok (.iadd, 1) := by decide +kernel
theorem dX5_readOrder_243 : decode cX5_readOrder 243 = .ok (.iastore, 1) := by decide +kernel
theorem dX5_readOrder_244 : decode cX5_readOrder 244 = .ok (.aload_n 0, 1) := by decide +kernel
theorem dX5_readOrder_245 : decode cX5_readOrder 245 = .ok (.getfield 19, 3) := by decide +kernel
theorem dX5_readOrder_248 : decode cX5_readOrder 248 = .ok (.iload_n 3, 1) := by decide +kernel
theorem dX5_readOrder_249 : decode cX5_readOrder 249 = .ok (.iconst 5, 1) := by decide +kernel
theorem dX5_readOrder_250 : decode cX5_readOrder 250 = .ok (.iadd, 1) := by decide +kernel
theorem dX5_readOrder_251 : decode cX5_readOrder 251 = .ok (.iconst (-1), 1) := by decide +kernel
theorem dX5_readOrder_252 : decode cX5_readOrder 252 = .ok (.iastore, 1) := by decide +kernel
theorem dX5_readOrder_253 : decode cX5_readOrder 253 = .ok (.aload_n 0, 1) := by decide +kernel
theorem dX5_readOrder_254 : decode cX5_readOrder 254 = .ok (.getfield 19, 3) := by decide +kernel
theorem dX5_readOrder_257 : decode cX5_readOrder 257 = .ok (.iload_n 3, 1) := by decide +kernel
theorem dX5_readOrder_258 : decode cX5_readOrder 258 = .ok (.bipush 6, 2) := by decide +kernel
theorem dX5_readOrder_260 : decode cX5_readOrder 260 = .ok (.iadd, 1) := by decide +kernel
theorem dX5_readOrder_261 : decode cX5_readOrder 261 = .ok (.iconst (-1), 1) := by decide +kernel
theorem dX5_readOrder_262 : decode cX5_readOrder 262 = .ok (.iastore, 1) := by decide +kernel
theorem dX5_readOrder_263 : decode cX5_readOrder 263 = .ok (.aload_n 0, 1) := by decide +kernel
theorem dX5_readOrder_264 : decode cX5_readOrder 264 = .ok (.getfield 19, 3) := by decide +kernel
theorem dX5_readOrder_267 : decode cX5_readOrder 267 = .ok (.iload_n 3, 1) := by decide +kernel
theorem dX5_readOrder_268 : decode cX5_readOrder 268 = .ok (.bipush 7, 2) := by decide +kernel
theorem dX5_readOrder_270 : decode cX5_readOrder 270 = .ok (.iadd, 1) := by decide +kernel
theorem dX5_readOrder_271 : decode cX5_readOrder 271 = .ok (.iconst 0, 1) := by decide +kernel
theorem dX5_readOrder_272 : decode cX5_readOrder 272 = .ok (.iastore, 1) := by decide +kernel
theorem dX5_readOrder_273 : decode cX5_readOrder 273 = .ok (.aload_n 0, 1) := by decide +kernel
theorem dX5_readOrder_274 : decode cX5_readOrder 274 = .ok (.getfield 19, 3) := by decide +kernel
theorem dX5_readOrder_277 : decode cX5_readOrder 277 = .ok (.iload_n 3, 1) := by decide +kernel
theorem dX5_readOrder_278 : decode cX5_readOrder 278 = .ok (.bipush 8, 2) := by decide +kernel
theorem dX5_readOrder_280 : decode cX5_readOrder 280 = .ok (.iadd, 1) := by decide +kernel
theorem dX5_readOrder_281 : decode cX5_readOrder 281 = .ok (.iconst (-1), 1) := by decide +kernel
theorem dX5_readOrder_282 : decode cX5_readOrder 282 = .ok (.iastore, 1) := by decide +kernel
theorem dX5_readOrder_283 : decode cX5_readOrder 283 = .ok (.aload_n 0, 1) := by decide +kernel
theorem dX5_readOrder_284 : decode cX5_readOrder 284 = .ok (.getfield 19, 3) := by decide +kernel
theorem dX5_readOrder_287 : decode cX5_readOrder 287 = .ok (.iconst 2, 1) := by decide +kernel
theorem dX5_readOrder_288 : decode cX5_readOrder 288 = .ok (.dup2, 1) := by decide +kernel
theorem dX5_readOrder_289 : decode cX5_readOrder 289 = .ok (.iaload, 1) := by decide +kernel
theorem dX5_readOrder_290 : decode cX5_readOrder 290 = .ok (.iconst 1, 1) := by decide +kernel
theorem dX5_readOrder_291 : decode cX5_readOrder 291 = .ok (.iadd, 1) := by decide +kernel
theorem dX5_readOrder_292 : decode cX5_readOrder 292 = .ok (.iastore, 1) := by decide +kernel
theorem dX5_readOrder_293 : decode cX5_readOrder 293 = .ok (.iconst (-1), 1) := by decide +kernel
theorem dX5_readOrder_294 : decode cX5_readOrder 294 = .ok (.ireturn, 1) := by decide +kernel
set_option maxRecDepth 20000 in
theorem ggX5_readText_X5_digit : GoodIn wsX5_readText wsX5_digit := goodIn_r _ [8, 2, 3, 9, 10, 7, 11, 28, 29, 30, 31, 32, 33, 34, 35, 36, 37, 38, 39, 40] (by decide +kernel) (by decide +kernel)
set_option maxRecDepth 20000 in
theorem gX5_readText_X5_digit : GoodIn wsX5_readText (wsV RX5 48 RX5 yX5_digit wsX5_digit) := goodIn_app (goodIn_of _ (by decide +kernel)) ggX5_readText_X5_digit
set_option maxRecDepth 20000 in
theorem ggX5_readText_X5_within : GoodIn wsX5_readText wsX5_within := goodIn_r _ [11] (by decide +kernel) (by decide +kernel)
set_option maxRecDepth 20000 in
theorem gX5_readText_X5_within : GoodIn wsX5_readText (va_wsS RX5 41 yX5_within wsX5_within) := goodIn_app (goodIn_of _ (by decide +kernel)) ggX5_readText_X5_within
set_option maxRecDepth 20000 in
theorem ggX5_readText_X5_readOrder : GoodIn wsX5_readText wsX5_readOrder := goodIn_r _ [15, 3, 1, 4, 5, 6, 7, 8, 2, 9, 10, 11, 16, 17, 18, 19, 20, 21, 22, 23, 24, 25, 26, 27, 28, 29, 30, 31, 32, 33, 34, 35, 36, 37, 38, 39, 40] (by decide +kernel) (by decide +kernel)
set_option maxRecDepth 20000 in
theorem gX5_readText_X5_readOrder : GoodIn wsX5_readText (wsV RX5 62 RX5 yX5_readOrder wsX5_readOrder) := goodIn_app (goodIn_of _ (by decide +kernel)) ggX5_readText_X5_readOrder
theorem dX5_readText_0 : decode cX5_readText 0 = .ok (.iconst 0, 1) := by decide +kernel
theorem dX5_readText_1 : decode cX5_readText 1 = .ok (.istore_n 1, 1) := by decide +kernel
theorem dX5_readText_2 : decode cX5_readText 2 = .ok (.iload_n 1, 1) := by decide +kernel
theorem dX5_readText_3 : decode cX5_readText 3 = .ok (.sipush 925, 3) := by decide +kernel
theorem dX5_readText_6 : decode cX5_readText 6 = .ok (.if_icmp .ge 16, 3) := by decide +kernel
theorem dX5_readText_9 : decode cX5_readText 9 = .ok (.aload_n 0, 1) := by decide +kernel
theorem dX5_readText_10 : decode cX5_readText 10 = .ok (.getfield 19, 3) := by decide +kernel
theorem dX5_readText_13 : decode cX5_readText 13 = .ok (.iload_n 1, 1) := by decide +kernel
theorem dX5_readText_14 : decode cX5_readText 14 = .ok (.iconst 0, 1) := by decide +kernel
theorem dX5_readText_15 : decode cX5_readText 15 = .ok (.iastore, 1) := by decide +kernel
theorem dX5_readText_16 : decode cX5_readText 16 = .ok (.iinc 1 1, 3) := by decide +kernel
theorem dX5_readText_19 : decode cX5_readText 19 = .ok (.goto (-17), 3) := by decide +kernel
theorem dX5_readText_22 : decode cX5_readText 22 = .ok (.aload_n 0, 1) := by decide +kernel
theorem dX5_readText_23 : decode cX5_readText 23 = .ok (.getfield 19, 3) := by decide +kernel
theorem dX5_readText_26 : decode cX5_readText 26 = .ok (.iconst 4, 1) := by decide +kernel
theorem dX5_readText_27 : decode cX5_readText 27 = .ok (.iconst (-1), 1) := by decide +kernel
theorem dX5_readText_28 : decode cX5_readText 28 = .ok (.iastore, 1) := by decide +kernel
theorem dX5_readText_29 : decode cX5_readText 29 = .ok (.aload_n 0, 1) := by decide +kernel
theorem dX5_readText_30 : decode cX5_readText 30 = .ok (.getfield 45, 3) := by decide +kernel
theorem dX5_readText_33 : decode cX5_readText 33 = .ok (.ifCond .eq 14, 3) := by decide +kernel
theorem dX5_readText_36 : decode cX5_readText 36 = .ok (.aload_n 0, 1) := by decide +kernel
theorem dX5_readText_37 : decode cX5_readText 37 = .ok (.getfield 31, 3) := by decide +kernel
theorem dX5_readText_40 : decode cX5_readText 40 = .ok (.iconst 0, 1) := by decide +kernel
theorem dX5_readText_41 : decode cX5_readText 41 = .ok (.iaload, 1) := by decide +kernel
theorem dX5_readText_42 : decode cX5_readText 42 = .ok (.bipush 68, 2) := by decide +kernel
theorem dX5_readText_44 : decode cX5_readText 44 = .ok (.if_icmp .eq 5, 3) := by decide +kernel
theorem dX5_readText_47 : decode cX5_readText 47 = .ok (.iconst 0, 1) := by decide +kernel
theorem dX5_readText_48 : decode cX5_readText 48 = .ok (.ireturn, 1) := by decide +kernel
theorem dX5_readText_49 : decode cX5_readText 49 = .ok (.aload_n 0, 1) := by decide +kernel
theorem dX5_readText_50 : decode cX5_readText 50 = .ok (.iconst 1, 1) := by decide +kernel
theorem dX5_readText_51 : decode cX5_readText 51 = .ok (.invokevirtual 48, 3) := by decide +kernel
theorem dX5_readText_54 : decode cX5_readText 54 = .ok (.istore_n 1, 1) := by decide +kernel
theorem dX5_readText_55 : decode cX5_readText 55 = .ok (.iload_n 1, 1) := by decide +kernel
theorem dX5_readText_56 : decode cX5_readText 56 = .ok (.iconst 0, 1) := by decide +kernel
theorem dX5_readText_57 : decode cX5_readText 57 = .ok (.iconst 4, 1) := by decide +kernel
theorem dX5_readText_58 : decode cX5_readText 58 = .ok (.invokestatic 41, 3) := by decide +kernel
theorem dX5_readText_61 : decode cX5_readText 61 = .ok (.ifCond .ne 5, 3) := by decide +kernel
theorem dX5_readText_64 : decode cX5_readText 64 = .ok (.iconst 1, 1) := by decide +kernel
theorem dX5_readText_65 : decode cX5_readText 65 = .ok (.ireturn, 1) := by decide +kernel
theorem dX5_readText_66 : decode cX5_readText 66 = .ok (.aload_n 0, 1) := by decide +kernel
theorem dX5_readText_67 : decode cX5_readText 67 = .ok (.iconst 2, 1) := by decide +kernel
theorem dX5_readText_68 : decode cX5_readText 68 = .ok (.invokevirtual 48, 3) := by decide +kernel
theorem dX5_readText_71 : decode cX5_readText 71 = .ok (.iload_n 1, 1) := by decide +kernel
theorem dX5_readText_72 : decode cX5_readText 72 = .ok (.ifCond .ne 8, 3) := by decide +kernel
theorem dX5_readText_75 : decode cX5_readText 75 = .ok (.bipush 6, 2) := by decide +kernel
theorem dX5_readText_77 : decode cX5_readText 77 = .ok (.goto 4, 3) := by decide +kernel
theorem dX5_readText_80 : decode cX5_readText 80 = .ok (.iconst 0, 1) := by decide +kernel
theorem dX5_readText_81 : decode cX5_readText 81 = .ok (.iload_n 1, 1) := by decide +kernel
theorem dX5_readText_82 : decode cX5_readText 82 = .ok (.iconst 4, 1) := by decide +kernel
theorem dX5_readText_83 : decode cX5_readText 83 = .ok (.if_icmp .ne 7, 3) := by decide +kernel
theorem dX5_readText_86 : decode cX5_readText 86 = .ok (.iconst 0, 1) := by decide +kernel
theorem dX5_readText_87 : decode cX5_readText 87 = .ok (.goto 5, 3) := by decide +kernel
theorem dX5_readText_90 : decode cX5_readText 90 = .ok (.bipush 9, 2) := by decide +kernel
theorem dX5_readText_92 : decode cX5_readText 92 = .ok (.invokestatic 41, 3) := by decide +kernel
theorem dX5_readText_95 : decode cX5_readText 95 = .ok (.ifCond .ne 5, 3) := by decide +kernel
theorem dX5_readText_98 : decode cX5_readText 98 = .ok (.iconst 2, 1) := by decide +kernel
theorem dX5_readText_99 : decode cX5_readText 99 = .ok (.ireturn, 1) := by decide +kernel
theorem dX5_readText_100 : decode cX5_readText 100 = .ok (.aload_n 0, 1) := by decide +kernel
theorem dX5_readText_101 : decode cX5_readText 101 = .ok (.getfield 19, 3) := by decide +kernel
theorem dX5_readText_104 : decode cX5_readText 104 = .ok (.iconst 0, 1) := by decide +kernel
theorem dX5_readText_105 : decode cX5_readText 105 = .ok (.bipush 10, 2) := by decide +kernel
theorem dX5_readText_107 : decode cX5_readText 107 = .ok (.iload_n 1, 1) := by decide +kernel
theorem dX5_readText_108 : decode cX5_readText 108 = .ok (.imul, 1) := by decide +kernel
theorem dX5_readText_109 : decode cX5_readText 109 = .ok (.aload_n 0, 1) := by decide +kernel
theorem dX5_readText_110 : decode cX5_readText 110 = .ok (.iconst 2, 1) := by decide +kernel
theorem dX5_readText_111 : decode cX5_readText 111 = .ok (.invokevirtual 48, 3) := by decide +kernel
theorem dX5_readText_114 : decode cX5_readText 114 = .ok (.iadd, 1) := by decide +kernel
theorem dX5_readText_115 : decode cX5_readText 115 = .ok (.iastore, 1) := by decide +kernel
theorem dX5_readText_116 : decode cX5_readText 116 = .ok (.iconst 3, 1) := by decide +kernel
theorem dX5_readText_117 : decode cX5_readText 117 = .ok (.istore_n 2, 1) := by decide +kernel
theorem dX5_readText_118 : decode cX5_readText 118 = .ok (.iload_n 2, 1) := by decide +kernel
theorem dX5_readText_119 : decode cX5_readText 119 = .ok (.aload_n 0, 1) := by decide +kernel
theorem dX5_readText_120 : decode cX5_readText 120 = .ok (.getfield 45, 3) := by decide +kernel
theorem dX5_readText_123 : decode cX5_readText 123 = .ok (.if_icmp .ge 22, 3) := by decide +kernel
theorem dX5_readText_126 : decode cX5_readText 126 = .ok (.aload_n 0, 1) := by decide +kernel
theorem dX5_readText_127 : decode cX5_readText 127 = .ok (.iload_n 2, 1) := by decide +kernel
theorem dX5_readText_128 : decode cX5_readText 128 = .ok (.invokevirtual 62, 3) := by decide +kernel
theorem dX5_readText_131 : decode cX5_readText 131 = .ok (.istore_n 3, 1) := by decide +kernel
theorem dX5_readText_132 : decode cX5_readText 132 = .ok (.iload_n 3, 1) := by decide +kernel
theorem dX5_readText_133 : decode cX5_readText 133 = .ok (.iconst (-1), 1) := by decide +kernel
theorem dX5_readText_134 : decode cX5_readText 134 = .ok (.if_icmp .eq 5, 3) := by decide +kernel
theorem dX5_readText_137 : decode cX5_readText 137 = .ok (.iload_n 3, 1) := by decide +kernel
theorem dX5_readText_138 : decode cX5_readText 138 = .ok (.ireturn, 1) := by decide +kernel
theorem dX5_readText_139 : decode cX5_readText 139 = .ok (.iinc 2 9, 3) := by decide +kernel
theorem dX5_readText_142 : decode cX5_readText 142 = .ok (.goto (-24), 3) := by decide +kernel
theorem dX5_readText_145 : decode cX5_readText 145 = .ok (.iconst (-1), 1) := by decide +kernel
theorem dX5_readText_146 : decode cX5_readText 146 = .ok (.ireturn, 1) := by decide +kernel
set_option maxRecDepth 20000 in
theorem ggX5_errorPosition_X5_readText : GoodIn wsX5_errorPosition wsX5_readText := goodIn_r _ [6, 7, 8, 9, 10, 11, 12, 5, 13, 14, 15, 16, 17, 18, 19, 20, 21, 22, 23, 24, 25, 26, 27, 28, 29, 30, 31, 32, 33, 34, 35, 36, 37, 38, 39, 40, 41, 42, 43, 44, 45] (by decide +kernel) (by decide +kernel)
set_option maxRecDepth 20000 in
theorem gX5_errorPosition_X5_readText : GoodIn wsX5_errorPosition (wsV RX5 65 RX5 yX5_readText wsX5_readText) := goodIn_app (goodIn_of _ (by decide +kernel)) ggX5_errorPosition_X5_readText
theorem dX5_errorPosition_0 : decode cX5_errorPosition 0 = .ok (.aload_n 0, 1) := by decide +kernel
theorem dX5_errorPosition_1 : decode cX5_errorPosition 1 = .ok (.iconst 0, 1) := by decide +kernel
theorem dX5_errorPosition_2 : decode cX5_errorPosition 2 = .ok (.putfield 37, 3) := by decide +kernel
theorem dX5_errorPosition_5 : decode cX5_errorPosition 5 = .ok (.aload_n 0, 1) := by decide +kernel
theorem dX5_errorPosition_6 : decode cX5_errorPosition 6 = .ok (.invokevirtual 65, 3) := by decide +kernel
theorem dX5_errorPosition_9 : decode cX5_errorPosition 9 = .ok (.ireturn, 1) := by decide +kernel
set_option maxRecDepth 20000 in
theorem ggX5_load_X5_readText : GoodIn wsX5_load wsX5_readText := goodIn_r _ [10, 2, 11, 12, 13, 14, 15, 9, 16, 17, 18, 19, 20, 21, 22, 23, 24, 25, 26, 27, 28, 29, 30, 31, 32, 33, 34, 35, 39, 40, 41, 42, 43, 44, 45, 46, 47, 48, 49, 50, 51] (by decide +kernel) (by decide +kernel)
set_option maxRecDepth 20000 in
theorem gX5_load_X5_readText : GoodIn wsX5_load (wsV RX5 65 RX5 yX5_readText wsX5_readText) := goodIn_app (goodIn_of _ (by decide +kernel)) ggX5_load_X5_readText
set_option maxRecDepth 20000 in
theorem ggX5_load_X5_copy : GoodIn wsX5_load wsX5_copy := goodIn_r _ [38] (by decide +kernel) (by decide +kernel)
set_option maxRecDepth 20000 in
theorem gX5_load_X5_copy : GoodIn wsX5_load (va_wsS RX5 69 yX5_copy wsX5_copy) := goodIn_app (goodIn_of _ (by decide +kernel)) ggX5_load_X5_copy
theorem dX5_load_0 : decode cX5_load 0 = .ok (.aload_n 0, 1) := by decide +kernel
theorem dX5_load_1 : decode cX5_load 1 = .ok (.aload_n 0, 1) := by decide +kernel
theorem dX5_load_2 : decode cX5_load 2 = .ok (.invokevirtual 65, 3) := by decide +kernel
theorem dX5_load_5 : decode cX5_load 5 = .ok (.iconst (-1), 1) := by decide +kernel
theorem dX5_load_6 : decode cX5_load 6 = .ok (.if_icmp .ne 7, 3) := by decide +kernel
theorem dX5_load_9 : decode cX5_load 9 = .ok (.iconst 0, 1) := by decide +kernel
theorem dX5_load_10 : decode cX5_load 10 = .ok (.goto 4, 3) := by decide +kernel
theorem dX5_load_13 : decode cX5_load 13 = .ok (.iconst 1, 1) := by decide +kernel
theorem dX5_load_14 : decode cX5_load 14 = .ok (.putfield 37, 3) := by decide +kernel
theorem dX5_load_17 : decode cX5_load 17 = .ok (.aload_n 0, 1) := by decide +kernel
theorem dX5_load_18 : decode cX5_load 18 = .ok (.getfield 37, 3) := by decide +kernel
theorem dX5_load_21 : decode cX5_load 21 = .ok (.ifCond .le 5, 3) := by decide +kernel
theorem dX5_load_24 : decode cX5_load 24 = .ok (.iconst 0, 1) := by decide +kernel
theorem dX5_load_25 : decode cX5_load 25 = .ok (.ireturn, 1) := by decide +kernel
theorem dX5_load_26 : decode cX5_load 26 = .ok (.aload_n 0, 1) := by decide +kernel
theorem dX5_load_27 : decode cX5_load 27 = .ok (.getfield 19, 3) := by decide +kernel
theorem dX5_load_30 : decode cX5_load 30 = .ok (.iconst 0, 1) := by decide +kernel
theorem dX5_load_31 : decode cX5_load 31 = .ok (.aload_n 0, 1) := by decide +kernel
theorem dX5_load_32 : decode cX5_load 32 = .ok (.getfield 7, 3) := by decide +kernel
theorem dX5_load_35 : decode cX5_load 35 = .ok (.iconst 0, 1) := by decide +kernel
theorem dX5_load_36 : decode cX5_load 36 = .ok (.invokestatic 69, 3) := by decide +kernel
theorem dX5_load_39 : decode cX5_load 39 = .ok (.aload_n 0, 1) := by decide +kernel
theorem dX5_load_40 : decode cX5_load 40 = .ok (.iconst 0, 1) := by decide +kernel
theorem dX5_load_41 : decode cX5_load 41 = .ok (.putfield 73, 3) := by decide +kernel
theorem dX5_load_44 : decode cX5_load 44 = .ok (.aload_n 0, 1) := by decide +kernel
theorem dX5_load_45 : decode cX5_load 45 = .ok (.getfield 28, 3) := by decide +kernel
theorem dX5_load_48 : decode cX5_load 48 = .ok (.iconst 0, 1) := by decide +kernel
theorem dX5_load_49 : decode cX5_load 49 = .ok (.iconst 0, 1) := by decide +kernel
theorem dX5_load_50 : decode cX5_load 50 = .ok (.iastore, 1) := by decide +kernel
theorem dX5_load_51 : decode cX5_load 51 = .ok (.aload_n 0, 1) := by decide +kernel
theorem dX5_load_52 : decode cX5_load 52 = .ok (.getfield 28, 3) := by decide +kernel
theorem dX5_load_55 : decode cX5_load 55 = .ok (.iconst 1, 1) := by decide +kernel
theorem dX5_load_56 : decode cX5_load 56 = .ok (.iconst 0, 1) := by decide +kernel
theorem dX5_load_57 : decode cX5_load 57 = .ok (.iastore, 1) := by decide +kernel
theorem dX5_load_58 : decode cX5_load 58 = .ok (.aload_n 0, 1) := by decide +kernel
theorem dX5_load_59 : decode cX5_load 59 = .ok (.getfield 7, 3) := by decide +kernel
theorem dX5_load_62 : decode cX5_load 62 = .ok (.iconst 2, 1) := by decide +kernel
theorem dX5_load_63 : decode cX5_load 63 = .ok (.iaload, 1) := by decide +kernel
theorem dX5_load_64 : decode cX5_load 64 = .ok (.ireturn, 1) := by decide +kernel
set_option maxRecDepth 20000 in
theorem ggX5_isOrder_X5_within : GoodIn wsX5_isOrder wsX5_within := goodIn_r _ [5] (by decide +kernel) (by decide +kernel)
set_option maxRecDepth 20000 in
theorem gX5_isOrder_X5_within : GoodIn wsX5_isOrder (va_wsS RX5 41 yX5_within wsX5_within) := goodIn_app (goodIn_of _ (by decide +kernel)) ggX5_isOrder_X5_within
theorem dX5_isOrder_0 : decode cX5_isOrder 0 = .ok (.iload_n 1, 1) := by decide +kernel
theorem dX5_isOrder_1 : decode cX5_isOrder 1 = .ok (.iconst 0, 1) := by decide +kernel
theorem dX5_isOrder_2 : decode cX5_isOrder 2 = .ok (.aload_n 0, 1) := by decide +kernel
theorem dX5_isOrder_3 : decode cX5_isOrder 3 = .ok (.getfield 7, 3) := by decide +kernel
theorem dX5_isOrder_6 : decode cX5_isOrder 6 = .ok (.iconst 2, 1) := by decide +kernel
theorem dX5_isOrder_7 : decode cX5_isOrder 7 = .ok (.iaload, 1) := by decide +kernel
theorem dX5_isOrder_8 : decode cX5_isOrder 8 = .ok (.iconst 1, 1) := by decide +kernel
theorem dX5_isOrder_9 : decode cX5_isOrder 9 = .ok (.isub, 1) := by decide +kernel
theorem dX5_isOrder_10 : decode cX5_isOrder 10 = .ok (.invokestatic 41, 3) := by decide +kernel
theorem dX5_isOrder_13 : decode cX5_isOrder 13 = .ok (.ireturn, 1) := by decide +kernel
set_option maxRecDepth 20000 in
theorem ggX5_isPlace_X5_within : GoodIn wsX5_isPlace wsX5_within := goodIn_r _ [5] (by decide +kernel) (by decide +kernel)
set_option maxRecDepth 20000 in
theorem gX5_isPlace_X5_within : GoodIn wsX5_isPlace (va_wsS RX5 41 yX5_within wsX5_within) := goodIn_app (goodIn_of _ (by decide +kernel)) ggX5_isPlace_X5_within
theorem dX5_isPlace_0 : decode cX5_isPlace 0 = .ok (.iload_n 1, 1) := by decide +kernel
theorem dX5_isPlace_1 : decode cX5_isPlace 1 = .ok (.iconst 0, 1) := by decide +kernel
theorem dX5_isPlace_2 : decode cX5_isPlace 2 = .ok (.aload_n 0, 1) := by decide +kernel
theorem dX5_isPlace_3 : decode cX5_isPlace 3 = .ok (.getfield 7, 3) := by decide +kernel
theorem dX5_isPlace_6 : decode cX5_isPlace 6 = .ok (.iconst 0, 1) := by decide +kernel
theorem dX5_isPlace_7 : decode cX5_isPlace 7 = .ok (.iaload, 1) := by decide +kernel
theorem dX5_isPlace_8 : decode cX5_isPlace 8 = .ok (.iconst 1, 1) := by decide +kernel
theorem dX5_isPlace_9 : decode cX5_isPlace 9 = .ok (.isub, 1) := by decide +kernel
theorem dX5_isPlace_10 : decode cX5_isPlace 10 = .ok (.invokestatic 41, 3) := by decide +kernel
theorem dX5_isPlace_13 : decode cX5_isPlace 13 = .ok (.ireturn, 1) := by decide +kernel
theorem dX5_part_0 : decode cX5_part 0 = .ok (.aload_n 0, 1) := by decide +kernel
theorem dX5_part_1 : decode cX5_part 1 = .ok (.getfield 7, 3) := by decide +kernel
theorem dX5_part_4 : decode cX5_part 4 = .ok (.bipush 13, 2) := by decide +kernel
theorem dX5_part_6 : decode cX5_part 6 = .ok (.bipush 9, 2) := by decide +kernel
theorem dX5_part_8 : decode cX5_part 8 = .ok (.iload_n 1, 1) := by decide +kernel
theorem dX5_part_9 : decode cX5_part 9 = .ok (.imul, 1) := by decide +kernel
theorem dX5_part_10 : decode cX5_part 10 = .ok (.iadd, 1) := by decide +kernel
theorem dX5_part_11 : decode cX5_part 11 = .ok (.iload_n 2, 1) := by decide +kernel
theorem dX5_part_12 : decode cX5_part 12 = .ok (.iadd, 1) := by decide +kernel
theorem dX5_part_13 : decode cX5_part 13 = .ok (.iaload, 1) := by decide +kernel
theorem dX5_part_14 : decode cX5_part 14 = .ok (.ireturn, 1) := by decide +kernel
theorem dX5_setPart_0 : decode cX5_setPart 0 = .ok (.aload_n 0, 1) := by decide +kernel
theorem dX5_setPart_1 : decode cX5_setPart 1 = .ok (.getfield 7, 3) := by decide +kernel
theorem dX5_setPart_4 : decode cX5_setPart 4 = .ok (.bipush 13, 2) := by decide +kernel
theorem dX5_setPart_6 : decode cX5_setPart 6 = .ok (.bipush 9, 2) := by decide +kernel
theorem dX5_setPart_8 : decode cX5_setPart 8 = .ok (.iload_n 1, 1) := by decide +kernel
theorem dX5_setPart_9 : decode cX5_setPart 9 = .ok (.imul, 1) := by decide +kernel
theorem dX5_setPart_10 : decode cX5_setPart 10 = .ok (.iadd, 1) := by decide +kernel
theorem dX5_setPart_11 : decode cX5_setPart 11 = .ok (.iload_n 2, 1) := by decide +kernel
theorem dX5_setPart_12 : decode cX5_setPart 12 = .ok (.iadd, 1) := by decide +kernel
theorem dX5_setPart_13 : decode cX5_setPart 13 = .ok (.iload_n 3, 1) := by decide +kernel
theorem dX5_setPart_14 : decode cX5_setPart 14 = .ok (.iastore, 1) := by decide +kernel
theorem dX5_setPart_15 : decode cX5_setPart 15 = .ok (.return_, 1) := by decide +kernel
set_option maxRecDepth 20000 in
theorem ggX5_standing_X5_part : GoodIn wsX5_standing wsX5_part := goodIn_r _ [6, 1, 7, 8, 9, 10, 11, 12, 13, 14, 15, 16, 17, 18, 19] (by decide +kernel) (by decide +kernel)
set_option maxRecDepth 20000 in
theorem gX5_standing_X5_part : GoodIn wsX5_standing (wsV RX5 76 RX5 yX5_part wsX5_part) := goodIn_app (goodIn_of _ (by decide +kernel)) ggX5_standing_X5_part
theorem dX5_standing_0 : decode cX5_standing 0 = .ok (.iconst (-1), 1) := by decide +kernel
theorem dX5_standing_1 : decode cX5_standing 1 = .ok (.istore_n 2, 1) := by decide +kernel
theorem dX5_standing_2 : decode cX5_standing 2 = .ok (.iconst 0, 1) := by decide +kernel
theorem dX5_standing_3 : decode cX5_standing 3 = .ok (.istore_n 3, 1) := by decide +kernel
theorem dX5_standing_4 : decode cX5_standing 4 = .ok (.iload_n 3, 1) := by decide +kernel
theorem dX5_standing_5 : decode cX5_standing 5 = .ok (.aload_n 0, 1) := by decide +kernel
theorem dX5_standing_6 : decode cX5_standing 6 = .ok (.getfield 7, 3) := by decide +kernel
theorem dX5_standing_9 : decode cX5_standing 9 = .ok (.iconst 2, 1) := by decide +kernel
theorem dX5_standing_10 : decode cX5_standing 10 = .ok (.iaload, 1) := by decide +kernel
theorem dX5_standing_11 : decode cX5_standing 11 = .ok (.if_icmp .ge 25, 3) := by decide +kernel
theorem dX5_standing_14 : decode cX5_standing 14 = .ok (.aload_n 0, 1) := by decide +kernel
theorem dX5_standing_15 : decode cX5_standing 15 = .ok (.iload_n 3, 1) := by decide +kernel
theorem dX5_standing_16 : decode cX5_standing 16 = .ok (.iconst 5, 1) := by decide +kernel
theorem dX5_standing_17 : decode cX5_standing 17 = .ok (.invokevirtual 76, 3) := by decide +kernel
theorem dX5_standing_20 : decode cX5_standing 20 = .ok (.iload_n 1, 1) := by decide +kernel
theorem dX5_standing_21 : decode cX5_standing 21 = .ok (.if_icmp .ne 7, 3) := by decide +kernel
theorem dX5_standing_24 : decode cX5_standing 24 = .ok (.iload_n 3, 1) := by decide +kernel
theorem dX5_standing_25 : decode cX5_standing 25 = .ok (.goto 4, 3) := by decide +kernel
theorem dX5_standing_28 : decode cX5_standing 28 = .ok (.iload_n 2, 1) := by decide +kernel
theorem dX5_standing_29 : decode cX5_standing 29 = .ok (.istore_n 2, 1) := by decide +kernel
theorem dX5_standing_30 : decode cX5_standing 30 = .ok (.iinc 3 1, 3) := by decide +kernel
theorem dX5_standing_33 : decode cX5_standing 33 = .ok (.goto (-29), 3) := by decide +kernel
theorem dX5_standing_36 : decode cX5_standing 36 = .ok (.iload_n 2, 1) := by decide +kernel
theorem dX5_standing_37 : decode cX5_standing 37 = .ok (.ireturn, 1) := by decide +kernel
theorem dX5_comingBy_0 : decode cX5_comingBy 0 = .ok (.aload_n 0, 1) := by decide +kernel
theorem dX5_comingBy_1 : decode cX5_comingBy 1 = .ok (.getfield 7, 3) := by decide +kernel
theorem dX5_comingBy_4 : decode cX5_comingBy 4 = .ok (.iconst 1, 1) := by decide +kernel
theorem dX5_comingBy_5 : decode cX5_comingBy 5 = .ok (.iaload, 1) := by decide +kernel
theorem dX5_comingBy_6 : decode cX5_comingBy 6 = .ok (.aload_n 0, 1) := by decide +kernel
theorem dX5_comingBy_7 : decode cX5_comingBy 7 = .ok (.getfield 7, 3) := by decide +kernel
theorem dX5_comingBy_10 : decode cX5_comingBy 10 = .ok (.iconst 0, 1) := by decide +kernel
theorem dX5_comingBy_11 : decode cX5_comingBy 11 = .ok (.iaload, 1) := by decide +kernel
theorem dX5_comingBy_12 : decode cX5_comingBy 12 = .ok (.irem, 1) := by decide +kernel
theorem dX5_comingBy_13 : decode cX5_comingBy 13 = .ok (.ireturn, 1) := by decide +kernel
theorem dX5_refundedAll_0 : decode cX5_refundedAll 0 = .ok (.iconst 0, 1) := by decide +kernel
theorem dX5_refundedAll_1 : decode cX5_refundedAll 1 = .ok (.istore_n 1, 1) := by decide +kernel
theorem dX5_refundedAll_2 : decode cX5_refundedAll 2 = .ok (.iconst 0, 1) := by decide +kernel
theorem dX5_refundedAll_3 : decode cX5_refundedAll 3 = .ok (.istore_n 2, 1) := by decide +kernel
theorem dX5_refundedAll_4 : decode cX5_refundedAll 4 = .ok (.iload_n 2, 1) := by decide +kernel
theorem dX5_refundedAll_5 : decode cX5_refundedAll 5 = .ok (.iconst 4, 1) := by decide +kernel
theorem dX5_refundedAll_6 : decode cX5_refundedAll 6 = .ok (.if_icmp .ge 21, 3) := by decide +kernel
theorem dX5_refundedAll_9 : decode cX5_refundedAll 9 = .ok (.iload_n 1, 1) := by decide +kernel
theorem dX5_refundedAll_10 : decode cX5_refundedAll 10 = .ok (.aload_n 0, 1) := by decide +kernel
theorem dX5_refundedAll_11 : decode cX5_refundedAll 11 = .ok (.getfield 7, 3) := by decide +kernel
theorem dX5_refundedAll_14 : decode cX5_refundedAll 14 = .ok (.bipush 9, 2) := by decide +kernel
theorem dX5_refundedAll_16 : decode cX5_refundedAll 16 = .ok (.iload_n 2, 1) := by decide +kernel
theorem dX5_refundedAll_17 : decode cX5_refundedAll 17 = .ok (.iadd, 1) := by decide +kernel
theorem dX5_refundedAll_18 : decode cX5_refundedAll 18 = .ok (.iaload, 1) := by decide +kernel
theorem dX5_refundedAll_19 : decode cX5_refundedAll 19 = .ok (.iadd, 1) := by decide +kernel
theorem dX5_refundedAll_20 : decode cX5_refundedAll 20 = .ok (.istore_n 1, 1) := by decide +kernel
theorem dX5_refundedAll_21 : decode cX5_refundedAll 21 = .ok (.iinc 2 1, 3) := by decide +kernel
theorem dX5_refundedAll_24 : decode cX5_refundedAll 24 = .ok (.goto (-20), 3) := by decide +kernel
theorem dX5_refundedAll_27 : decode cX5_refundedAll 27 = .ok (.iload_n 1, 1) := by decide +kernel
theorem dX5_refundedAll_28 : decode cX5_refundedAll 28 = .ok (.ireturn, 1) := by decide +kernel
set_option maxRecDepth 20000 in
theorem ggX5_about_X5_within : GoodIn wsX5_about wsX5_within := goodIn_r _ [6] (by decide +kernel) (by decide +kernel)
set_option maxRecDepth 20000 in
theorem gX5_about_X5_within : GoodIn wsX5_about (va_wsS RX5 41 yX5_within wsX5_within) := goodIn_app (goodIn_of _ (by decide +kernel)) ggX5_about_X5_within
set_option maxRecDepth 20000 in
theorem ggX5_about_X5_part : GoodIn wsX5_about wsX5_part := goodIn_r _ [10, 2, 19, 20, 21, 22, 23, 24, 25, 26, 27, 28, 29, 30, 31] (by decide +kernel) (by decide +kernel)
set_option maxRecDepth 20000 in
theorem gX5_about_X5_part : GoodIn wsX5_about (wsV RX5 76 RX5 yX5_part wsX5_part) := goodIn_app (goodIn_of _ (by decide +kernel)) ggX5_about_X5_part
set_option maxRecDepth 20000 in
theorem ggX5_about_X5_comingBy : GoodIn wsX5_about wsX5_comingBy := goodIn_r _ [14, 2, 19, 20, 21, 22, 23, 24, 25, 26, 27, 28, 29, 30, 31] (by decide +kernel) (by decide +kernel)
set_option maxRecDepth 20000 in
theorem gX5_about_X5_comingBy : GoodIn wsX5_about (wsV RX5 80 RX5 yX5_comingBy wsX5_comingBy) := goodIn_app (goodIn_of _ (by decide +kernel)) ggX5_about_X5_comingBy
set_option maxRecDepth 20000 in
theorem ggX5_about_X5_refundedAll : GoodIn wsX5_about wsX5_refundedAll := goodIn_r _ [18, 2, 19, 20, 21, 22, 23, 24, 25, 26, 27, 28, 29, 30, 31] (by decide +kernel) (by decide +kernel)
set_option maxRecDepth 20000 in
theorem gX5_about_X5_refundedAll : GoodIn wsX5_about (wsV RX5 83 RX5 yX5_refundedAll wsX5_refundedAll) := goodIn_app (goodIn_of _ (by decide +kernel)) ggX5_about_X5_refundedAll
theorem dX5_about_0 : decode cX5_about 0 = .ok (.aload_n 0, 1) := by decide +kernel
theorem dX5_about_1 : decode cX5_about 1 = .ok (.iload_n 1, 1) := by decide +kernel
theorem dX5_about_2 : decode cX5_about 2 = .ok (.iconst 0, 1) := by decide +kernel
theorem dX5_about_3 : decode cX5_about 3 = .ok (.bipush 9, 2) := by decide +kernel
theorem dX5_about_5 : decode cX5_about 5 = .ok (.invokestatic 41, 3) := by decide +kernel
theorem dX5_about_8 : decode cX5_about 8 = .ok (.ifCond .eq 7, 3) := by decide +kernel
theorem dX5_about_11 : decode cX5_about 11 = .ok (.iconst 0, 1) := by decide +kernel
theorem dX5_about_12 : decode cX5_about 12 = .ok (.goto 4, 3) := by decide +kernel
theorem dX5_about_15 : decode cX5_about 15 = .ok (.iconst 1, 1) := by decide +kernel
theorem dX5_about_16 : decode cX5_about 16 = .ok (.putfield 37, 3) := by decide +kernel
theorem dX5_about_19 : decode cX5_about 19 = .ok (.iconst 0, 1) := by decide +kernel
theorem dX5_about_20 : decode cX5_about 20 = .ok (.istore_n 2, 1) := by decide +kernel
theorem dX5_about_21 : decode cX5_about 21 = .ok (.iconst 0, 1) := by decide +kernel
theorem dX5_about_22 : decode cX5_about 22 = .ok (.istore_n 3, 1) := by decide +kernel
theorem dX5_about_23 : decode cX5_about 23 = .ok (.iconst 0, 1) := by decide +kernel
theorem dX5_about_24 : decode cX5_about 24 = .ok (.istore 4, 2) := by decide +kernel
theorem dX5_about_26 : decode cX5_about 26 = .ok (.iload 4, 2) := by decide +kernel
theorem dX5_about_28 : decode cX5_about 28 = .ok (.aload_n 0, 1) := by decide +kernel
theorem dX5_about_29 : decode cX5_about 29 = .ok (.getfield 7, 3) := by decide +kernel
theorem dX5_about_32 : decode cX5_about 32 = .ok (.iconst 2, 1) := by decide +kernel
theorem dX5_about_33 : decode cX5_about 33 = .ok (.iaload, 1) := by decide +kernel
theorem dX5_about_34 : decode cX5_about 34 = .ok (.if_icmp .ge 39, 3) := by decide +kernel
theorem dX5_about_37 : decode cX5_about 37 = .ok (.iload_n 2, 1) := by decide +kernel
theorem dX5_about_38 : decode cX5_about 38 = .ok (.aload_n 0, 1) := by decide +kernel
theorem dX5_about_39 : decode cX5_about 39 = .ok (.iload 4, 2) := by decide +kernel
theorem dX5_about_41 : decode cX5_about 41 = .ok (.iconst 5, 1) := by decide +kernel
theorem dX5_about_42 : decode cX5_about 42 = .ok (.invokevirtual 76, 3) := by decide +kernel
theorem dX5_about_45 : decode cX5_about 45 = .ok (.iconst (-1), 1) := by decide +kernel
theorem dX5_about_46 : decode cX5_about 46 = .ok (.if_icmp .ne 7, 3) := by decide +kernel
theorem dX5_about_49 : decode cX5_about 49 = .ok (.iconst 0, 1) := by decide +kernel
theorem dX5_about_50 : decode cX5_about 50 = .ok (.goto 4, 3) := by decide +kernel
theorem dX5_about_53 : decode cX5_about 53 = .ok (.iconst 1, 1) := by decide +kernel
theorem dX5_about_54 : decode cX5_about 54 = .ok (.iadd, 1) := by decide +kernel
theorem dX5_about_55 : decode cX5_about 55 = .ok (.istore_n 2, 1) := by decide +kernel
theorem dX5_about_56 : decode cX5_about 56 = .ok (.iload_n 3, 1) := by decide +kernel
theorem dX5_about_57 : decode cX5_about 57 = .ok (.aload_n 0, 1) := by decide +kernel
theorem dX5_about_58 : decode cX5_about 58 = .ok (.iload 4, 2) := by decide +kernel
theorem dX5_about_60 : decode cX5_about 60 = .ok (.bipush 7, 2) := by decide +kernel
theorem dX5_about_62 : decode cX5_about 62 = .ok (.invokevirtual 76, 3) := by decide +kernel
theorem dX5_about_65 : decode cX5_about 65 = .ok (.iadd, 1) := by decide +kernel
theorem dX5_about_66 : decode cX5_about 66 = .ok (.istore_n 3, 1) := by decide +kernel
theorem dX5_about_67 : decode cX5_about 67 = .ok (.iinc 4 1, 3) := by decide +kernel
theorem dX5_about_70 : decode cX5_about 70 = .ok (.goto (-44), 3) := by decide +kernel
theorem dX5_about_73 : decode cX5_about 73 = .ok (.iconst 0, 1) := by decide +kernel
theorem dX5_about_74 : decode cX5_about 74 = .ok (.istore 4, 2) := by decide +kernel
theorem dX5_about_76 : decode cX5_about 76 = .ok (.iconst 0, 1) := by decide +kernel
theorem dX5_about_77 : decode cX5_about 77 = .ok (.istore 5, 2) := by decide +kernel
theorem dX5_about_79 : decode cX5_about 79 = .ok (.iload 5, 2) := by decide +kernel
theorem dX5_about_81 : decode cX5_about 81 = .ok (.iconst 4, 1) := by decide +kernel
theorem dX5_about_82 : decode cX5_about 82 = .ok (.if_icmp .ge 23, 3) := by decide +kernel
theorem dX5_about_85 : decode cX5_about 85 = .ok (.iload 4, 2) := by decide +kernel
theorem dX5_about_87 : decode cX5_about 87 = .ok (.aload_n 0, 1) := by decide +kernel
theorem dX5_about_88 : decode cX5_about 88 = .ok (.getfield 7, 3) := by decide +kernel
theorem dX5_about_91 : decode cX5_about 91 = .ok (.iconst 5, 1) := by decide +kernel
theorem dX5_about_92 : decode cX5_about 92 = .ok (.iload 5, 2) := by decide +kernel
theorem dX5_about_94 : decode cX5_about 94 = .ok (.iadd, 1) := by decide +kernel
theorem dX5_about_95 : decode cX5_about 95 = .ok (.iaload, 1) := by decide +kernel
theorem dX5_about_96 : decode cX5_about 96 = .ok (.iadd, 1) := by decide +kernel
theorem dX5_about_97 : decode cX5_about 97 = .ok (.istore 4, 2) := by decide +kernel
theorem dX5_about_99 : decode cX5_about 99 = .ok (.iinc 5 1, 3) := by decide +kernel
theorem dX5_about_102 : decode cX5_about 102 = .ok (.goto (-23), 3) := by decide +kernel
theorem dX5_about_105 : decode cX5_about 105 = .ok (.iload_n 1, 1) := by decide +kernel
theorem dX5_about_106 : decode cX5_about 106 = .ok (.tableswitch 106 0 9 #[54, 61, 68, 75, 80, 82, 85, 90, 92, 99], 54) := by decide +kernel
theorem dX5_about_160 : decode cX5_about 160 = .ok (.aload_n 0, 1) := by decide +kernel
theorem dX5_about_161 : decode cX5_about 161 = .ok (.getfield 7, 3) := by decide +kernel
theorem dX5_about_164 : decode cX5_about 164 = .ok (.iconst 0, 1) := by decide +kernel
theorem dX5_about_165 : decode cX5_about 165 = .ok (.iaload, 1) := by decide +kernel
theorem dX5_about_166 : decode cX5_about 166 = .ok (.ireturn, 1) := by decide +kernel
theorem dX5_about_167 : decode cX5_about 167 = .ok (.aload_n 0, 1) := by decide +kernel
theorem dX5_about_168 : decode cX5_about 168 = .ok (.getfield 7, 3) := by decide +kernel
theorem dX5_about_171 : decode cX5_about 171 = .ok (.iconst 2, 1) := by decide +kernel
theorem dX5_about_172 : decode cX5_about 172 = .ok (.iaload, 1) := by decide +kernel
theorem dX5_about_173 : decode cX5_about 173 = .ok (.ireturn, 1) := by decide +kernel
theorem dX5_about_174 : decode cX5_about 174 = .ok (.aload_n 0, 1) := by decide +kernel
theorem dX5_about_175 : decode cX5_about 175 = .ok (.getfield 7, 3) := by decide +kernel
theorem dX5_about_178 : decode cX5_about 178 = .ok (.iconst 1, 1) := by decide +kernel
theorem dX5_about_179 : decode cX5_about 179 = .ok (.iaload, 1) := by decide +kernel
theorem dX5_about_180 : decode cX5_about 180 = .ok (.ireturn, 1) := by decide +kernel
theorem dX5_about_181 : decode cX5_about 181 = .ok (.aload_n 0, 1) := by decide +kernel
theorem dX5_about_182 : decode cX5_about 182 = .ok (.invokevirtual 80, 3) := by decide +kernel
theorem dX5_about_185 : decode cX5_about 185 = .ok (.ireturn, 1) := by decide +kernel
theorem dX5_about_186 : decode cX5_about 186 = .ok (.iload_n 2, 1) := by decide +kernel
theorem dX5_about_187 : decode cX5_about 187 = .ok (.ireturn, 1) := by decide +kernel
theorem dX5_about_188 : decode cX5_about 188 = .ok (.iload 4, 2) := by decide +kernel
theorem dX5_about_190 : decode cX5_about 190 = .ok (.ireturn, 1) := by decide +kernel
theorem dX5_about_191 : decode cX5_about 191 = .ok (.aload_n 0, 1) := by decide +kernel
theorem dX5_about_192 : decode cX5_about 192 = .ok (.invokevirtual 83, 3) := by decide +kernel
theorem dX5_about_195 : decode cX5_about 195 = .ok (.ireturn, 1) := by decide +kernel
theorem dX5_about_196 : decode cX5_about 196 = .ok (.iload_n 3, 1) := by decide +kernel
theorem dX5_about_197 : decode cX5_about 197 = .ok (.ireturn, 1) := by decide +kernel
theorem dX5_about_198 : decode cX5_about 198 = .ok (.aload_n 0, 1) := by decide +kernel
theorem dX5_about_199 : decode cX5_about 199 = .ok (.getfield 7, 3) := by decide +kernel
theorem dX5_about_202 : decode cX5_about 202 = .ok (.iconst 3, 1) := by decide +kernel
theorem dX5_about_203 : decode cX5_about 203 = .ok (.iaload, 1) := by decide +kernel
theorem dX5_about_204 : decode cX5_about 204 = .ok (.ireturn, 1) := by decide +kernel
theorem dX5_about_205 : decode cX5_about 205 = .ok (.aload_n 0, 1) := by decide +kernel
theorem dX5_about_206 : decode cX5_about 206 = .ok (.getfield 7, 3) := by decide +kernel
theorem dX5_about_209 : decode cX5_about 209 = .ok (.iconst 4, 1) := by decide +kernel
theorem dX5_about_210 : decode cX5_about 210 = .ok (.iaload, 1) := by decide +kernel
theorem dX5_about_211 : decode cX5_about 211 = .ok (.ireturn, 1) := by decide +kernel
theorem dX5_about_212 : decode cX5_about 212 = .ok (.iconst 0, 1) := by decide +kernel
theorem dX5_about_213 : decode cX5_about 213 = .ok (.ireturn, 1) := by decide +kernel
set_option maxRecDepth 20000 in
theorem ggX5_order_X5_isOrder : GoodIn wsX5_order wsX5_isOrder := goodIn_r _ [6, 7, 8, 9, 5, 10, 15, 16, 17, 18, 19, 20, 21, 22, 23, 24, 25, 26, 27] (by decide +kernel) (by decide +kernel)
set_option maxRecDepth 20000 in
theorem gX5_order_X5_isOrder : GoodIn wsX5_order (wsV RX5 86 RX5 yX5_isOrder wsX5_isOrder) := goodIn_app (goodIn_of _ (by decide +kernel)) ggX5_order_X5_isOrder
set_option maxRecDepth 20000 in
theorem ggX5_order_X5_within : GoodIn wsX5_order wsX5_within := goodIn_r _ [10] (by decide +kernel) (by decide +kernel)
set_option maxRecDepth 20000 in
theorem gX5_order_X5_within : GoodIn wsX5_order (va_wsS RX5 41 yX5_within wsX5_within) := goodIn_app (goodIn_of _ (by decide +kernel)) ggX5_order_X5_within
set_option maxRecDepth 20000 in
theorem ggX5_order_X5_part : GoodIn wsX5_order wsX5_part := goodIn_r _ [14, 7, 15, 16, 17, 18, 19, 20, 21, 22, 23, 24, 25, 26, 27] (by decide +kernel) (by decide +kernel)
set_option maxRecDepth 20000 in
theorem gX5_order_X5_part : GoodIn wsX5_order (wsV RX5 76 RX5 yX5_part wsX5_part) := goodIn_app (goodIn_of _ (by decide +kernel)) ggX5_order_X5_part
theorem dX5_order_0 : decode cX5_order 0 = .ok (.aload_n 0, 1) := by decide +kernel
theorem dX5_order_1 : decode cX5_order 1 = .ok (.aload_n 0, 1) := by decide +kernel
theorem dX5_order_2 : decode cX5_order 2 = .ok (.iload_n 1, 1) := by decide +kernel
theorem dX5_order_3 : decode cX5_order 3 = .ok (.invokevirtual 86, 3) := by decide +kernel
theorem dX5_order_6 : decode cX5_order 6 = .ok (.ifCond .ne 7, 3) := by decide +kernel
theorem dX5_order_9 : decode cX5_order 9 = .ok (.iconst 1, 1) := by decide +kernel
theorem dX5_order_10 : decode cX5_order 10 = .ok (.goto 18, 3) := by decide +kernel
theorem dX5_order_13 : decode cX5_order 13 = .ok (.iload_n 2, 1) := by decide +kernel
theorem dX5_order_14 : decode cX5_order 14 = .ok (.iconst 0, 1) := by decide +kernel
theorem dX5_order_15 : decode cX5_order 15 = .ok (.bipush 8, 2) := by decide +kernel
theorem dX5_order_17 : decode cX5_order 17 = .ok (.invokestatic 41, 3) := by decide +kernel
theorem dX5_order_20 : decode cX5_order 20 = .ok (.ifCond .eq 7, 3) := by decide +kernel
theorem dX5_order_23 : decode cX5_order 23 = .ok (.iconst 0, 1) := by decide +kernel
theorem dX5_order_24 : decode cX5_order 24 = .ok (.goto 4, 3) := by decide +kernel
theorem dX5_order_27 : decode cX5_order 27 = .ok (.iconst 2, 1) := by decide +kernel
theorem dX5_order_28 : decode cX5_order 28 = .ok (.putfield 37, 3) := by decide +kernel
theorem dX5_order_31 : decode cX5_order 31 = .ok (.aload_n 0, 1) := by decide +kernel
theorem dX5_order_32 : decode cX5_order 32 = .ok (.getfield 37, 3) := by decide +kernel
theorem dX5_order_35 : decode cX5_order 35 = .ok (.ifCond .le 7, 3) := by decide +kernel
theorem dX5_order_38 : decode cX5_order 38 = .ok (.iconst 0, 1) := by decide +kernel
theorem dX5_order_39 : decode cX5_order 39 = .ok (.goto 9, 3) := by decide +kernel
theorem dX5_order_42 : decode cX5_order 42 = .ok (.aload_n 0, 1) := by decide +kernel
theorem dX5_order_43 : decode cX5_order 43 = .ok (.iload_n 1, 1) := by decide +kernel
theorem dX5_order_44 : decode cX5_order 44 = .ok (.iload_n 2, 1) := by decide +kernel
theorem dX5_order_45 : decode cX5_order 45 = .ok (.invokevirtual 76, 3) := by decide +kernel
theorem dX5_order_48 : decode cX5_order 48 = .ok (.ireturn, 1) := by decide +kernel
set_option maxRecDepth 20000 in
theorem ggX5_isAuthor_X5_within : GoodIn wsX5_isAuthor wsX5_within := goodIn_r _ [4] (by decide +kernel) (by decide +kernel)
set_option maxRecDepth 20000 in
theorem gX5_isAuthor_X5_within : GoodIn wsX5_isAuthor (va_wsS RX5 41 yX5_within wsX5_within) := goodIn_app (goodIn_of _ (by decide +kernel)) ggX5_isAuthor_X5_within
theorem dX5_isAuthor_0 : decode cX5_isAuthor 0 = .ok (.iload_n 0, 1) := by decide +kernel
theorem dX5_isAuthor_1 : decode cX5_isAuthor 1 = .ok (.iconst 0, 1) := by decide +kernel
theorem dX5_isAuthor_2 : decode cX5_isAuthor 2 = .ok (.iconst 3, 1) := by decide +kernel
theorem dX5_isAuthor_3 : decode cX5_isAuthor 3 = .ok (.invokestatic 41, 3) := by decide +kernel
theorem dX5_isAuthor_6 : decode cX5_isAuthor 6 = .ok (.ireturn, 1) := by decide +kernel
set_option maxRecDepth 20000 in
theorem ggX5_author_X5_isAuthor : GoodIn wsX5_author wsX5_isAuthor := goodIn_r _ [6, 7, 8, 5, 9] (by decide +kernel) (by decide +kernel)
set_option maxRecDepth 20000 in
theorem gX5_author_X5_isAuthor : GoodIn wsX5_author (va_wsS RX5 89 yX5_isAuthor wsX5_isAuthor) := goodIn_app (goodIn_of _ (by decide +kernel)) ggX5_author_X5_isAuthor
set_option maxRecDepth 20000 in
theorem ggX5_author_X5_within : GoodIn wsX5_author wsX5_within := goodIn_r _ [9] (by decide +kernel) (by decide +kernel)
set_option maxRecDepth 20000 in
theorem gX5_author_X5_within : GoodIn wsX5_author (va_wsS RX5 41 yX5_within wsX5_within) := goodIn_app (goodIn_of _ (by decide +kernel)) ggX5_author_X5_within
set_option maxRecDepth 20000 in
theorem ggX5_author_X5_part : GoodIn wsX5_author wsX5_part := goodIn_r _ [13, 2, 14, 15, 16, 17, 18, 19, 20, 21, 22, 23, 24, 25, 26] (by decide +kernel) (by decide +kernel)
set_option maxRecDepth 20000 in
theorem gX5_author_X5_part : GoodIn wsX5_author (wsV RX5 76 RX5 yX5_part wsX5_part) := goodIn_app (goodIn_of _ (by decide +kernel)) ggX5_author_X5_part
theorem dX5_author_0 : decode cX5_author 0 = .ok (.aload_n 0, 1) := by decide +kernel
theorem dX5_author_1 : decode cX5_author 1 = .ok (.iload_n 1, 1) := by decide +kernel
theorem dX5_author_2 : decode cX5_author 2 = .ok (.invokestatic 89, 3) := by decide +kernel
theorem dX5_author_5 : decode cX5_author 5 = .ok (.ifCond .ne 7, 3) := by decide +kernel
theorem dX5_author_8 : decode cX5_author 8 = .ok (.iconst 1, 1) := by decide +kernel
theorem dX5_author_9 : decode cX5_author 9 = .ok (.goto 17, 3) := by decide +kernel
theorem dX5_author_12 : decode cX5_author 12 = .ok (.iload_n 2, 1) := by decide +kernel
theorem dX5_author_13 : decode cX5_author 13 = .ok (.iconst 0, 1) := by decide +kernel
theorem dX5_author_14 : decode cX5_author 14 = .ok (.iconst 2, 1) := by decide +kernel
theorem dX5_author_15 : decode cX5_author 15 = .ok (.invokestatic 41, 3) := by decide +kernel
theorem dX5_author_18 : decode cX5_author 18 = .ok (.ifCond .eq 7, 3) := by decide +kernel
theorem dX5_author_21 : decode cX5_author 21 = .ok (.iconst 0, 1) := by decide +kernel
theorem dX5_author_22 : decode cX5_author 22 = .ok (.goto 4, 3) := by decide +kernel
theorem dX5_author_25 : decode cX5_author 25 = .ok (.iconst 2, 1) := by decide +kernel
theorem dX5_author_26 : decode cX5_author 26 = .ok (.putfield 37, 3) := by decide +kernel
theorem dX5_author_29 : decode cX5_author 29 = .ok (.aload_n 0, 1) := by decide +kernel
theorem dX5_author_30 : decode cX5_author 30 = .ok (.getfield 37, 3) := by decide +kernel
theorem dX5_author_33 : decode cX5_author 33 = .ok (.ifCond .le 5, 3) := by decide +kernel
theorem dX5_author_36 : decode cX5_author 36 = .ok (.iconst 0, 1) := by decide +kernel
theorem dX5_author_37 : decode cX5_author 37 = .ok (.ireturn, 1) := by decide +kernel
theorem dX5_author_38 : decode cX5_author 38 = .ok (.iconst 0, 1) := by decide +kernel
theorem dX5_author_39 : decode cX5_author 39 = .ok (.istore_n 3, 1) := by decide +kernel
theorem dX5_author_40 : decode cX5_author 40 = .ok (.iconst 0, 1) := by decide +kernel
theorem dX5_author_41 : decode cX5_author 41 = .ok (.istore 4, 2) := by decide +kernel
theorem dX5_author_43 : decode cX5_author 43 = .ok (.iload 4, 2) := by decide +kernel
theorem dX5_author_45 : decode cX5_author 45 = .ok (.aload_n 0, 1) := by decide +kernel
theorem dX5_author_46 : decode cX5_author 46 = .ok (.getfield 7, 3) := by decide +kernel
theorem dX5_author_49 : decode cX5_author 49 = .ok (.iconst 2, 1) := by decide +kernel
theorem dX5_author_50 : decode cX5_author 50 = .ok (.iaload, 1) := by decide +kernel
theorem dX5_author_51 : decode cX5_author 51 = .ok (.if_icmp .ge 28, 3) := by decide +kernel
theorem dX5_author_54 : decode cX5_author 54 = .ok (.iload_n 3, 1) := by decide +kernel
theorem dX5_author_55 : decode cX5_author 55 = .ok (.aload_n 0, 1) := by decide +kernel
theorem dX5_author_56 : decode cX5_author 56 = .ok (.iload 4, 2) := by decide +kernel
theorem dX5_author_58 : decode cX5_author 58 = .ok (.iconst 0, 1) := by decide +kernel
theorem dX5_author_59 : decode cX5_author 59 = .ok (.invokevirtual 76, 3) := by decide +kernel
theorem dX5_author_62 : decode cX5_author 62 = .ok (.iload_n 1, 1) := by decide +kernel
theorem dX5_author_63 : decode cX5_author 63 = .ok (.if_icmp .ne 7, 3) := by decide +kernel
theorem dX5_author_66 : decode cX5_author 66 = .ok (.iconst 1, 1) := by decide +kernel
theorem dX5_author_67 : decode cX5_author 67 = .ok (.goto 4, 3) := by decide +kernel
theorem dX5_author_70 : decode cX5_author 70 = .ok (.iconst 0, 1) := by decide +kernel
theorem dX5_author_71 : decode cX5_author 71 = .ok (.iadd, 1) := by decide +kernel
theorem dX5_author_72 : decode cX5_author 72 = .ok (.istore_n 3, 1) := by decide +kernel
theorem dX5_author_73 : decode cX5_author 73 = .ok (.iinc 4 1, 3) := by decide +kernel
theorem dX5_author_76 : decode cX5_author 76 = .ok (.goto (-33), 3) := by decide +kernel
theorem dX5_author_79 : decode cX5_author 79 = .ok (.iload_n 2, 1) := by decide +kernel
theorem dX5_author_80 : decode cX5_author 80 = .ok (.ifCond .ne 7, 3) := by decide +kernel
theorem dX5_author_83 : decode cX5_author 83 = .ok (.iload_n 3, 1) := by decide +kernel
theorem dX5_author_84 : decode cX5_author 84 = .ok (.goto 28, 3) := by decide +kernel
theorem dX5_author_87 : decode cX5_author 87 = .ok (.iload_n 2, 1) := by decide +kernel
theorem dX5_author_88 : decode cX5_author 88 = .ok (.iconst 1, 1) := by decide +kernel
theorem dX5_author_89 : decode cX5_author 89 = .ok (.if_icmp .ne 14, 3) := by decide +kernel
theorem dX5_author_92 : decode cX5_author 92 = .ok (.aload_n 0, 1) := by decide +kernel
theorem dX5_author_93 : decode cX5_author 93 = .ok (.getfield 7, 3) := by decide +kernel
theorem dX5_author_96 : decode cX5_author 96 = .ok (.iconst 5, 1) := by decide +kernel
theorem dX5_author_97 : decode cX5_author 97 = .ok (.iload_n 1, 1) := by decide +kernel
theorem dX5_author_98 : decode cX5_author 98 = .ok (.iadd, 1) := by decide +kernel
theorem dX5_author_99 : decode cX5_author 99 = .ok (.iaload, 1) := by decide +kernel
theorem dX5_author_100 : decode cX5_author 100 = .ok (.goto 12, 3) := by decide +kernel
theorem dX5_author_103 : decode cX5_author 103 = .ok (.aload_n 0, 1) := by decide +kernel
theorem dX5_author_104 : decode cX5_author 104 = .ok (.getfield 7, 3) := by decide +kernel
theorem dX5_author_107 : decode cX5_author 107 = .ok (.bipush 9, 2) := by decide +kernel
theorem dX5_author_109 : decode cX5_author 109 = .ok (.iload_n 1, 1) := by decide +kernel
theorem dX5_author_110 : decode cX5_author 110 = .ok (.iadd, 1) := by decide +kernel
theorem dX5_author_111 : decode cX5_author 111 = .ok (.iaload, 1) := by decide +kernel
theorem dX5_author_112 : decode cX5_author 112 = .ok (.ireturn, 1) := by decide +kernel
set_option maxRecDepth 20000 in
theorem ggX5_at_X5_isPlace : GoodIn wsX5_at wsX5_isPlace := goodIn_r _ [6, 7, 8, 9, 5, 10, 19, 20, 21, 22, 23, 24, 25, 26, 27, 28, 29, 30, 31] (by decide +kernel) (by decide +kernel)
set_option maxRecDepth 20000 in
theorem gX5_at_X5_isPlace : GoodIn wsX5_at (wsV RX5 92 RX5 yX5_isPlace wsX5_isPlace) := goodIn_app (goodIn_of _ (by decide +kernel)) ggX5_at_X5_isPlace
set_option maxRecDepth 20000 in
theorem ggX5_at_X5_standing : GoodIn wsX5_at wsX5_standing := goodIn_r _ [14, 7, 15, 16, 17, 5, 18, 19, 20, 21, 22, 23, 24, 25, 26, 27, 28, 29, 30, 31] (by decide +kernel) (by decide +kernel)
set_option maxRecDepth 20000 in
theorem gX5_at_X5_standing : GoodIn wsX5_at (wsV RX5 95 RX5 yX5_standing wsX5_standing) := goodIn_app (goodIn_of _ (by decide +kernel)) ggX5_at_X5_standing
theorem dX5_at_0 : decode cX5_at 0 = .ok (.aload_n 0, 1) := by decide +kernel
theorem dX5_at_1 : decode cX5_at 1 = .ok (.aload_n 0, 1) := by decide +kernel
theorem dX5_at_2 : decode cX5_at 2 = .ok (.iload_n 1, 1) := by decide +kernel
theorem dX5_at_3 : decode cX5_at 3 = .ok (.invokevirtual 92, 3) := by decide +kernel
theorem dX5_at_6 : decode cX5_at 6 = .ok (.ifCond .eq 7, 3) := by decide +kernel
theorem dX5_at_9 : decode cX5_at 9 = .ok (.iconst 0, 1) := by decide +kernel
theorem dX5_at_10 : decode cX5_at 10 = .ok (.goto 4, 3) := by decide +kernel
theorem dX5_at_13 : decode cX5_at 13 = .ok (.iconst 1, 1) := by decide +kernel
theorem dX5_at_14 : decode cX5_at 14 = .ok (.putfield 37, 3) := by decide +kernel
theorem dX5_at_17 : decode cX5_at 17 = .ok (.aload_n 0, 1) := by decide +kernel
theorem dX5_at_18 : decode cX5_at 18 = .ok (.getfield 37, 3) := by decide +kernel
theorem dX5_at_21 : decode cX5_at 21 = .ok (.ifCond .le 7, 3) := by decide +kernel
theorem dX5_at_24 : decode cX5_at 24 = .ok (.iconst 0, 1) := by decide +kernel
theorem dX5_at_25 : decode cX5_at 25 = .ok (.goto 8, 3) := by decide +kernel
theorem dX5_at_28 : decode cX5_at 28 = .ok (.aload_n 0, 1) := by decide +kernel
theorem dX5_at_29 : decode cX5_at 29 = .ok (.iload_n 1, 1) := by decide +kernel
theorem dX5_at_30 : decode cX5_at 30 = .ok (.invokevirtual 95, 3) := by decide +kernel
theorem dX5_at_33 : decode cX5_at 33 = .ok (.ireturn, 1) := by decide +kernel
set_option maxRecDepth 20000 in
theorem ggX5_jump_X5_within : GoodIn wsX5_jump wsX5_within := goodIn_r _ [6] (by decide +kernel) (by decide +kernel)
set_option maxRecDepth 20000 in
theorem gX5_jump_X5_within : GoodIn wsX5_jump (va_wsS RX5 41 yX5_within wsX5_within) := goodIn_app (goodIn_of _ (by decide +kernel)) ggX5_jump_X5_within
theorem dX5_jump_0 : decode cX5_jump 0 = .ok (.aload_n 0, 1) := by decide +kernel
theorem dX5_jump_1 : decode cX5_jump 1 = .ok (.iload_n 1, 1) := by decide +kernel
theorem dX5_jump_2 : decode cX5_jump 2 = .ok (.ifCond .lt 12, 3) := by decide +kernel
theorem dX5_jump_5 : decode cX5_jump 5 = .ok (.iload_n 2, 1) := by decide +kernel
theorem dX5_jump_6 : decode cX5_jump 6 = .ok (.iconst 0, 1) := by decide +kernel
theorem dX5_jump_7 : decode cX5_jump 7 = .ok (.iconst 2, 1) := by decide +kernel
theorem dX5_jump_8 : decode cX5_jump 8 = .ok (.invokestatic 41, 3) := by decide +kernel
theorem dX5_jump_11 : decode cX5_jump 11 = .ok (.ifCond .ne 7, 3) := by decide +kernel
theorem dX5_jump_14 : decode cX5_jump 14 = .ok (.iconst 1, 1) := by decide +kernel
theorem dX5_jump_15 : decode cX5_jump 15 = .ok (.goto 4, 3) := by decide +kernel
theorem dX5_jump_18 : decode cX5_jump 18 = .ok (.iconst 0, 1) := by decide +kernel
theorem dX5_jump_19 : decode cX5_jump 19 = .ok (.putfield 37, 3) := by decide +kernel
theorem dX5_jump_22 : decode cX5_jump 22 = .ok (.aload_n 0, 1) := by decide +kernel
theorem dX5_jump_23 : decode cX5_jump 23 = .ok (.getfield 37, 3) := by decide +kernel
theorem dX5_jump_26 : decode cX5_jump 26 = .ok (.ifCond .le 5, 3) := by decide +kernel
theorem dX5_jump_29 : decode cX5_jump 29 = .ok (.iconst 0, 1) := by decide +kernel
theorem dX5_jump_30 : decode cX5_jump 30 = .ok (.ireturn, 1) := by decide +kernel
theorem dX5_jump_31 : decode cX5_jump 31 = .ok (.iload_n 1, 1) := by decide +kernel
theorem dX5_jump_32 : decode cX5_jump 32 = .ok (.aload_n 0, 1) := by decide +kernel
theorem dX5_jump_33 : decode cX5_jump 33 = .ok (.getfield 7, 3) := by decide +kernel
theorem dX5_jump_36 : decode cX5_jump 36 = .ok (.iconst 3, 1) := by decide +kernel
theorem dX5_jump_37 : decode cX5_jump 37 = .ok (.iaload, 1) := by decide +kernel
theorem dX5_jump_38 : decode cX5_jump 38 = .ok (.if_icmp .ge 20, 3) := by decide +kernel
theorem dX5_jump_41 : decode cX5_jump 41 = .ok (.aload_n 0, 1) := by decide +kernel
theorem dX5_jump_42 : decode cX5_jump 42 = .ok (.getfield 7, 3) := by decide +kernel
theorem dX5_jump_45 : decode cX5_jump 45 = .ok (.sipush 157, 3) := by decide +kernel
theorem dX5_jump_48 : decode cX5_jump 48 = .ok (.iconst 3, 1) := by decide +kernel
theorem dX5_jump_49 : decode cX5_jump 49 = .ok (.iload_n 1, 1) := by decide +kernel
theorem dX5_jump_50 : decode cX5_jump 50 = .ok (.imul, 1) := by decide +kernel
theorem dX5_jump_51 : decode cX5_jump 51 = .ok (.iadd, 1) := by decide +kernel
theorem dX5_jump_52 : decode cX5_jump 52 = .ok (.iload_n 2, 1) := by decide +kernel
theorem dX5_jump_53 : decode cX5_jump 53 = .ok (.iadd, 1) := by decide +kernel
theorem dX5_jump_54 : decode cX5_jump 54 = .ok (.iaload, 1) := by decide +kernel
theorem dX5_jump_55 : decode cX5_jump 55 = .ok (.goto 4, 3) := by decide +kernel
theorem dX5_jump_58 : decode cX5_jump 58 = .ok (.iconst (-1), 1) := by decide +kernel
theorem dX5_jump_59 : decode cX5_jump 59 = .ok (.ireturn, 1) := by decide +kernel
set_option maxRecDepth 20000 in
theorem ggX5_goAlong_X5_isOrder : GoodIn wsX5_goAlong wsX5_isOrder := goodIn_r _ [6, 7, 8, 9, 5, 10, 15, 16, 17, 18, 19, 20, 21, 22, 23, 24, 25, 26, 27] (by decide +kernel) (by decide +kernel)
set_option maxRecDepth 20000 in
theorem gX5_goAlong_X5_isOrder : GoodIn wsX5_goAlong (wsV RX5 86 RX5 yX5_isOrder wsX5_isOrder) := goodIn_app (goodIn_of _ (by decide +kernel)) ggX5_goAlong_X5_isOrder
set_option maxRecDepth 20000 in
theorem ggX5_goAlong_X5_part : GoodIn wsX5_goAlong wsX5_part := goodIn_r _ [14, 7, 15, 16, 17, 18, 19, 20, 21, 22, 23, 24, 25, 26, 27] (by decide +kernel) (by decide +kernel)
set_option maxRecDepth 20000 in
theorem gX5_goAlong_X5_part : GoodIn wsX5_goAlong (wsV RX5 76 RX5 yX5_part wsX5_part) := goodIn_app (goodIn_of _ (by decide +kernel)) ggX5_goAlong_X5_part
theorem dX5_goAlong_0 : decode cX5_goAlong 0 = .ok (.iconst 0, 1) := by decide +kernel
theorem dX5_goAlong_1 : decode cX5_goAlong 1 = .ok (.istore_n 2, 1) := by decide +kernel
theorem dX5_goAlong_2 : decode cX5_goAlong 2 = .ok (.iload_n 2, 1) := by decide +kernel
theorem dX5_goAlong_3 : decode cX5_goAlong 3 = .ok (.bipush 16, 2) := by decide +kernel
theorem dX5_goAlong_5 : decode cX5_goAlong 5 = .ok (.if_icmp .ge 16, 3) := by decide +kernel
theorem dX5_goAlong_8 : decode cX5_goAlong 8 = .ok (.aload_n 0, 1) := by decide +kernel
theorem dX5_goAlong_9 : decode cX5_goAlong 9 = .ok (.getfield 34, 3) := by decide +kernel
theorem dX5_goAlong_12 : decode cX5_goAlong 12 = .ok (.iload_n 2, 1) := by decide +kernel
theorem dX5_goAlong_13 : decode cX5_goAlong 13 = .ok (.iconst 0, 1) := by decide +kernel
theorem dX5_goAlong_14 : decode cX5_goAlong 14 = .ok (.iastore, 1) := by decide +kernel
theorem dX5_goAlong_15 : decode cX5_goAlong 15 = .ok (.iinc 2 1, 3) := by decide +kernel
theorem dX5_goAlong_18 : decode cX5_goAlong 18 = .ok (.goto (-16), 3) := by decide +kernel
theorem dX5_goAlong_21 : decode cX5_goAlong 21 = .ok (.iload_n 1, 1) := by decide +kernel
theorem dX5_goAlong_22 : decode cX5_goAlong 22 = .ok (.istore_n 2, 1) := by decide +kernel
theorem dX5_goAlong_23 : decode cX5_goAlong 23 = .ok (.aload_n 0, 1) := by decide +kernel
theorem dX5_goAlong_24 : decode cX5_goAlong 24 = .ok (.iload_n 2, 1) := by decide +kernel
theorem dX5_goAlong_25 : decode cX5_goAlong 25 = .ok (.invokevirtual 86, 3) := by decide +kernel
theorem dX5_goAlong_28 : decode cX5_goAlong 28 = .ok (.ifCond .eq 29, 3) := by decide +kernel
theorem dX5_goAlong_31 : decode cX5_goAlong 31 = .ok (.aload_n 0, 1) := by decide +kernel
theorem dX5_goAlong_32 : decode cX5_goAlong 32 = .ok (.getfield 34, 3) := by decide +kernel
theorem dX5_goAlong_35 : decode cX5_goAlong 35 = .ok (.iload_n 2, 1) := by decide +kernel
theorem dX5_goAlong_36 : decode cX5_goAlong 36 = .ok (.iaload, 1) := by decide +kernel
theorem dX5_goAlong_37 : decode cX5_goAlong 37 = .ok (.ifCond .ne 20, 3) := by decide +kernel
theorem dX5_goAlong_40 : decode cX5_goAlong 40 = .ok (.aload_n 0, 1) := by decide +kernel
theorem dX5_goAlong_41 : decode cX5_goAlong 41 = .ok (.getfield 34, 3) := by decide +kernel
theorem dX5_goAlong_44 : decode cX5_goAlong 44 = .ok (.iload_n 2, 1) := by decide +kernel
theorem dX5_goAlong_45 : decode cX5_goAlong 45 = .ok (.iconst 1, 1) := by decide +kernel
theorem dX5_goAlong_46 : decode cX5_goAlong 46 = .ok (.iastore, 1) := by decide +kernel
theorem dX5_goAlong_47 : decode cX5_goAlong 47 = .ok (.aload_n 0, 1) := by decide +kernel
theorem dX5_goAlong_48 : decode cX5_goAlong 48 = .ok (.iload_n 2, 1) := by decide +kernel
theorem dX5_goAlong_49 : decode cX5_goAlong 49 = .ok (.iconst 2, 1) := by decide +kernel
theorem dX5_goAlong_50 : decode cX5_goAlong 50 = .ok (.invokevirtual 76, 3) := by decide +kernel
theorem dX5_goAlong_53 : decode cX5_goAlong 53 = .ok (.istore_n 2, 1) := by decide +kernel
theorem dX5_goAlong_54 : decode cX5_goAlong 54 = .ok (.goto (-31), 3) := by decide +kernel
theorem dX5_goAlong_57 : decode cX5_goAlong 57 = .ok (.aload_n 0, 1) := by decide +kernel
theorem dX5_goAlong_58 : decode cX5_goAlong 58 = .ok (.iload_n 2, 1) := by decide +kernel
theorem dX5_goAlong_59 : decode cX5_goAlong 59 = .ok (.invokevirtual 86, 3) := by decide +kernel
theorem dX5_goAlong_62 : decode cX5_goAlong 62 = .ok (.ifCond .eq 7, 3) := by decide +kernel
theorem dX5_goAlong_65 : decode cX5_goAlong 65 = .ok (.iload_n 2, 1) := by decide +kernel
theorem dX5_goAlong_66 : decode cX5_goAlong 66 = .ok (.goto 4, 3) := by decide +kernel
theorem dX5_goAlong_69 : decode cX5_goAlong 69 = .ok (.iconst (-1), 1) := by decide +kernel
theorem dX5_goAlong_70 : decode cX5_goAlong 70 = .ok (.ireturn, 1) := by decide +kernel
set_option maxRecDepth 20000 in
theorem ggX5_chain_X5_isOrder : GoodIn wsX5_chain wsX5_isOrder := goodIn_r _ [7, 8, 9, 10, 6, 11, 20, 21, 22, 23, 24, 25, 26, 27, 28, 29, 30, 31, 32] (by decide +kernel) (by decide +kernel)
set_option maxRecDepth 20000 in
theorem gX5_chain_X5_isOrder : GoodIn wsX5_chain (wsV RX5 86 RX5 yX5_isOrder wsX5_isOrder) := goodIn_app (goodIn_of _ (by decide +kernel)) ggX5_chain_X5_isOrder
set_option maxRecDepth 20000 in
theorem ggX5_chain_X5_goAlong : GoodIn wsX5_chain wsX5_goAlong := goodIn_r _ [15, 2, 3, 4, 5, 6, 7, 8, 9, 10, 11, 16, 17, 18, 19, 20, 21, 22, 23, 24, 25, 26, 27, 28, 29, 30, 31, 32] (by decide +kernel) (by decide +kernel)
set_option maxRecDepth 20000 in
theorem gX5_chain_X5_goAlong : GoodIn wsX5_chain (wsV RX5 98 RX5 yX5_goAlong wsX5_goAlong) := goodIn_app (goodIn_of _ (by decide +kernel)) ggX5_chain_X5_goAlong
theorem dX5_chain_0 : decode cX5_chain 0 = .ok (.aload_n 0, 1) := by decide +kernel
theorem dX5_chain_1 : decode cX5_chain 1 = .ok (.aload_n 0, 1) := by decide +kernel
theorem dX5_chain_2 : decode cX5_chain 2 = .ok (.iload_n 1, 1) := by decide +kernel
theorem dX5_chain_3 : decode cX5_chain 3 = .ok (.invokevirtual 86, 3) := by decide +kernel
theorem dX5_chain_6 : decode cX5_chain 6 = .ok (.ifCond .eq 7, 3) := by decide +kernel
theorem dX5_chain_9 : decode cX5_chain 9 = .ok (.iconst 0, 1) := by decide +kernel
theorem dX5_chain_10 : decode cX5_chain 10 = .ok (.goto 4, 3) := by decide +kernel
theorem dX5_chain_13 : decode cX5_chain 13 = .ok (.iconst 1, 1) := by decide +kernel
theorem dX5_chain_14 : decode cX5_chain 14 = .ok (.putfield 37, 3) := by decide +kernel
theorem dX5_chain_17 : decode cX5_chain 17 = .ok (.aload_n 0, 1) := by decide +kernel
theorem dX5_chain_18 : decode cX5_chain 18 = .ok (.getfield 37, 3) := by decide +kernel
theorem dX5_chain_21 : decode cX5_chain 21 = .ok (.ifCond .le 5, 3) := by decide +kernel
theorem dX5_chain_24 : decode cX5_chain 24 = .ok (.iconst 0, 1) := by decide +kernel
theorem dX5_chain_25 : decode cX5_chain 25 = .ok (.ireturn, 1) := by decide +kernel
theorem dX5_chain_26 : decode cX5_chain 26 = .ok (.aload_n 0, 1) := by decide +kernel
theorem dX5_chain_27 : decode cX5_chain 27 = .ok (.iload_n 1, 1) := by decide +kernel
theorem dX5_chain_28 : decode cX5_chain 28 = .ok (.invokevirtual 98, 3) := by decide +kernel
theorem dX5_chain_31 : decode cX5_chain 31 = .ok (.pop, 1) := by decide +kernel
theorem dX5_chain_32 : decode cX5_chain 32 = .ok (.iconst 0, 1) := by decide +kernel
theorem dX5_chain_33 : decode cX5_chain 33 = .ok (.istore_n 2, 1) := by decide +kernel
theorem dX5_chain_34 : decode cX5_chain 34 = .ok (.iconst 0, 1) := by decide +kernel
theorem dX5_chain_35 : decode cX5_chain 35 = .ok (.istore_n 3, 1) := by decide +kernel
theorem dX5_chain_36 : decode cX5_chain 36 = .ok (.iload_n 3, 1) := by decide +kernel
theorem dX5_chain_37 : decode cX5_chain 37 = .ok (.bipush 16, 2) := by decide +kernel
theorem dX5_chain_39 : decode cX5_chain 39 = .ok (.if_icmp .ge 18, 3) := by decide +kernel
theorem dX5_chain_42 : decode cX5_chain 42 = .ok (.iload_n 2, 1) := by decide +kernel
theorem dX5_chain_43 : decode cX5_chain 43 = .ok (.aload_n 0, 1) := by decide +kernel
theorem dX5_chain_44 : decode cX5_chain 44 = .ok (.getfield 34, 3) := by decide +kernel
theorem dX5_chain_47 : decode cX5_chain 47 = .ok (.iload_n 3, 1) := by decide +kernel
theorem dX5_chain_48 : decode cX5_chain 48 = .ok (.iaload, 1) := by decide +kernel
theorem dX5_chain_49 : decode cX5_chain 49 = .ok (.iadd, 1) := by decide +kernel
theorem dX5_chain_50 : decode cX5_chain 50 = .ok (.istore_n 2, 1) := by decide +kernel
theorem dX5_chain_51 : decode cX5_chain 51 = .ok (.iinc 3 1, 3) := by decide +kernel
theorem dX5_chain_54 : decode cX5_chain 54 = .ok (.goto (-18), 3) := by decide +kernel
theorem dX5_chain_57 : decode cX5_chain 57 = .ok (.iload_n 2, 1) := by decide +kernel
theorem dX5_chain_58 : decode cX5_chain 58 = .ok (.ireturn, 1) := by decide +kernel
set_option maxRecDepth 20000 in
theorem ggX5_ring_X5_isOrder : GoodIn wsX5_ring wsX5_isOrder := goodIn_r _ [6, 7, 8, 9, 5, 10, 20, 21, 22, 23, 24, 25, 26, 27, 28, 29, 30, 31, 32] (by decide +kernel) (by decide +kernel)
set_option maxRecDepth 20000 in
theorem gX5_ring_X5_isOrder : GoodIn wsX5_ring (wsV RX5 86 RX5 yX5_isOrder wsX5_isOrder) := goodIn_app (goodIn_of _ (by decide +kernel)) ggX5_ring_X5_isOrder
set_option maxRecDepth 20000 in
theorem ggX5_ring_X5_goAlong : GoodIn wsX5_ring wsX5_goAlong := goodIn_r _ [14, 15, 2, 3, 4, 5, 6, 7, 8, 9, 10, 16, 17, 18, 19, 20, 21, 22, 23, 24, 25, 26, 27, 28, 29, 30, 31, 32] (by decide +kernel) (by decide +kernel)
set_option maxRecDepth 20000 in
theorem gX5_ring_X5_goAlong : GoodIn wsX5_ring (wsV RX5 98 RX5 yX5_goAlong wsX5_goAlong) := goodIn_app (goodIn_of _ (by decide +kernel)) ggX5_ring_X5_goAlong
set_option maxRecDepth 20000 in
theorem ggX5_ring_X5_part : GoodIn wsX5_ring wsX5_part := goodIn_r _ [19, 7, 20, 21, 22, 23, 24, 25, 26, 27, 28, 29, 30, 31, 32] (by decide +kernel) (by decide +kernel)
set_option maxRecDepth 20000 in
theorem gX5_ring_X5_part : GoodIn wsX5_ring (wsV RX5 76 RX5 yX5_part wsX5_part) := goodIn_app (goodIn_of _ (by decide +kernel)) ggX5_ring_X5_part
theorem dX5_ring_0 : decode cX5_ring 0 = .ok (.aload_n 0, 1) := by decide +kernel
theorem dX5_ring_1 : decode cX5_ring 1 = .ok (.aload_n 0, 1) := by decide +kernel
theorem dX5_ring_2 : decode cX5_ring 2 = .ok (.iload_n 1, 1) := by decide +kernel
theorem dX5_ring_3 : decode cX5_ring 3 = .ok (.invokevirtual 86, 3) := by decide +kernel
theorem dX5_ring_6 : decode cX5_ring 6 = .ok (.ifCond .eq 7, 3) := by decide +kernel
theorem dX5_ring_9 : decode cX5_ring 9 = .ok (.iconst 0, 1) := by decide +kernel
theorem dX5_ring_10 : decode cX5_ring 10 = .ok (.goto 4, 3) := by decide +kernel
theorem dX5_ring_13 : decode cX5_ring 13 = .ok (.iconst 1, 1) := by decide +kernel
theorem dX5_ring_14 : decode cX5_ring 14 = .ok (.putfield 37, 3) := by decide +kernel
theorem dX5_ring_17 : decode cX5_ring 17 = .ok (.aload_n 0, 1) := by decide +kernel
theorem dX5_ring_18 : decode cX5_ring 18 = .ok (.getfield 37, 3) := by decide +kernel
theorem dX5_ring_21 : decode cX5_ring 21 = .ok (.ifCond .le 5, 3) := by decide +kernel
theorem dX5_ring_24 : decode cX5_ring 24 = .ok (.iconst 0, 1) := by decide +kernel
theorem dX5_ring_25 : decode cX5_ring 25 = .ok (.ireturn, 1) := by decide +kernel
theorem dX5_ring_26 : decode cX5_ring 26 = .ok (.aload_n 0, 1) := by decide +kernel
theorem dX5_ring_27 : decode cX5_ring 27 = .ok (.iload_n 1, 1) := by decide +kernel
theorem dX5_ring_28 : decode cX5_ring 28 = .ok (.invokevirtual 98, 3) := by decide +kernel
theorem dX5_ring_31 : decode cX5_ring 31 = .ok (.istore_n 2, 1) := by decide +kernel
theorem dX5_ring_32 : decode cX5_ring 32 = .ok (.iload_n 2, 1) := by decide +kernel
theorem dX5_ring_33 : decode cX5_ring 33 = .ok (.iconst (-1), 1) := by decide +kernel
theorem dX5_ring_34 : decode cX5_ring 34 = .ok (.if_icmp .ne 5, 3) := by decide +kernel
theorem dX5_ring_37 : decode cX5_ring 37 = .ok (.iconst 0, 1) := by decide +kernel
theorem dX5_ring_38 : decode cX5_ring 38 = .ok (.ireturn, 1) := by decide +kernel
theorem dX5_ring_39 : decode cX5_ring 39 = .ok (.iconst 1, 1) := by decide +kernel
theorem dX5_ring_40 : decode cX5_ring 40 = .ok (.istore_n 3, 1) := by decide +kernel
theorem dX5_ring_41 : decode cX5_ring 41 = .ok (.aload_n 0, 1) := by decide +kernel
theorem dX5_ring_42 : decode cX5_ring 42 = .ok (.iload_n 2, 1) := by decide +kernel
theorem dX5_ring_43 : decode cX5_ring 43 = .ok (.iconst 2, 1) := by decide +kernel
theorem dX5_ring_44 : decode cX5_ring 44 = .ok (.invokevirtual 76, 3) := by decide +kernel
theorem dX5_ring_47 : decode cX5_ring 47 = .ok (.istore 4, 2) := by decide +kernel
theorem dX5_ring_49 : decode cX5_ring 49 = .ok (.iload 4, 2) := by decide +kernel
theorem dX5_ring_51 : decode cX5_ring 51 = .ok (.iload_n 2, 1) := by decide +kernel
theorem dX5_ring_52 : decode cX5_ring 52 = .ok (.if_icmp .eq 18, 3) := by decide +kernel
theorem dX5_ring_55 : decode cX5_ring 55 = .ok (.iinc 3 1, 3) := by decide +kernel
theorem dX5_ring_58 : decode cX5_ring 58 = .ok (.aload_n 0, 1) := by decide +kernel
theorem dX5_ring_59 : decode cX5_ring 59 = .ok (.iload 4, 2) := by decide +kernel
theorem dX5_ring_61 : decode cX5_ring 61 = .ok (.iconst 2, 1) := by decide +kernel
theorem dX5_ring_62 : decode cX5_ring 62 = .ok (.invokevirtual 76, 3) := by decide +kernel
theorem dX5_ring_65 : decode cX5_ring 65 = .ok (.istore 4, 2) := by decide +kernel
theorem dX5_ring_67 : decode cX5_ring 67 = .ok (.goto (-18), 3) := by decide +kernel
theorem dX5_ring_70 : decode cX5_ring 70 = .ok (.iload_n 3, 1) := by decide +kernel
theorem dX5_ring_71 : decode cX5_ring 71 = .ok (.ireturn, 1) := by decide +kernel
set_option maxRecDepth 20000 in
theorem ggX5_remember_X5_copy : GoodIn wsX5_remember wsX5_copy := goodIn_r _ [7] (by decide +kernel) (by decide +kernel)
set_option maxRecDepth 20000 in
theorem gX5_remember_X5_copy : GoodIn wsX5_remember (va_wsS RX5 69 yX5_copy wsX5_copy) := goodIn_app (goodIn_of _ (by decide +kernel)) ggX5_remember_X5_copy
theorem dX5_remember_0 : decode cX5_remember 0 = .ok (.aload_n 0, 1) := by decide +kernel
theorem dX5_remember_1 : decode cX5_remember 1 = .ok (.getfield 73, 3) := by decide +kernel
theorem dX5_remember_4 : decode cX5_remember 4 = .ok (.bipush 14, 2) := by decide +kernel
theorem dX5_remember_6 : decode cX5_remember 6 = .ok (.if_icmp .ne 44, 3) := by decide +kernel
theorem dX5_remember_9 : decode cX5_remember 9 = .ok (.iconst 0, 1) := by decide +kernel
theorem dX5_remember_10 : decode cX5_remember 10 = .ok (.istore_n 1, 1) := by decide +kernel
theorem dX5_remember_11 : decode cX5_remember 11 = .ok (.iload_n 1, 1) := by decide +kernel
theorem dX5_remember_12 : decode cX5_remember 12 = .ok (.sipush 12025, 3) := by decide +kernel
theorem dX5_remember_15 : decode cX5_remember 15 = .ok (.if_icmp .ge 25, 3) := by decide +kernel
theorem dX5_remember_18 : decode cX5_remember 18 = .ok (.aload_n 0, 1) := by decide +kernel
theorem dX5_remember_19 : decode cX5_remember 19 = .ok (.getfield 22, 3) := by decide +kernel
theorem dX5_remember_22 : decode cX5_remember 22 = .ok (.iload_n 1, 1) := by decide +kernel
theorem dX5_remember_23 : decode cX5_remember 23 = .ok (.aload_n 0, 1) := by decide +kernel
theorem dX5_remember_24 : decode cX5_remember 24 = .ok (.getfield 22, 3) := by decide +kernel
theorem dX5_remember_27 : decode cX5_remember 27 = .ok (.iload_n 1, 1) := by decide +kernel
theorem dX5_remember_28 : decode cX5_remember 28 = .ok (.sipush 925, 3) := by decide +kernel
theorem dX5_remember_31 : decode cX5_remember 31 = .ok (.iadd, 1) := by decide +kernel
theorem dX5_remember_32 : decode cX5_remember 32 = .ok (.iaload, 1) := by decide +kernel
theorem dX5_remember_33 : decode cX5_remember 33 = .ok (.iastore, 1) := by decide +kernel
theorem dX5_remember_34 : decode cX5_remember 34 = .ok (.iinc 1 1, 3) := by decide +kernel
theorem dX5_remember_37 : decode cX5_remember 37 = .ok (.goto (-26), 3) := by decide +kernel
theorem dX5_remember_40 : decode cX5_remember 40 = .ok (.aload_n 0, 1) := by decide +kernel
theorem dX5_remember_41 : decode cX5_remember 41 = .ok (.dup, 1) := by decide +kernel
theorem dX5_remember_42 : decode cX5_remember 42 = .ok (.getfield 73, 3) := by decide +kernel
theorem dX5_remember_45 : decode cX5_remember 45 = .ok (.iconst 1, 1) := by decide +kernel
theorem dX5_remember_46 : decode cX5_remember 46 = .ok (.isub, 1) := by decide +kernel
theorem dX5_remember_47 : decode cX5_remember 47 = .ok (.putfield 73, 3) := by decide +kernel
theorem dX5_remember_50 : decode cX5_remember 50 = .ok (.aload_n 0, 1) := by decide +kernel
theorem dX5_remember_51 : decode cX5_remember 51 = .ok (.getfield 7, 3) := by decide +kernel
theorem dX5_remember_54 : decode cX5_remember 54 = .ok (.iconst 0, 1) := by decide +kernel
theorem dX5_remember_55 : decode cX5_remember 55 = .ok (.aload_n 0, 1) := by decide +kernel
theorem dX5_remember_56 : decode cX5_remember 56 = .ok (.getfield 22, 3) := by decide +kernel
theorem dX5_remember_59 : decode cX5_remember 59 = .ok (.aload_n 0, 1) := by decide +kernel
theorem dX5_remember_60 : decode cX5_remember 60 = .ok (.getfield 73, 3) := by decide +kernel
theorem dX5_remember_63 : decode cX5_remember 63 = .ok (.sipush 925, 3) := by decide +kernel
theorem dX5_remember_66 : decode cX5_remember 66 = .ok (.imul, 1) := by decide +kernel
theorem dX5_remember_67 : decode cX5_remember 67 = .ok (.invokestatic 69, 3) := by decide +kernel
theorem dX5_remember_70 : decode cX5_remember 70 = .ok (.aload_n 0, 1) := by decide +kernel
theorem dX5_remember_71 : decode cX5_remember 71 = .ok (.dup, 1) := by decide +kernel
theorem dX5_remember_72 : decode cX5_remember 72 = .ok (.getfield 73, 3) := by decide +kernel
theorem dX5_remember_75 : decode cX5_remember 75 = .ok (.iconst 1, 1) := by decide +kernel
theorem dX5_remember_76 : decode cX5_remember 76 = .ok (.iadd, 1) := by decide +kernel
theorem dX5_remember_77 : decode cX5_remember 77 = .ok (.putfield 73, 3) := by decide +kernel
theorem dX5_remember_80 : decode cX5_remember 80 = .ok (.return_, 1) := by decide +kernel
set_option maxRecDepth 20000 in
theorem ggX5_refund_X5_part : GoodIn wsX5_refund wsX5_part := goodIn_r _ [6, 1, 11, 12, 13, 14, 15, 16, 17, 18, 19, 20, 21, 22, 23] (by decide +kernel) (by decide +kernel)
set_option maxRecDepth 20000 in
theorem gX5_refund_X5_part : GoodIn wsX5_refund (wsV RX5 76 RX5 yX5_part wsX5_part) := goodIn_app (goodIn_of _ (by decide +kernel)) ggX5_refund_X5_part
set_option maxRecDepth 20000 in
theorem ggX5_refund_X5_setPart : GoodIn wsX5_refund wsX5_setPart := goodIn_r _ [10, 1, 11, 12, 13, 14, 15, 16, 17, 18, 19, 20, 21, 22, 23] (by decide +kernel) (by decide +kernel)
set_option maxRecDepth 20000 in
theorem gX5_refund_X5_setPart : GoodIn wsX5_refund (wsV RX5 101 RX5 yX5_setPart wsX5_setPart) := goodIn_app (goodIn_of _ (by decide +kernel)) ggX5_refund_X5_setPart
theorem dX5_refund_0 : decode cX5_refund 0 = .ok (.aload_n 0, 1) := by decide +kernel
theorem dX5_refund_1 : decode cX5_refund 1 = .ok (.iload_n 1, 1) := by decide +kernel
theorem dX5_refund_2 : decode cX5_refund 2 = .ok (.bipush 7, 2) := by decide +kernel
theorem dX5_refund_4 : decode cX5_refund 4 = .ok (.invokevirtual 76, 3) := by decide +kernel
theorem dX5_refund_7 : decode cX5_refund 7 = .ok (.istore_n 2, 1) := by decide +kernel
theorem dX5_refund_8 : decode cX5_refund 8 = .ok (.aload_n 0, 1) := by decide +kernel
theorem dX5_refund_9 : decode cX5_refund 9 = .ok (.getfield 7, 3) := by decide +kernel
theorem dX5_refund_12 : decode cX5_refund 12 = .ok (.bipush 9, 2) := by decide +kernel
theorem dX5_refund_14 : decode cX5_refund 14 = .ok (.aload_n 0, 1) := by decide +kernel
theorem dX5_refund_15 : decode cX5_refund 15 = .ok (.iload_n 1, 1) := by decide +kernel
theorem dX5_refund_16 : decode cX5_refund 16 = .ok (.iconst 0, 1) := by decide +kernel
theorem dX5_refund_17 : decode cX5_refund 17 = .ok (.invokevirtual 76, 3) := by decide +kernel
theorem dX5_refund_20 : decode cX5_refund 20 = .ok (.iadd, 1) := by decide +kernel
theorem dX5_refund_21 : decode cX5_refund 21 = .ok (.dup2, 1) := by decide +kernel
theorem dX5_refund_22 : decode cX5_refund 22 = .ok (.iaload, 1) := by decide +kernel
theorem dX5_refund_23 : decode cX5_refund 23 = .ok (.iload_n 2, 1) := by decide +kernel
theorem dX5_refund_24 : decode cX5_refund 24 = .ok (.iadd, 1) := by decide +kernel
theorem dX5_refund_25 : decode cX5_refund 25 = .ok (.iastore, 1) := by decide +kernel
theorem dX5_refund_26 : decode cX5_refund 26 = .ok (.aload_n 0, 1) := by decide +kernel
theorem dX5_refund_27 : decode cX5_refund 27 = .ok (.iload_n 1, 1) := by decide +kernel
theorem dX5_refund_28 : decode cX5_refund 28 = .ok (.bipush 7, 2) := by decide +kernel
theorem dX5_refund_30 : decode cX5_refund 30 = .ok (.iconst 0, 1) := by decide +kernel
theorem dX5_refund_31 : decode cX5_refund 31 = .ok (.invokevirtual 101, 3) := by decide +kernel
theorem dX5_refund_34 : decode cX5_refund 34 = .ok (.iload_n 2, 1) := by decide +kernel
theorem dX5_refund_35 : decode cX5_refund 35 = .ok (.ireturn, 1) := by decide +kernel
set_option maxRecDepth 20000 in
theorem ggX5_takeOff_X5_refund : GoodIn wsX5_takeOff wsX5_refund := goodIn_r _ [6, 1, 7, 8, 9, 5, 10, 11, 12, 13, 14, 15, 16, 17, 18, 19, 20, 21, 22, 23, 24, 25, 26, 27] (by decide +kernel) (by decide +kernel)
set_option maxRecDepth 20000 in
theorem gX5_takeOff_X5_refund : GoodIn wsX5_takeOff (wsV RX5 105 RX5 yX5_refund wsX5_refund) := goodIn_app (goodIn_of _ (by decide +kernel)) ggX5_takeOff_X5_refund
set_option maxRecDepth 20000 in
theorem ggX5_takeOff_X5_setPart : GoodIn wsX5_takeOff wsX5_setPart := goodIn_r _ [14, 1, 15, 16, 17, 18, 19, 20, 21, 22, 23, 24, 25, 26, 27] (by decide +kernel) (by decide +kernel)
set_option maxRecDepth 20000 in
theorem gX5_takeOff_X5_setPart : GoodIn wsX5_takeOff (wsV RX5 101 RX5 yX5_setPart wsX5_setPart) := goodIn_app (goodIn_of _ (by decide +kernel)) ggX5_takeOff_X5_setPart
theorem dX5_takeOff_0 : decode cX5_takeOff 0 = .ok (.iconst 0, 1) := by decide +kernel
theorem dX5_takeOff_1 : decode cX5_takeOff 1 = .ok (.istore_n 1, 1) := by decide +kernel
theorem dX5_takeOff_2 : decode cX5_takeOff 2 = .ok (.iload_n 1, 1) := by decide +kernel
theorem dX5_takeOff_3 : decode cX5_takeOff 3 = .ok (.aload_n 0, 1) := by decide +kernel
theorem dX5_takeOff_4 : decode cX5_takeOff 4 = .ok (.getfield 7, 3) := by decide +kernel
theorem dX5_takeOff_7 : decode cX5_takeOff 7 = .ok (.iconst 2, 1) := by decide +kernel
theorem dX5_takeOff_8 : decode cX5_takeOff 8 = .ok (.iaload, 1) := by decide +kernel
theorem dX5_takeOff_9 : decode cX5_takeOff 9 = .ok (.if_icmp .ge 30, 3) := by decide +kernel
theorem dX5_takeOff_12 : decode cX5_takeOff 12 = .ok (.aload_n 0, 1) := by decide +kernel
theorem dX5_takeOff_13 : decode cX5_takeOff 13 = .ok (.iload_n 1, 1) := by decide +kernel
theorem dX5_takeOff_14 : decode cX5_takeOff 14 = .ok (.invokevirtual 105, 3) := by decide +kernel
theorem dX5_takeOff_17 : decode cX5_takeOff 17 = .ok (.pop, 1) := by decide +kernel
theorem dX5_takeOff_18 : decode cX5_takeOff 18 = .ok (.aload_n 0, 1) := by decide +kernel
theorem dX5_takeOff_19 : decode cX5_takeOff 19 = .ok (.iload_n 1, 1) := by decide +kernel
theorem dX5_takeOff_20 : decode cX5_takeOff 20 = .ok (.iconst 5, 1) := by decide +kernel
theorem dX5_takeOff_21 : decode cX5_takeOff 21 = .ok (.iconst (-1), 1) := by decide +kernel
theorem dX5_takeOff_22 : decode cX5_takeOff 22 = .ok (.invokevirtual 101, 3) := by decide +kernel
theorem dX5_takeOff_25 : decode cX5_takeOff 25 = .ok (.aload_n 0, 1) := by decide +kernel
theorem dX5_takeOff_26 : decode cX5_takeOff 26 = .ok (.iload_n 1, 1) := by decide +kernel
theorem dX5_takeOff_27 : decode cX5_takeOff 27 = .ok (.bipush 6, 2) := by decide +kernel
theorem dX5_takeOff_29 : decode cX5_takeOff 29 = .ok (.iconst (-1), 1) := by decide +kernel
theorem dX5_takeOff_30 : decode cX5_takeOff 30 = .ok (.invokevirtual 101, 3) := by decide +kernel
theorem dX5_takeOff_33 : decode cX5_takeOff 33 = .ok (.iinc 1 1, 3) := by decide +kernel
theorem dX5_takeOff_36 : decode cX5_takeOff 36 = .ok (.goto (-34), 3) := by decide +kernel
theorem dX5_takeOff_39 : decode cX5_takeOff 39 = .ok (.return_, 1) := by decide +kernel
set_option maxRecDepth 20000 in
theorem ggX5_setDrum_X5_within : GoodIn wsX5_setDrum wsX5_within := goodIn_r _ [6] (by decide +kernel) (by decide +kernel)
set_option maxRecDepth 20000 in
theorem gX5_setDrum_X5_within : GoodIn wsX5_setDrum (va_wsS RX5 41 yX5_within wsX5_within) := goodIn_app (goodIn_of _ (by decide +kernel)) ggX5_setDrum_X5_within
set_option maxRecDepth 20000 in
theorem ggX5_setDrum_X5_remember : GoodIn wsX5_setDrum wsX5_remember := goodIn_r _ [10, 11, 12, 2, 13, 14, 5, 15, 32, 33, 34, 35, 36, 37, 38, 39, 40, 41, 42, 43, 44] (by decide +kernel) (by decide +kernel)
set_option maxRecDepth 20000 in
theorem gX5_setDrum_X5_remember : GoodIn wsX5_setDrum (wsV RX5 108 RX5 yX5_remember wsX5_remember) := goodIn_app (goodIn_of _ (by decide +kernel)) ggX5_setDrum_X5_remember
set_option maxRecDepth 20000 in
theorem ggX5_setDrum_X5_takeOff : GoodIn wsX5_setDrum wsX5_takeOff := goodIn_r _ [19, 2, 20, 21, 22, 5, 23, 24, 25, 26, 27, 28, 29, 30, 31, 32, 33, 34, 35, 36, 37, 38, 39, 40, 41, 42, 43, 44] (by decide +kernel) (by decide +kernel)
set_option maxRecDepth 20000 in
theorem gX5_setDrum_X5_takeOff : GoodIn wsX5_setDrum (wsV RX5 111 RX5 yX5_takeOff wsX5_takeOff) := goodIn_app (goodIn_of _ (by decide +kernel)) ggX5_setDrum_X5_takeOff
theorem dX5_setDrum_0 : decode cX5_setDrum 0 = .ok (.aload_n 0, 1) := by decide +kernel
theorem dX5_setDrum_1 : decode cX5_setDrum 1 = .ok (.iload_n 1, 1) := by decide +kernel
theorem dX5_setDrum_2 : decode cX5_setDrum 2 = .ok (.bipush 6, 2) := by decide +kernel
theorem dX5_setDrum_4 : decode cX5_setDrum 4 = .ok (.bipush 40, 2) := by decide +kernel
theorem dX5_setDrum_6 : decode cX5_setDrum 6 = .ok (.invokestatic 41, 3) := by decide +kernel
theorem dX5_setDrum_9 : decode cX5_setDrum 9 = .ok (.ifCond .eq 7, 3) := by decide +kernel
theorem dX5_setDrum_12 : decode cX5_setDrum 12 = .ok (.iconst 0, 1) := by decide +kernel
theorem dX5_setDrum_13 : decode cX5_setDrum 13 = .ok (.goto 4, 3) := by decide +kernel
theorem dX5_setDrum_16 : decode cX5_setDrum 16 = .ok (.iconst 1, 1) := by decide +kernel
theorem dX5_setDrum_17 : decode cX5_setDrum 17 = .ok (.putfield 37, 3) := by decide +kernel
theorem dX5_setDrum_20 : decode cX5_setDrum 20 = .ok (.aload_n 0, 1) := by decide +kernel
theorem dX5_setDrum_21 : decode cX5_setDrum 21 = .ok (.getfield 37, 3) := by decide +kernel
theorem dX5_setDrum_24 : decode cX5_setDrum 24 = .ok (.ifCond .le 5, 3) := by decide +kernel
theorem dX5_setDrum_27 : decode cX5_setDrum 27 = .ok (.iconst 0, 1) := by decide +kernel
theorem dX5_setDrum_28 : decode cX5_setDrum 28 = .ok (.ireturn, 1) := by decide +kernel
theorem dX5_setDrum_29 : decode cX5_setDrum 29 = .ok (.aload_n 0, 1) := by decide +kernel
theorem dX5_setDrum_30 : decode cX5_setDrum 30 = .ok (.invokevirtual 108, 3) := by decide +kernel
theorem dX5_setDrum_33 : decode cX5_setDrum 33 = .ok (.aload_n 0, 1) := by decide +kernel
theorem dX5_setDrum_34 : decode cX5_setDrum 34 = .ok (.getfield 7, 3) := by decide +kernel
theorem dX5_setDrum_37 : decode cX5_setDrum 37 = .ok (.iconst 0, 1) := by decide +kernel
theorem dX5_setDrum_38 : decode cX5_setDrum 38 = .ok (.iaload, 1) := by decide +kernel
theorem dX5_setDrum_39 : decode cX5_setDrum 39 = .ok (.istore_n 2, 1) := by decide +kernel
theorem dX5_setDrum_40 : decode cX5_setDrum 40 = .ok (.aload_n 0, 1) := by decide +kernel
theorem dX5_setDrum_41 : decode cX5_setDrum 41 = .ok (.invokevirtual 111, 3) := by decide +kernel
theorem dX5_setDrum_44 : decode cX5_setDrum 44 = .ok (.aload_n 0, 1) := by decide +kernel
theorem dX5_setDrum_45 : decode cX5_setDrum 45 = .ok (.getfield 7, 3) := by decide +kernel
theorem dX5_setDrum_48 : decode cX5_setDrum 48 = .ok (.iconst 0, 1) := by decide +kernel
theorem dX5_setDrum_49 : decode cX5_setDrum 49 = .ok (.iload_n 1, 1) := by decide +kernel
theorem dX5_setDrum_50 : decode cX5_setDrum 50 = .ok (.iastore, 1) := by decide +kernel
theorem dX5_setDrum_51 : decode cX5_setDrum 51 = .ok (.iload_n 2, 1) := by decide +kernel
theorem dX5_setDrum_52 : decode cX5_setDrum 52 = .ok (.ireturn, 1) := by decide +kernel
set_option maxRecDepth 20000 in
theorem ggX5_isInRange_X5_isAuthor : GoodIn wsX5_isInRange wsX5_isAuthor := goodIn_r _ [4, 5, 6, 3, 7] (by decide +kernel) (by decide +kernel)
set_option maxRecDepth 20000 in
theorem gX5_isInRange_X5_isAuthor : GoodIn wsX5_isInRange (va_wsS RX5 89 yX5_isAuthor wsX5_isAuthor) := goodIn_app (goodIn_of _ (by decide +kernel)) ggX5_isInRange_X5_isAuthor
set_option maxRecDepth 20000 in
theorem ggX5_isInRange_X5_within : GoodIn wsX5_isInRange wsX5_within := goodIn_r _ [7] (by decide +kernel) (by decide +kernel)
set_option maxRecDepth 20000 in
theorem gX5_isInRange_X5_within : GoodIn wsX5_isInRange (va_wsS RX5 41 yX5_within wsX5_within) := goodIn_app (goodIn_of _ (by decide +kernel)) ggX5_isInRange_X5_within
theorem dX5_isInRange_0 : decode cX5_isInRange 0 = .ok (.iload_n 0, 1) := by decide +kernel
theorem dX5_isInRange_1 : decode cX5_isInRange 1 = .ok (.tableswitch 64 0 4 #[35, 40, 48, 48, 56], 35) := by decide +kernel
theorem dX5_isInRange_36 : decode cX5_isInRange 36 = .ok (.iload_n 1, 1) := by decide +kernel
theorem dX5_isInRange_37 : decode cX5_isInRange 37 = .ok (.invokestatic 89, 3) := by decide +kernel
theorem dX5_isInRange_40 : decode cX5_isInRange 40 = .ok (.ireturn, 1) := by decide +kernel
theorem dX5_isInRange_41 : decode cX5_isInRange 41 = .ok (.iload_n 1, 1) := by decide +kernel
theorem dX5_isInRange_42 : decode cX5_isInRange 42 = .ok (.iconst 1, 1) := by decide +kernel
theorem dX5_isInRange_43 : decode cX5_isInRange 43 = .ok (.bipush 9, 2) := by decide +kernel
theorem dX5_isInRange_45 : decode cX5_isInRange 45 = .ok (.invokestatic 41, 3) := by decide +kernel
theorem dX5_isInRange_48 : decode cX5_isInRange 48 = .ok (.ireturn, 1) := by decide +kernel
theorem dX5_isInRange_49 : decode cX5_isInRange 49 = .ok (.iload_n 1, 1) := by decide +kernel
theorem dX5_isInRange_50 : decode cX5_isInRange 50 = .ok (.iconst (-1), 1) := by decide +kernel
theorem dX5_isInRange_51 : decode cX5_isInRange 51 = .ok (.bipush 15, 2) := by decide +kernel
theorem dX5_isInRange_53 : decode cX5_isInRange 53 = .ok (.invokestatic 41, 3) := by decide +kernel
theorem dX5_isInRange_56 : decode cX5_isInRange 56 = .ok (.ireturn, 1) := by decide +kernel
theorem dX5_isInRange_57 : decode cX5_isInRange 57 = .ok (.iload_n 1, 1) := by decide +kernel
theorem dX5_isInRange_58 : decode cX5_isInRange 58 = .ok (.iconst 0, 1) := by decide +kernel
theorem dX5_isInRange_59 : decode cX5_isInRange 59 = .ok (.bipush 99, 2) := by decide +kernel
theorem dX5_isInRange_61 : decode cX5_isInRange 61 = .ok (.invokestatic 41, 3) := by decide +kernel
theorem dX5_isInRange_64 : decode cX5_isInRange 64 = .ok (.ireturn, 1) := by decide +kernel
theorem dX5_isInRange_65 : decode cX5_isInRange 65 = .ok (.iconst 0, 1) := by decide +kernel
theorem dX5_isInRange_66 : decode cX5_isInRange 66 = .ok (.ireturn, 1) := by decide +kernel
set_option maxRecDepth 20000 in
theorem ggX5_addOrder_X5_isInRange : GoodIn wsX5_addOrder wsX5_isInRange := goodIn_r _ [6, 7, 8, 5, 9, 10, 11, 12] (by decide +kernel) (by decide +kernel)
set_option maxRecDepth 20000 in
theorem gX5_addOrder_X5_isInRange : GoodIn wsX5_addOrder (va_wsS RX5 114 yX5_isInRange wsX5_isInRange) := goodIn_app (goodIn_of _ (by decide +kernel)) ggX5_addOrder_X5_isInRange
set_option maxRecDepth 20000 in
theorem ggX5_addOrder_X5_remember : GoodIn wsX5_addOrder wsX5_remember := goodIn_r _ [16, 17, 18, 1, 19, 20, 5, 21, 26, 27, 28, 29, 30, 31, 32, 33, 34, 35, 36, 37, 38] (by decide +kernel) (by decide +kernel)
set_option maxRecDepth 20000 in
theorem gX5_addOrder_X5_remember : GoodIn wsX5_addOrder (wsV RX5 108 RX5 yX5_remember wsX5_remember) := goodIn_app (goodIn_of _ (by decide +kernel)) ggX5_addOrder_X5_remember
set_option maxRecDepth 20000 in
theorem ggX5_addOrder_X5_setPart : GoodIn wsX5_addOrder wsX5_setPart := goodIn_r _ [25, 1, 26, 27, 28, 29, 30, 31, 32, 33, 34, 35, 36, 37, 38] (by decide +kernel) (by decide +kernel)
set_option maxRecDepth 20000 in
theorem gX5_addOrder_X5_setPart : GoodIn wsX5_addOrder (wsV RX5 101 RX5 yX5_setPart wsX5_setPart) := goodIn_app (goodIn_of _ (by decide +kernel)) ggX5_addOrder_X5_setPart
theorem dX5_addOrder_0 : decode cX5_addOrder 0 = .ok (.iconst 0, 1) := by decide +kernel
theorem dX5_addOrder_1 : decode cX5_addOrder 1 = .ok (.iload_n 1, 1) := by decide +kernel
theorem dX5_addOrder_2 : decode cX5_addOrder 2 = .ok (.invokestatic 114, 3) := by decide +kernel
theorem dX5_addOrder_5 : decode cX5_addOrder 5 = .ok (.ifCond .eq 41, 3) := by decide +kernel
theorem dX5_addOrder_8 : decode cX5_addOrder 8 = .ok (.iconst 1, 1) := by decide +kernel
theorem dX5_addOrder_9 : decode cX5_addOrder 9 = .ok (.iload_n 2, 1) := by decide +kernel
theorem dX5_addOrder_10 : decode cX5_addOrder 10 = .ok (.invokestatic 114, 3) := by decide +kernel
theorem dX5_addOrder_13 : decode cX5_addOrder 13 = .ok (.ifCond .eq 33, 3) := by decide +kernel
theorem dX5_addOrder_16 : decode cX5_addOrder 16 = .ok (.iconst 2, 1) := by decide +kernel
theorem dX5_addOrder_17 : decode cX5_addOrder 17 = .ok (.iload_n 3, 1) := by decide +kernel
theorem dX5_addOrder_18 : decode cX5_addOrder 18 = .ok (.invokestatic 114, 3) := by decide +kernel
theorem dX5_addOrder_21 : decode cX5_addOrder 21 = .ok (.ifCond .eq 25, 3) := by decide +kernel
theorem dX5_addOrder_24 : decode cX5_addOrder 24 = .ok (.iconst 3, 1) := by decide +kernel
theorem dX5_addOrder_25 : decode cX5_addOrder 25 = .ok (.iload 4, 2) := by decide +kernel
theorem dX5_addOrder_27 : decode cX5_addOrder 27 = .ok (.invokestatic 114, 3) := by decide +kernel
theorem dX5_addOrder_30 : decode cX5_addOrder 30 = .ok (.ifCond .eq 16, 3) := by decide +kernel
theorem dX5_addOrder_33 : decode cX5_addOrder 33 = .ok (.iconst 4, 1) := by decide +kernel
theorem dX5_addOrder_34 : decode cX5_addOrder 34 = .ok (.iload 5, 2) := by decide +kernel
theorem dX5_addOrder_36 : decode cX5_addOrder 36 = .ok (.invokestatic 114, 3) := by decide +kernel
theorem dX5_addOrder_39 : decode cX5_addOrder 39 = .ok (.ifCond .eq 7, 3) := by decide +kernel
theorem dX5_addOrder_42 : decode cX5_addOrder 42 = .ok (.iconst 1, 1) := by decide +kernel
theorem dX5_addOrder_43 : decode cX5_addOrder 43 = .ok (.goto 4, 3) := by decide +kernel
theorem dX5_addOrder_46 : decode cX5_addOrder 46 = .ok (.iconst 0, 1) := by decide +kernel
theorem dX5_addOrder_47 : decode cX5_addOrder 47 = .ok (.istore 6, 2) := by decide +kernel
theorem dX5_addOrder_49 : decode cX5_addOrder 49 = .ok (.aload_n 0, 1) := by decide +kernel
theorem dX5_addOrder_50 : decode cX5_addOrder 50 = .ok (.iload 6, 2) := by decide +kernel
theorem dX5_addOrder_52 : decode cX5_addOrder 52 = .ok (.ifCond .ne 7, 3) := by decide +kernel
theorem dX5_addOrder_55 : decode cX5_addOrder 55 = .ok (.iconst 1, 1) := by decide +kernel
theorem dX5_addOrder_56 : decode cX5_addOrder 56 = .ok (.goto 19, 3) := by decide +kernel
theorem dX5_addOrder_59 : decode cX5_addOrder 59 = .ok (.aload_n 0, 1) := by decide +kernel
theorem dX5_addOrder_60 : decode cX5_addOrder 60 = .ok (.getfield 7, 3) := by decide +kernel
theorem dX5_addOrder_63 : decode cX5_addOrder 63 = .ok (.iconst 2, 1) := by decide +kernel
theorem dX5_addOrder_64 : decode cX5_addOrder 64 = .ok (.iaload, 1) := by decide +kernel
theorem dX5_addOrder_65 : decode cX5_addOrder 65 = .ok (.bipush 16, 2) := by decide +kernel
theorem dX5_addOrder_67 : decode cX5_addOrder 67 = .ok (.if_icmp .ne 7, 3) := by decide +kernel
theorem dX5_addOrder_70 : decode cX5_addOrder 70 = .ok (.iconst 2, 1) := by decide +kernel
theorem dX5_addOrder_71 : decode cX5_addOrder 71 = .ok (.goto 4, 3) := by decide +kernel
theorem dX5_addOrder_74 : decode cX5_addOrder 74 = .ok (.iconst 0, 1) := by decide +kernel
theorem dX5_addOrder_75 : decode cX5_addOrder 75 = .ok (.putfield 37, 3) := by decide +kernel
theorem dX5_addOrder_78 : decode cX5_addOrder 78 = .ok (.aload_n 0, 1) := by decide +kernel
theorem dX5_addOrder_79 : decode cX5_addOrder 79 = .ok (.getfield 37, 3) := by decide +kernel
theorem dX5_addOrder_82 : decode cX5_addOrder 82 = .ok (.ifCond .le 5, 3) := by decide +kernel
theorem dX5_addOrder_85 : decode cX5_addOrder 85 = .ok (.iconst 0, 1) := by decide +kernel
theorem dX5_addOrder_86 : decode cX5_addOrder 86 = .ok (.ireturn, 1) := by decide +kernel
theorem dX5_addOrder_87 : decode cX5_addOrder 87 = .ok (.aload_n 0, 1) := by decide +kernel
theorem dX5_addOrder_88 : decode cX5_addOrder 88 = .ok (.invokevirtual 108, 3) := by decide +kernel
theorem dX5_addOrder_91 : decode cX5_addOrder 91 = .ok (.aload_n 0, 1) := by decide +kernel
theorem dX5_addOrder_92 : decode cX5_addOrder 92 = .ok (.getfield 7, 3) := by decide +kernel
theorem dX5_addOrder_95 : decode cX5_addOrder 95 = .ok (.iconst 2, 1) := by decide +kernel
theorem dX5_addOrder_96 : decode cX5_addOrder 96 = .ok (.iaload, 1) := by decide +kernel
theorem dX5_addOrder_97 : decode cX5_addOrder 97 = .ok (.istore 7, 2) := by decide +kernel
theorem dX5_addOrder_99 : decode cX5_addOrder 99 = .ok (.aload_n 0, 1) := by decide +kernel
theorem dX5_addOrder_100 : decode cX5_addOrder 100 = .ok (.iload 7, 2) := by decide +kernel
theorem dX5_addOrder_102 : decode cX5_addOrder 102 = .ok (.iconst 0, 1) := by decide +kernel
theorem dX5_addOrder_103 : decode cX5_addOrder 103 = .ok (.iload_n 1, 1) := by decide +kernel
theorem dX5_addOrder_104 : decode cX5_addOrder 104 = .ok (.invokevirtual 101, 3) := by decide +kernel
theorem dX5_addOrder_107 : decode cX5_addOrder 107 = .ok (.aload_n 0, 1) := by decide +kernel
theorem dX5_addOrder_108 : decode cX5_addOrder 108 = .ok (.iload 7, 2) := by decide +kernel
theorem dX5_addOrder_110 : decode cX5_addOrder 110 = .ok (.iconst 1, 1) := by decide +kernel
theorem dX5_addOrder_111 : decode cX5_addOrder 111 = .ok (.iload_n 2, 1) := by decide +kernel
theorem dX5_addOrder_112 : decode cX5_addOrder 112 = .ok (.invokevirtual 101, 3) := by decide +kernel
theorem dX5_addOrder_115 : decode cX5_addOrder 115 = .ok (.aload_n 0, 1) := by decide +kernel
theorem dX5_addOrder_116 : decode cX5_addOrder 116 = .ok (.iload 7, 2) := by decide +kernel
theorem dX5_addOrder_118 : decode cX5_addOrder 118 = .ok (.iconst 2, 1) := by decide +kernel
theorem dX5_addOrder_119 : decode cX5_addOrder 119 = .ok (.iload_n 3, 1) := by decide +kernel
theorem dX5_addOrder_120 : decode cX5_addOrder 120 = .ok (.invokevirtual 101, 3) := by decide +kernel
theorem dX5_addOrder_123 : decode cX5_addOrder 123 = .ok (.aload_n 0, 1) := by decide +kernel
theorem dX5_addOrder_124 : decode cX5_addOrder 124 = .ok (.iload 7, 2) := by decide +kernel
theorem dX5_addOrder_126 : decode cX5_addOrder 126 = .ok (.iconst 3, 1) := by decide +kernel
theorem dX5_addOrder_127 : decode cX5_addOrder 127 = .ok (.iload 4, 2) := by decide +kernel
theorem dX5_addOrder_129 : decode cX5_addOrder 129 = .ok (.invokevirtual 101, 3) := by decide +kernel
theorem dX5_addOrder_132 : decode cX5_addOrder 132 = .ok (.aload_n 0, 1) := by decide +kernel
theorem dX5_addOrder_133 : decode cX5_addOrder 133 = .ok (.iload 7, 2) := by decide +kernel
theorem dX5_addOrder_135 : decode cX5_addOrder 135 = .ok (.iconst 4, 1) := by decide +kernel
theorem dX5_addOrder_136 : decode cX5_addOrder 136 = .ok (.iload 5, 2) := by decide +kernel
theorem dX5_addOrder_138 : decode cX5_addOrder 138 = .ok (.invokevirtual 101, 3) := by decide +kernel
theorem dX5_addOrder_141 : decode cX5_addOrder 141 = .ok (.aload_n 0, 1) := by decide +kernel
theorem dX5_addOrder_142 : decode cX5_addOrder 142 = .ok (.iload 7, 2) := by decide +kernel
theorem dX5_addOrder_144 : decode cX5_addOrder 144 = .ok (.iconst 5, 1) := by decide +kernel
theorem dX5_addOrder_145 : decode cX5_addOrder 145 = .ok (.iconst (-1), 1) := by decide +kernel
theorem dX5_addOrder_146 : decode cX5_addOrder 146 = .ok (.invokevirtual 101, 3) := by decide +kernel
theorem dX5_addOrder_149 : decode cX5_addOrder 149 = .ok (.aload_n 0, 1) := by decide +kernel
theorem dX5_addOrder_150 : decode cX5_addOrder 150 = .ok (.iload 7, 2) := by decide +kernel
theorem dX5_addOrder_152 : decode cX5_addOrder 152 = .ok (.bipush 6, 2) := by decide +kernel
theorem dX5_addOrder_154 : decode cX5_addOrder 154 = .ok (.iconst (-1), 1) := by decide +kernel
theorem dX5_addOrder_155 : decode cX5_addOrder 155 = .ok (.invokevirtual 101, 3) := by decide +kernel
theorem dX5_addOrder_158 : decode cX5_addOrder 158 = .ok (.aload_n 0, 1) := by decide +kernel
theorem dX5_addOrder_159 : decode cX5_addOrder 159 = .ok (.iload 7, 2) := by decide +kernel
theorem dX5_addOrder_161 : decode cX5_addOrder 161 = .ok (.bipush 7, 2) := by decide +kernel
theorem dX5_addOrder_163 : decode cX5_addOrder 163 = .ok (.iconst 0, 1) := by decide +kernel
theorem dX5_addOrder_164 : decode cX5_addOrder 164 = .ok (.invokevirtual 101, 3) := by decide +kernel
theorem dX5_addOrder_167 : decode cX5_addOrder 167 = .ok (.aload_n 0, 1) := by decide +kernel
theorem dX5_addOrder_168 : decode cX5_addOrder 168 = .ok (.iload 7, 2) := by decide +kernel
theorem dX5_addOrder_170 : decode cX5_addOrder 170 = .ok (.bipush 8, 2) := by decide +kernel
theorem dX5_addOrder_172 : decode cX5_addOrder 172 = .ok (.iconst (-1), 1) := by decide +kernel
theorem dX5_addOrder_173 : decode cX5_addOrder 173 = .ok (.invokevirtual 101, 3) := by decide +kernel
theorem dX5_addOrder_176 : decode cX5_addOrder 176 = .ok (.aload_n 0, 1) := by decide +kernel
theorem dX5_addOrder_177 : decode cX5_addOrder 177 = .ok (.getfield 7, 3) := by decide +kernel
theorem dX5_addOrder_180 : decode cX5_addOrder 180 = .ok (.iconst 2, 1) := by decide +kernel
theorem dX5_addOrder_181 : decode cX5_addOrder 181 = .ok (.dup2, 1) := by decide +kernel
theorem dX5_addOrder_182 : decode cX5_addOrder 182 = .ok (.iaload, 1) := by decide +kernel
theorem dX5_addOrder_183 : decode cX5_addOrder 183 = .ok (.iconst 1, 1) := by decide +kernel
theorem dX5_addOrder_184 : decode cX5_addOrder 184 = .ok (.iadd, 1) := by decide +kernel
theorem dX5_addOrder_185 : decode cX5_addOrder 185 = .ok (.iastore, 1) := by decide +kernel
theorem dX5_addOrder_186 : decode cX5_addOrder 186 = .ok (.iload 7, 2) := by decide +kernel
theorem dX5_addOrder_188 : decode cX5_addOrder 188 = .ok (.ireturn, 1) := by decide +kernel
set_option maxRecDepth 20000 in
theorem ggX5_change_X5_isOrder : GoodIn wsX5_change wsX5_isOrder := goodIn_r _ [6, 7, 8, 9, 5, 10, 34, 35, 36, 37, 38, 39, 40, 41, 42, 43, 44, 45, 46] (by decide +kernel) (by decide +kernel)
set_option maxRecDepth 20000 in
theorem gX5_change_X5_isOrder : GoodIn wsX5_change (wsV RX5 86 RX5 yX5_isOrder wsX5_isOrder) := goodIn_app (goodIn_of _ (by decide +kernel)) ggX5_change_X5_isOrder
set_option maxRecDepth 20000 in
theorem ggX5_change_X5_isInRange : GoodIn wsX5_change wsX5_isInRange := goodIn_r _ [13, 14, 15, 5, 16, 8, 9, 10] (by decide +kernel) (by decide +kernel)
set_option maxRecDepth 20000 in
theorem gX5_change_X5_isInRange : GoodIn wsX5_change (va_wsS RX5 114 yX5_isInRange wsX5_isInRange) := goodIn_app (goodIn_of _ (by decide +kernel)) ggX5_change_X5_isInRange
set_option maxRecDepth 20000 in
theorem ggX5_change_X5_remember : GoodIn wsX5_change wsX5_remember := goodIn_r _ [20, 21, 22, 7, 23, 24, 5, 25, 34, 35, 36, 37, 38, 39, 40, 41, 42, 43, 44, 45, 46] (by decide +kernel) (by decide +kernel)
set_option maxRecDepth 20000 in
theorem gX5_change_X5_remember : GoodIn wsX5_change (wsV RX5 108 RX5 yX5_remember wsX5_remember) := goodIn_app (goodIn_of _ (by decide +kernel)) ggX5_change_X5_remember
set_option maxRecDepth 20000 in
theorem ggX5_change_X5_part : GoodIn wsX5_change wsX5_part := goodIn_r _ [29, 7, 34, 35, 36, 37, 38, 39, 40, 41, 42, 43, 44, 45, 46] (by decide +kernel) (by decide +kernel)
set_option maxRecDepth 20000 in
theorem gX5_change_X5_part : GoodIn wsX5_change (wsV RX5 76 RX5 yX5_part wsX5_part) := goodIn_app (goodIn_of _ (by decide +kernel)) ggX5_change_X5_part
set_option maxRecDepth 20000 in
theorem ggX5_change_X5_setPart : GoodIn wsX5_change wsX5_setPart := goodIn_r _ [33, 7, 34, 35, 36, 37, 38, 39, 40, 41, 42, 43, 44, 45, 46] (by decide +kernel) (by decide +kernel)
set_option maxRecDepth 20000 in
theorem gX5_change_X5_setPart : GoodIn wsX5_change (wsV RX5 101 RX5 yX5_setPart wsX5_setPart) := goodIn_app (goodIn_of _ (by decide +kernel)) ggX5_change_X5_setPart
theorem dX5_change_0 : decode cX5_change 0 = .ok (.aload_n 0, 1) := by decide +kernel
theorem dX5_change_1 : decode cX5_change 1 = .ok (.aload_n 0, 1) := by decide +kernel
theorem dX5_change_2 : decode cX5_change 2 = .ok (.iload_n 1, 1) := by decide +kernel
theorem dX5_change_3 : decode cX5_change 3 = .ok (.invokevirtual 86, 3) := by decide +kernel
theorem dX5_change_6 : decode cX5_change 6 = .ok (.ifCond .ne 7, 3) := by decide +kernel
theorem dX5_change_9 : decode cX5_change 9 = .ok (.iconst 1, 1) := by decide +kernel
theorem dX5_change_10 : decode cX5_change 10 = .ok (.goto 16, 3) := by decide +kernel
theorem dX5_change_13 : decode cX5_change 13 = .ok (.iload_n 2, 1) := by decide +kernel
theorem dX5_change_14 : decode cX5_change 14 = .ok (.iload_n 3, 1) := by decide +kernel
theorem dX5_change_15 : decode cX5_change 15 = .ok (.invokestatic 114, 3) := by decide +kernel
theorem dX5_change_18 : decode cX5_change 18 = .ok (.ifCond .eq 7, 3) := by decide +kernel
theorem dX5_change_21 : decode cX5_change 21 = .ok (.iconst 0, 1) := by decide +kernel
theorem dX5_change_22 : decode cX5_change 22 = .ok (.goto 4, 3) := by decide +kernel
theorem dX5_change_25 : decode cX5_change 25 = .ok (.iconst 2, 1) := by decide +kernel
theorem dX5_change_26 : decode cX5_change 26 = .ok (.putfield 37, 3) := by decide +kernel
theorem dX5_change_29 : decode cX5_change 29 = .ok (.aload_n 0, 1) := by decide +kernel
theorem dX5_change_30 : decode cX5_change 30 = .ok (.getfield 37, 3) := by decide +kernel
theorem dX5_change_33 : decode cX5_change 33 = .ok (.ifCond .le 5, 3) := by decide +kernel
theorem dX5_change_36 : decode cX5_change 36 = .ok (.iconst 0, 1) := by decide +kernel
theorem dX5_change_37 : decode cX5_change 37 = .ok (.ireturn, 1) := by decide +kernel
theorem dX5_change_38 : decode cX5_change 38 = .ok (.aload_n 0, 1) := by decide +kernel
theorem dX5_change_39 : decode cX5_change 39 = .ok (.invokevirtual 108, 3) := by decide +kernel
theorem dX5_change_42 : decode cX5_change 42 = .ok (.aload_n 0, 1) := by decide +kernel
theorem dX5_change_43 : decode cX5_change 43 = .ok (.iload_n 1, 1) := by decide +kernel
theorem dX5_change_44 : decode cX5_change 44 = .ok (.iload_n 2, 1) := by decide +kernel
theorem dX5_change_45 : decode cX5_change 45 = .ok (.invokevirtual 76, 3) := by decide +kernel
theorem dX5_change_48 : decode cX5_change 48 = .ok (.istore 4, 2) := by decide +kernel
theorem dX5_change_50 : decode cX5_change 50 = .ok (.aload_n 0, 1) := by decide +kernel
theorem dX5_change_51 : decode cX5_change 51 = .ok (.iload_n 1, 1) := by decide +kernel
theorem dX5_change_52 : decode cX5_change 52 = .ok (.iload_n 2, 1) := by decide +kernel
theorem dX5_change_53 : decode cX5_change 53 = .ok (.iload_n 3, 1) := by decide +kernel
theorem dX5_change_54 : decode cX5_change 54 = .ok (.invokevirtual 101, 3) := by decide +kernel
theorem dX5_change_57 : decode cX5_change 57 = .ok (.iload 4, 2) := by decide +kernel
theorem dX5_change_59 : decode cX5_change 59 = .ok (.ireturn, 1) := by decide +kernel
set_option maxRecDepth 20000 in
theorem ggX5_whyNotMoved_X5_isOrder : GoodIn wsX5_whyNotMoved wsX5_isOrder := goodIn_r _ [5, 6, 7, 8, 4, 9, 22, 23, 24, 25, 26, 27, 28, 29, 30, 31, 32, 33, 34] (by decide +kernel) (by decide +kernel)
set_option maxRecDepth 20000 in
theorem gX5_whyNotMoved_X5_isOrder : GoodIn wsX5_whyNotMoved (wsV RX5 86 RX5 yX5_isOrder wsX5_isOrder) := goodIn_app (goodIn_of _ (by decide +kernel)) ggX5_whyNotMoved_X5_isOrder
set_option maxRecDepth 20000 in
theorem ggX5_whyNotMoved_X5_isPlace : GoodIn wsX5_whyNotMoved wsX5_isPlace := goodIn_r _ [13, 6, 7, 8, 4, 9, 22, 23, 24, 25, 26, 27, 28, 29, 30, 31, 32, 33, 34] (by decide +kernel) (by decide +kernel)
set_option maxRecDepth 20000 in
theorem gX5_whyNotMoved_X5_isPlace : GoodIn wsX5_whyNotMoved (wsV RX5 92 RX5 yX5_isPlace wsX5_isPlace) := goodIn_app (goodIn_of _ (by decide +kernel)) ggX5_whyNotMoved_X5_isPlace
set_option maxRecDepth 20000 in
theorem ggX5_whyNotMoved_X5_standing : GoodIn wsX5_whyNotMoved wsX5_standing := goodIn_r _ [17, 6, 18, 19, 20, 4, 21, 22, 23, 24, 25, 26, 27, 28, 29, 30, 31, 32, 33, 34] (by decide +kernel) (by decide +kernel)
set_option maxRecDepth 20000 in
theorem gX5_whyNotMoved_X5_standing : GoodIn wsX5_whyNotMoved (wsV RX5 95 RX5 yX5_standing wsX5_standing) := goodIn_app (goodIn_of _ (by decide +kernel)) ggX5_whyNotMoved_X5_standing
theorem dX5_whyNotMoved_0 : decode cX5_whyNotMoved 0 = .ok (.aload_n 0, 1) := by decide +kernel
theorem dX5_whyNotMoved_1 : decode cX5_whyNotMoved 1 = .ok (.iload_n 1, 1) := by decide +kernel
theorem dX5_whyNotMoved_2 : decode cX5_whyNotMoved 2 = .ok (.invokevirtual 86, 3) := by decide +kernel
theorem dX5_whyNotMoved_5 : decode cX5_whyNotMoved 5 = .ok (.ifCond .eq 11, 3) := by decide +kernel
theorem dX5_whyNotMoved_8 : decode cX5_whyNotMoved 8 = .ok (.aload_n 0, 1) := by decide +kernel
theorem dX5_whyNotMoved_9 : decode cX5_whyNotMoved 9 = .ok (.iload_n 2, 1) := by decide +kernel
theorem dX5_whyNotMoved_10 : decode cX5_whyNotMoved 10 = .ok (.invokevirtual 92, 3) := by decide +kernel
theorem dX5_whyNotMoved_13 : decode cX5_whyNotMoved 13 = .ok (.ifCond .ne 5, 3) := by decide +kernel
theorem dX5_whyNotMoved_16 : decode cX5_whyNotMoved 16 = .ok (.iconst 1, 1) := by decide +kernel
theorem dX5_whyNotMoved_17 : decode cX5_whyNotMoved 17 = .ok (.ireturn, 1) := by decide +kernel
theorem dX5_whyNotMoved_18 : decode cX5_whyNotMoved 18 = .ok (.aload_n 0, 1) := by decide +kernel
theorem dX5_whyNotMoved_19 : decode cX5_whyNotMoved 19 = .ok (.iload_n 2, 1) := by decide +kernel
theorem dX5_whyNotMoved_20 : decode cX5_whyNotMoved 20 = .ok (.invokevirtual 95, 3) := by decide +kernel
theorem dX5_whyNotMoved_23 : decode cX5_whyNotMoved 23 = .ok (.istore_n 3, 1) := by decide +kernel
theorem dX5_whyNotMoved_24 : decode cX5_whyNotMoved 24 = .ok (.iload_n 3, 1) := by decide +kernel
theorem dX5_whyNotMoved_25 : decode cX5_whyNotMoved 25 = .ok (.iconst (-1), 1) := by decide +kernel
theorem dX5_whyNotMoved_26 : decode cX5_whyNotMoved 26 = .ok (.if_icmp .eq 12, 3) := by decide +kernel
theorem dX5_whyNotMoved_29 : decode cX5_whyNotMoved 29 = .ok (.iload_n 3, 1) := by decide +kernel
theorem dX5_whyNotMoved_30 : decode cX5_whyNotMoved 30 = .ok (.iload_n 1, 1) := by decide +kernel
theorem dX5_whyNotMoved_31 : decode cX5_whyNotMoved 31 = .ok (.if_icmp .eq 7, 3) := by decide +kernel
theorem dX5_whyNotMoved_34 : decode cX5_whyNotMoved 34 = .ok (.iconst 2, 1) := by decide +kernel
theorem dX5_whyNotMoved_35 : decode cX5_whyNotMoved 35 = .ok (.goto 4, 3) := by decide +kernel
theorem dX5_whyNotMoved_38 : decode cX5_whyNotMoved 38 = .ok (.iconst 0, 1) := by decide +kernel
theorem dX5_whyNotMoved_39 : decode cX5_whyNotMoved 39 = .ok (.ireturn, 1) := by decide +kernel
set_option maxRecDepth 20000 in
theorem ggX5_moved_X5_setPart : GoodIn wsX5_moved wsX5_setPart := goodIn_r _ [5, 6, 15, 16, 17, 18, 19, 20, 21, 22, 23, 24, 25, 26, 27] (by decide +kernel) (by decide +kernel)
set_option maxRecDepth 20000 in
theorem gX5_moved_X5_setPart : GoodIn wsX5_moved (wsV RX5 101 RX5 yX5_setPart wsX5_setPart) := goodIn_app (goodIn_of _ (by decide +kernel)) ggX5_moved_X5_setPart
set_option maxRecDepth 20000 in
theorem ggX5_moved_X5_refund : GoodIn wsX5_moved wsX5_refund := goodIn_r _ [10, 6, 11, 12, 13, 4, 14, 1, 2, 3, 5, 15, 16, 17, 18, 19, 20, 21, 22, 23, 24, 25, 26, 27] (by decide +kernel) (by decide +kernel)
set_option maxRecDepth 20000 in
theorem gX5_moved_X5_refund : GoodIn wsX5_moved (wsV RX5 105 RX5 yX5_refund wsX5_refund) := goodIn_app (goodIn_of _ (by decide +kernel)) ggX5_moved_X5_refund
theorem dX5_moved_0 : decode cX5_moved 0 = .ok (.aload_n 0, 1) := by decide +kernel
theorem dX5_moved_1 : decode cX5_moved 1 = .ok (.iload_n 1, 1) := by decide +kernel
theorem dX5_moved_2 : decode cX5_moved 2 = .ok (.iconst 5, 1) := by decide +kernel
theorem dX5_moved_3 : decode cX5_moved 3 = .ok (.iload_n 2, 1) := by decide +kernel
theorem dX5_moved_4 : decode cX5_moved 4 = .ok (.invokevirtual 101, 3) := by decide +kernel
theorem dX5_moved_7 : decode cX5_moved 7 = .ok (.aload_n 0, 1) := by decide +kernel
theorem dX5_moved_8 : decode cX5_moved 8 = .ok (.iload_n 1, 1) := by decide +kernel
theorem dX5_moved_9 : decode cX5_moved 9 = .ok (.bipush 6, 2) := by decide +kernel
theorem dX5_moved_11 : decode cX5_moved 11 = .ok (.iconst (-1), 1) := by decide +kernel
theorem dX5_moved_12 : decode cX5_moved 12 = .ok (.invokevirtual 101, 3) := by decide +kernel
theorem dX5_moved_15 : decode cX5_moved 15 = .ok (.aload_n 0, 1) := by decide +kernel
theorem dX5_moved_16 : decode cX5_moved 16 = .ok (.iload_n 1, 1) := by decide +kernel
theorem dX5_moved_17 : decode cX5_moved 17 = .ok (.invokevirtual 105, 3) := by decide +kernel
theorem dX5_moved_20 : decode cX5_moved 20 = .ok (.ireturn, 1) := by decide +kernel
set_option maxRecDepth 20000 in
theorem ggX5_move_X5_whyNotMoved : GoodIn wsX5_move wsX5_whyNotMoved := goodIn_r _ [6, 7, 8, 9, 5, 10, 11, 12, 13, 14, 15, 16, 17, 18, 19, 20, 21, 22, 23, 24, 25, 26, 48, 49, 50, 51, 52, 53, 54, 55, 56, 57, 58, 59, 60] (by decide +kernel) (by decide +kernel)
set_option maxRecDepth 20000 in
theorem gX5_move_X5_whyNotMoved : GoodIn wsX5_move (wsV RX5 118 RX5 yX5_whyNotMoved wsX5_whyNotMoved) := goodIn_app (goodIn_of _ (by decide +kernel)) ggX5_move_X5_whyNotMoved
set_option maxRecDepth 20000 in
theorem ggX5_move_X5_remember : GoodIn wsX5_move wsX5_remember := goodIn_r _ [30, 31, 32, 11, 33, 34, 5, 35, 48, 49, 50, 51, 52, 53, 54, 55, 56, 57, 58, 59, 60] (by decide +kernel) (by decide +kernel)
set_option maxRecDepth 20000 in
theorem gX5_move_X5_remember : GoodIn wsX5_move (wsV RX5 108 RX5 yX5_remember wsX5_remember) := goodIn_app (goodIn_of _ (by decide +kernel)) ggX5_move_X5_remember
set_option maxRecDepth 20000 in
theorem ggX5_move_X5_moved : GoodIn wsX5_move wsX5_moved := goodIn_r _ [39, 40, 41, 42, 5, 43, 11, 44, 45, 46, 47, 23, 24, 25, 26, 48, 49, 50, 51, 52, 53, 54, 55, 56, 57, 58, 59, 60] (by decide +kernel) (by decide +kernel)
set_option maxRecDepth 20000 in
theorem gX5_move_X5_moved : GoodIn wsX5_move (wsV RX5 121 RX5 yX5_moved wsX5_moved) := goodIn_app (goodIn_of _ (by decide +kernel)) ggX5_move_X5_moved
theorem dX5_move_0 : decode cX5_move 0 = .ok (.aload_n 0, 1) := by decide +kernel
theorem dX5_move_1 : decode cX5_move 1 = .ok (.aload_n 0, 1) := by decide +kernel
theorem dX5_move_2 : decode cX5_move 2 = .ok (.iload_n 1, 1) := by decide +kernel
theorem dX5_move_3 : decode cX5_move 3 = .ok (.iload_n 2, 1) := by decide +kernel
theorem dX5_move_4 : decode cX5_move 4 = .ok (.invokevirtual 118, 3) := by decide +kernel
theorem dX5_move_7 : decode cX5_move 7 = .ok (.putfield 37, 3) := by decide +kernel
theorem dX5_move_10 : decode cX5_move 10 = .ok (.aload_n 0, 1) := by decide +kernel
theorem dX5_move_11 : decode cX5_move 11 = .ok (.getfield 37, 3) := by decide +kernel
theorem dX5_move_14 : decode cX5_move 14 = .ok (.ifCond .le 5, 3) := by decide +kernel
theorem dX5_move_17 : decode cX5_move 17 = .ok (.iconst 0, 1) := by decide +kernel
theorem dX5_move_18 : decode cX5_move 18 = .ok (.ireturn, 1) := by decide +kernel
theorem dX5_move_19 : decode cX5_move 19 = .ok (.aload_n 0, 1) := by decide +kernel
theorem dX5_move_20 : decode cX5_move 20 = .ok (.invokevirtual 108, 3) := by decide +kernel
theorem dX5_move_23 : decode cX5_move 23 = .ok (.aload_n 0, 1) := by decide +kernel
theorem dX5_move_24 : decode cX5_move 24 = .ok (.iload_n 1, 1) := by decide +kernel
theorem dX5_move_25 : decode cX5_move 25 = .ok (.iload_n 2, 1) := by decide +kernel
theorem dX5_move_26 : decode cX5_move 26 = .ok (.invokevirtual 121, 3) := by decide +kernel
theorem dX5_move_29 : decode cX5_move 29 = .ok (.ireturn, 1) := by decide +kernel
set_option maxRecDepth 20000 in
theorem ggX5_wanted_X5_part : GoodIn wsX5_wanted wsX5_part := goodIn_r _ [6, 1, 14, 15, 16, 17, 18, 19, 20, 21, 22, 23, 24, 25, 26] (by decide +kernel) (by decide +kernel)
set_option maxRecDepth 20000 in
theorem gX5_wanted_X5_part : GoodIn wsX5_wanted (wsV RX5 76 RX5 yX5_part wsX5_part) := goodIn_app (goodIn_of _ (by decide +kernel)) ggX5_wanted_X5_part
set_option maxRecDepth 20000 in
theorem ggX5_wanted_X5_isOrder : GoodIn wsX5_wanted wsX5_isOrder := goodIn_r _ [10, 1, 11, 12, 5, 13, 14, 15, 16, 17, 18, 19, 20, 21, 22, 23, 24, 25, 26] (by decide +kernel) (by decide +kernel)
set_option maxRecDepth 20000 in
theorem gX5_wanted_X5_isOrder : GoodIn wsX5_wanted (wsV RX5 86 RX5 yX5_isOrder wsX5_isOrder) := goodIn_app (goodIn_of _ (by decide +kernel)) ggX5_wanted_X5_isOrder
theorem dX5_wanted_0 : decode cX5_wanted 0 = .ok (.iconst 0, 1) := by decide +kernel
theorem dX5_wanted_1 : decode cX5_wanted 1 = .ok (.istore_n 2, 1) := by decide +kernel
theorem dX5_wanted_2 : decode cX5_wanted 2 = .ok (.aload_n 0, 1) := by decide +kernel
theorem dX5_wanted_3 : decode cX5_wanted 3 = .ok (.iload_n 1, 1) := by decide +kernel
theorem dX5_wanted_4 : decode cX5_wanted 4 = .ok (.iconst 2, 1) := by decide +kernel
theorem dX5_wanted_5 : decode cX5_wanted 5 = .ok (.invokevirtual 76, 3) := by decide +kernel
theorem dX5_wanted_8 : decode cX5_wanted 8 = .ok (.istore_n 3, 1) := by decide +kernel
theorem dX5_wanted_9 : decode cX5_wanted 9 = .ok (.aload_n 0, 1) := by decide +kernel
theorem dX5_wanted_10 : decode cX5_wanted 10 = .ok (.iload_n 3, 1) := by decide +kernel
theorem dX5_wanted_11 : decode cX5_wanted 11 = .ok (.invokevirtual 86, 3) := by decide +kernel
theorem dX5_wanted_14 : decode cX5_wanted 14 = .ok (.ifCond .eq 29, 3) := by decide +kernel
theorem dX5_wanted_17 : decode cX5_wanted 17 = .ok (.aload_n 0, 1) := by decide +kernel
theorem dX5_wanted_18 : decode cX5_wanted 18 = .ok (.iload_n 3, 1) := by decide +kernel
theorem dX5_wanted_19 : decode cX5_wanted 19 = .ok (.iconst 5, 1) := by decide +kernel
theorem dX5_wanted_20 : decode cX5_wanted 20 = .ok (.invokevirtual 76, 3) := by decide +kernel
theorem dX5_wanted_23 : decode cX5_wanted 23 = .ok (.iconst (-1), 1) := by decide +kernel
theorem dX5_wanted_24 : decode cX5_wanted 24 = .ok (.if_icmp .eq 19, 3) := by decide +kernel
theorem dX5_wanted_27 : decode cX5_wanted 27 = .ok (.aload_n 0, 1) := by decide +kernel
theorem dX5_wanted_28 : decode cX5_wanted 28 = .ok (.iload_n 3, 1) := by decide +kernel
theorem dX5_wanted_29 : decode cX5_wanted 29 = .ok (.iconst 5, 1) := by decide +kernel
theorem dX5_wanted_30 : decode cX5_wanted 30 = .ok (.invokevirtual 76, 3) := by decide +kernel
theorem dX5_wanted_33 : decode cX5_wanted 33 = .ok (.iconst 1, 1) := by decide +kernel
theorem dX5_wanted_34 : decode cX5_wanted 34 = .ok (.isub, 1) := by decide +kernel
theorem dX5_wanted_35 : decode cX5_wanted 35 = .ok (.aload_n 0, 1) := by decide +kernel
theorem dX5_wanted_36 : decode cX5_wanted 36 = .ok (.iload_n 1, 1) := by decide +kernel
theorem dX5_wanted_37 : decode cX5_wanted 37 = .ok (.iconst 1, 1) := by decide +kernel
theorem dX5_wanted_38 : decode cX5_wanted 38 = .ok (.invokevirtual 76, 3) := by decide +kernel
theorem dX5_wanted_41 : decode cX5_wanted 41 = .ok (.isub, 1) := by decide +kernel
theorem dX5_wanted_42 : decode cX5_wanted 42 = .ok (.istore_n 2, 1) := by decide +kernel
theorem dX5_wanted_43 : decode cX5_wanted 43 = .ok (.aload_n 0, 1) := by decide +kernel
theorem dX5_wanted_44 : decode cX5_wanted 44 = .ok (.getfield 7, 3) := by decide +kernel
theorem dX5_wanted_47 : decode cX5_wanted 47 = .ok (.iconst 2, 1) := by decide +kernel
theorem dX5_wanted_48 : decode cX5_wanted 48 = .ok (.iaload, 1) := by decide +kernel
theorem dX5_wanted_49 : decode cX5_wanted 49 = .ok (.iconst 1, 1) := by decide +kernel
theorem dX5_wanted_50 : decode cX5_wanted 50 = .ok (.isub, 1) := by decide +kernel
theorem dX5_wanted_51 : decode cX5_wanted 51 = .ok (.istore 4, 2) := by decide +kernel
theorem dX5_wanted_53 : decode cX5_wanted 53 = .ok (.iload 4, 2) := by decide +kernel
theorem dX5_wanted_55 : decode cX5_wanted 55 = .ok (.ifCond .lt 49, 3) := by decide +kernel
theorem dX5_wanted_58 : decode cX5_wanted 58 = .ok (.aload_n 0, 1) := by decide +kernel
theorem dX5_wanted_59 : decode cX5_wanted 59 = .ok (.iload 4, 2) := by decide +kernel
theorem dX5_wanted_61 : decode cX5_wanted 61 = .ok (.iconst 5, 1) := by decide +kernel
theorem dX5_wanted_62 : decode cX5_wanted 62 = .ok (.invokevirtual 76, 3) := by decide +kernel
theorem dX5_wanted_65 : decode cX5_wanted 65 = .ok (.iconst (-1), 1) := by decide +kernel
theorem dX5_wanted_66 : decode cX5_wanted 66 = .ok (.if_icmp .eq 32, 3) := by decide +kernel
theorem dX5_wanted_69 : decode cX5_wanted 69 = .ok (.aload_n 0, 1) := by decide +kernel
theorem dX5_wanted_70 : decode cX5_wanted 70 = .ok (.iload 4, 2) := by decide +kernel
theorem dX5_wanted_72 : decode cX5_wanted 72 = .ok (.iconst 2, 1) := by decide +kernel
theorem dX5_wanted_73 : decode cX5_wanted 73 = .ok (.invokevirtual 76, 3) := by decide +kernel
theorem dX5_wanted_76 : decode cX5_wanted 76 = .ok (.iload_n 1, 1) := by decide +kernel
theorem dX5_wanted_77 : decode cX5_wanted 77 = .ok (.if_icmp .ne 21, 3) := by decide +kernel
theorem dX5_wanted_80 : decode cX5_wanted 80 = .ok (.aload_n 0, 1) := by decide +kernel
theorem dX5_wanted_81 : decode cX5_wanted 81 = .ok (.iload 4, 2) := by decide +kernel
theorem dX5_wanted_83 : decode cX5_wanted 83 = .ok (.iconst 5, 1) := by decide +kernel
theorem dX5_wanted_84 : decode cX5_wanted 84 = .ok (.invokevirtual 76, 3) := by decide +kernel
theorem dX5_wanted_87 : decode cX5_wanted 87 = .ok (.iconst 1, 1) := by decide +kernel
theorem dX5_wanted_88 : decode cX5_wanted 88 = .ok (.iadd, 1) := by decide +kernel
theorem dX5_wanted_89 : decode cX5_wanted 89 = .ok (.aload_n 0, 1) := by decide +kernel
theorem dX5_wanted_90 : decode cX5_wanted 90 = .ok (.iload 4, 2) := by decide +kernel
theorem dX5_wanted_92 : decode cX5_wanted 92 = .ok (.iconst 1, 1) := by decide +kernel
theorem dX5_wanted_93 : decode cX5_wanted 93 = .ok (.invokevirtual 76, 3) := by decide +kernel
theorem dX5_wanted_96 : decode cX5_wanted 96 = .ok (.iadd, 1) := by decide +kernel
theorem dX5_wanted_97 : decode cX5_wanted 97 = .ok (.istore_n 2, 1) := by decide +kernel
theorem dX5_wanted_98 : decode cX5_wanted 98 = .ok (.iinc 4 (-1), 3) := by decide +kernel
theorem dX5_wanted_101 : decode cX5_wanted 101 = .ok (.goto (-48), 3) := by decide +kernel
theorem dX5_wanted_104 : decode cX5_wanted 104 = .ok (.aload_n 0, 1) := by decide +kernel
theorem dX5_wanted_105 : decode cX5_wanted 105 = .ok (.getfield 7, 3) := by decide +kernel
theorem dX5_wanted_108 : decode cX5_wanted 108 = .ok (.iconst 0, 1) := by decide +kernel
theorem dX5_wanted_109 : decode cX5_wanted 109 = .ok (.iaload, 1) := by decide +kernel
theorem dX5_wanted_110 : decode cX5_wanted 110 = .ok (.istore 4, 2) := by decide +kernel
theorem dX5_wanted_112 : decode cX5_wanted 112 = .ok (.iload_n 2, 1) := by decide +kernel
theorem dX5_wanted_113 : decode cX5_wanted 113 = .ok (.iconst 2, 1) := by decide +kernel
theorem dX5_wanted_114 : decode cX5_wanted 114 = .ok (.iload 4, 2) := by decide +kernel
theorem dX5_wanted_116 : decode cX5_wanted 116 = .ok (.imul, 1) := by decide +kernel
theorem dX5_wanted_117 : decode cX5_wanted 117 = .ok (.iadd, 1) := by decide +kernel
theorem dX5_wanted_118 : decode cX5_wanted 118 = .ok (.iload 4, 2) := by decide +kernel
theorem dX5_wanted_120 : decode cX5_wanted 120 = .ok (.irem, 1) := by decide +kernel
theorem dX5_wanted_121 : decode cX5_wanted 121 = .ok (.ireturn, 1) := by decide +kernel
set_option maxRecDepth 20000 in
theorem ggX5_laid_X5_takeOff : GoodIn wsX5_laid wsX5_takeOff := goodIn_r _ [6, 1, 7, 8, 9, 5, 10, 11, 12, 13, 14, 15, 16, 17, 18, 34, 35, 36, 37, 38, 39, 40, 41, 42, 43, 44, 45, 46] (by decide +kernel) (by decide +kernel)
set_option maxRecDepth 20000 in
theorem gX5_laid_X5_takeOff : GoodIn wsX5_laid (wsV RX5 111 RX5 yX5_takeOff wsX5_takeOff) := goodIn_app (goodIn_of _ (by decide +kernel)) ggX5_laid_X5_takeOff
set_option maxRecDepth 20000 in
theorem ggX5_laid_X5_part : GoodIn wsX5_laid wsX5_part := goodIn_r _ [14, 1, 34, 35, 36, 37, 38, 39, 40, 41, 42, 43, 44, 45, 46] (by decide +kernel) (by decide +kernel)
set_option maxRecDepth 20000 in
theorem gX5_laid_X5_part : GoodIn wsX5_laid (wsV RX5 76 RX5 yX5_part wsX5_part) := goodIn_app (goodIn_of _ (by decide +kernel)) ggX5_laid_X5_part
set_option maxRecDepth 20000 in
theorem ggX5_laid_X5_wanted : GoodIn wsX5_laid wsX5_wanted := goodIn_r _ [22, 1, 11, 12, 13, 5, 14, 23, 24, 25, 26, 27, 28, 29, 34, 35, 36, 37, 38, 39, 40, 41, 42, 43, 44, 45, 46] (by decide +kernel) (by decide +kernel)
set_option maxRecDepth 20000 in
theorem gX5_laid_X5_wanted : GoodIn wsX5_laid (wsV RX5 124 RX5 yX5_wanted wsX5_wanted) := goodIn_app (goodIn_of _ (by decide +kernel)) ggX5_laid_X5_wanted
set_option maxRecDepth 20000 in
theorem ggX5_laid_X5_standing : GoodIn wsX5_laid wsX5_standing := goodIn_r _ [33, 1, 11, 12, 13, 5, 14, 34, 35, 36, 37, 38, 39, 40, 41, 42, 43, 44, 45, 46] (by decide +kernel) (by decide +kernel)
set_option maxRecDepth 20000 in
theorem gX5_laid_X5_standing : GoodIn wsX5_laid (wsV RX5 95 RX5 yX5_standing wsX5_standing) := goodIn_app (goodIn_of _ (by decide +kernel)) ggX5_laid_X5_standing
set_option maxRecDepth 20000 in
theorem ggX5_laid_X5_setPart : GoodIn wsX5_laid wsX5_setPart := goodIn_r _ [18, 1, 34, 35, 36, 37, 38, 39, 40, 41, 42, 43, 44, 45, 46] (by decide +kernel) (by decide +kernel)
set_option maxRecDepth 20000 in
theorem gX5_laid_X5_setPart : GoodIn wsX5_laid (wsV RX5 101 RX5 yX5_setPart wsX5_setPart) := goodIn_app (goodIn_of _ (by decide +kernel)) ggX5_laid_X5_setPart
theorem dX5_laid_0 : decode cX5_laid 0 = .ok (.aload_n 0, 1) := by decide +kernel
theorem dX5_laid_1 : decode cX5_laid 1 = .ok (.invokevirtual 111, 3) := by decide +kernel
theorem dX5_laid_4 : decode cX5_laid 4 = .ok (.iconst 0, 1) := by decide +kernel
theorem dX5_laid_5 : decode cX5_laid 5 = .ok (.istore_n 1, 1) := by decide +kernel
theorem dX5_laid_6 : decode cX5_laid 6 = .ok (.bipush 99, 2) := by decide +kernel
theorem dX5_laid_8 : decode cX5_laid 8 = .ok (.istore_n 2, 1) := by decide +kernel
theorem dX5_laid_9 : decode cX5_laid 9 = .ok (.iload_n 2, 1) := by decide +kernel
theorem dX5_laid_10 : decode cX5_laid 10 = .ok (.ifCond .lt 152, 3) := by decide +kernel
theorem dX5_laid_13 : decode cX5_laid 13 = .ok (.iconst 0, 1) := by decide +kernel
theorem dX5_laid_14 : decode cX5_laid 14 = .ok (.istore_n 3, 1) := by decide +kernel
theorem dX5_laid_15 : decode cX5_laid 15 = .ok (.iload_n 3, 1) := by decide +kernel
theorem dX5_laid_16 : decode cX5_laid 16 = .ok (.aload_n 0, 1) := by decide +kernel
theorem dX5_laid_17 : decode cX5_laid 17 = .ok (.getfield 7, 3) := by decide +kernel
theorem dX5_laid_20 : decode cX5_laid 20 = .ok (.iconst 2, 1) := by decide +kernel
theorem dX5_laid_21 : decode cX5_laid 21 = .ok (.iaload, 1) := by decide +kernel
theorem dX5_laid_22 : decode cX5_laid 22 = .ok (.if_icmp .ge 134, 3) := by decide +kernel
theorem dX5_laid_25 : decode cX5_laid 25 = .ok (.aload_n 0, 1) := by decide +kernel
theorem dX5_laid_26 : decode cX5_laid 26 = .ok (.iload_n 3, 1) := by decide +kernel
theorem dX5_laid_27 : decode cX5_laid 27 = .ok (.iconst 4, 1) := by decide +kernel
theorem dX5_laid_28 : decode cX5_laid 28 = .ok (.invokevirtual 76, 3) := by decide +kernel
theorem dX5_laid_31 : decode cX5_laid 31 = .ok (.iload_n 2, 1) := by decide +kernel
theorem dX5_laid_32 : decode cX5_laid 32 = .ok (.if_icmp .ne 118, 3) := by decide +kernel
theorem dX5_laid_35 : decode cX5_laid 35 = .ok (.aload_n 0, 1) := by decide +kernel
theorem dX5_laid_36 : decode cX5_laid 36 = .ok (.iload_n 3, 1) := by decide +kernel
theorem dX5_laid_37 : decode cX5_laid 37 = .ok (.invokevirtual 124, 3) := by decide +kernel
theorem dX5_laid_40 : decode cX5_laid 40 = .ok (.istore 4, 2) := by decide +kernel
theorem dX5_laid_42 : decode cX5_laid 42 = .ok (.iconst 0, 1) := by decide +kernel
theorem dX5_laid_43 : decode cX5_laid 43 = .ok (.istore 5, 2) := by decide +kernel
theorem dX5_laid_45 : decode cX5_laid 45 = .ok (.iload 5, 2) := by decide +kernel
theorem dX5_laid_47 : decode cX5_laid 47 = .ok (.aload_n 0, 1) := by decide +kernel
theorem dX5_laid_48 : decode cX5_laid 48 = .ok (.getfield 7, 3) := by decide +kernel
theorem dX5_laid_51 : decode cX5_laid 51 = .ok (.iconst 0, 1) := by decide +kernel
theorem dX5_laid_52 : decode cX5_laid 52 = .ok (.iaload, 1) := by decide +kernel
theorem dX5_laid_53 : decode cX5_laid 53 = .ok (.if_icmp .ge 29, 3) := by decide +kernel
theorem dX5_laid_56 : decode cX5_laid 56 = .ok (.aload_n 0, 1) := by decide +kernel
theorem dX5_laid_57 : decode cX5_laid 57 = .ok (.iload 4, 2) := by decide +kernel
theorem dX5_laid_59 : decode cX5_laid 59 = .ok (.iload 5, 2) := by decide +kernel
theorem dX5_laid_61 : decode cX5_laid 61 = .ok (.iadd, 1) := by decide +kernel
theorem dX5_laid_62 : decode cX5_laid 62 = .ok (.aload_n 0, 1) := by decide +kernel
theorem dX5_laid_63 : decode cX5_laid 63 = .ok (.getfield 7, 3) := by decide +kernel
theorem dX5_laid_66 : decode cX5_laid 66 = .ok (.iconst 0, 1) := by decide +kernel
theorem dX5_laid_67 : decode cX5_laid 67 = .ok (.iaload, 1) := by decide +kernel
theorem dX5_laid_68 : decode cX5_laid 68 = .ok (.irem, 1) := by decide +kernel
theorem dX5_laid_69 : decode cX5_laid 69 = .ok (.invokevirtual 95, 3) := by decide +kernel
theorem dX5_laid_72 : decode cX5_laid 72 = .ok (.iconst (-1), 1) := by decide +kernel
theorem dX5_laid_73 : decode cX5_laid 73 = .ok (.if_icmp .eq 9, 3) := by decide +kernel
theorem dX5_laid_76 : decode cX5_laid 76 = .ok (.iinc 5 1, 3) := by decide +kernel
theorem dX5_laid_79 : decode cX5_laid 79 = .ok (.goto (-34), 3) := by decide +kernel
theorem dX5_laid_82 : decode cX5_laid 82 = .ok (.iload 5, 2) := by decide +kernel
theorem dX5_laid_84 : decode cX5_laid 84 = .ok (.aload_n 0, 1) := by decide +kernel
theorem dX5_laid_85 : decode cX5_laid 85 = .ok (.getfield 7, 3) := by decide +kernel
theorem dX5_laid_88 : decode cX5_laid 88 = .ok (.iconst 0, 1) := by decide +kernel
theorem dX5_laid_89 : decode cX5_laid 89 = .ok (.iaload, 1) := by decide +kernel
theorem dX5_laid_90 : decode cX5_laid 90 = .ok (.if_icmp .ge 60, 3) := by decide +kernel
theorem dX5_laid_93 : decode cX5_laid 93 = .ok (.aload_n 0, 1) := by decide +kernel
theorem dX5_laid_94 : decode cX5_laid 94 = .ok (.iload_n 3, 1) := by decide +kernel
theorem dX5_laid_95 : decode cX5_laid 95 = .ok (.iconst 5, 1) := by decide +kernel
theorem dX5_laid_96 : decode cX5_laid 96 = .ok (.iload 4, 2) := by decide +kernel
theorem dX5_laid_98 : decode cX5_laid 98 = .ok (.iload 5, 2) := by decide +kernel
theorem dX5_laid_100 : decode cX5_laid 100 = .ok (.iadd, 1) := by decide +kernel
theorem dX5_laid_101 : decode cX5_laid 101 = .ok (.aload_n 0, 1) := by decide +kernel
theorem dX5_laid_102 : decode cX5_laid 102 = .ok (.getfield 7, 3) := by decide +kernel
theorem dX5_laid_105 : decode cX5_laid 105 = .ok (.iconst 0, 1) := by decide +kernel
theorem dX5_laid_106 : decode cX5_laid 106 = .ok (.iaload, 1) := by decide +kernel
theorem dX5_laid_107 : decode cX5_laid 107 = .ok (.irem, 1) := by decide +kernel
theorem dX5_laid_108 : decode cX5_laid 108 = .ok (.invokevirtual 101, 3) := by decide +kernel
theorem dX5_laid_111 : decode cX5_laid 111 = .ok (.aload_n 0, 1) := by decide +kernel
theorem dX5_laid_112 : decode cX5_laid 112 = .ok (.iload_n 3, 1) := by decide +kernel
theorem dX5_laid_113 : decode cX5_laid 113 = .ok (.bipush 6, 2) := by decide +kernel
theorem dX5_laid_115 : decode cX5_laid 115 = .ok (.iload 5, 2) := by decide +kernel
theorem dX5_laid_117 : decode cX5_laid 117 = .ok (.invokevirtual 101, 3) := by decide +kernel
theorem dX5_laid_120 : decode cX5_laid 120 = .ok (.aload_n 0, 1) := by decide +kernel
theorem dX5_laid_121 : decode cX5_laid 121 = .ok (.iload_n 3, 1) := by decide +kernel
theorem dX5_laid_122 : decode cX5_laid 122 = .ok (.bipush 7, 2) := by decide +kernel
theorem dX5_laid_124 : decode cX5_laid 124 = .ok (.iload_n 2, 1) := by decide +kernel
theorem dX5_laid_125 : decode cX5_laid 125 = .ok (.invokevirtual 101, 3) := by decide +kernel
theorem dX5_laid_128 : decode cX5_laid 128 = .ok (.aload_n 0, 1) := by decide +kernel
theorem dX5_laid_129 : decode cX5_laid 129 = .ok (.getfield 7, 3) := by decide +kernel
theorem dX5_laid_132 : decode cX5_laid 132 = .ok (.iconst 5, 1) := by decide +kernel
theorem dX5_laid_133 : decode cX5_laid 133 = .ok (.aload_n 0, 1) := by decide +kernel
theorem dX5_laid_134 : decode cX5_laid 134 = .ok (.iload_n 3, 1) := by decide +kernel
theorem dX5_laid_135 : decode cX5_laid 135 = .ok (.iconst 0, 1) := by decide +kernel
theorem dX5_laid_136 : decode cX5_laid 136 = .ok (.invokevirtual 76, 3) := by decide +kernel
theorem dX5_laid_139 : decode cX5_laid 139 = .ok (.iadd, 1) := by decide +kernel
theorem dX5_laid_140 : decode cX5_laid 140 = .ok (.dup2, 1) := by decide +kernel
theorem dX5_laid_141 : decode cX5_laid 141 = .ok (.iaload, 1) := by decide +kernel
theorem dX5_laid_142 : decode cX5_laid 142 = .ok (.iload_n 2, 1) := by decide +kernel
theorem dX5_laid_143 : decode cX5_laid 143 = .ok (.iadd, 1) := by decide +kernel
theorem dX5_laid_144 : decode cX5_laid 144 = .ok (.iastore, 1) := by decide +kernel
theorem dX5_laid_145 : decode cX5_laid 145 = .ok (.iload_n 1, 1) := by decide +kernel
theorem dX5_laid_146 : decode cX5_laid 146 = .ok (.iload 5, 2) := by decide +kernel
theorem dX5_laid_148 : decode cX5_laid 148 = .ok (.iadd, 1) := by decide +kernel
theorem dX5_laid_149 : decode cX5_laid 149 = .ok (.istore_n 1, 1) := by decide +kernel
theorem dX5_laid_150 : decode cX5_laid 150 = .ok (.iinc 3 1, 3) := by decide +kernel
theorem dX5_laid_153 : decode cX5_laid 153 = .ok (.goto (-138), 3) := by decide +kernel
theorem dX5_laid_156 : decode cX5_laid 156 = .ok (.iinc 2 (-1), 3) := by decide +kernel
theorem dX5_laid_159 : decode cX5_laid 159 = .ok (.goto (-150), 3) := by decide +kernel
theorem dX5_laid_162 : decode cX5_laid 162 = .ok (.iload_n 1, 1) := by decide +kernel
theorem dX5_laid_163 : decode cX5_laid 163 = .ok (.ireturn, 1) := by decide +kernel
set_option maxRecDepth 20000 in
theorem ggX5_lay_X5_remember : GoodIn wsX5_lay wsX5_remember := goodIn_r _ [6, 7, 8, 9, 10, 11, 5, 12, 48, 49, 50, 51, 52, 53, 54, 55, 56, 57, 58, 59, 60] (by decide +kernel) (by decide +kernel)
set_option maxRecDepth 20000 in
theorem gX5_lay_X5_remember : GoodIn wsX5_lay (wsV RX5 108 RX5 yX5_remember wsX5_remember) := goodIn_app (goodIn_of _ (by decide +kernel)) ggX5_lay_X5_remember
set_option maxRecDepth 20000 in
theorem ggX5_lay_X5_laid : GoodIn wsX5_lay wsX5_laid := goodIn_r _ [16, 9, 17, 18, 19, 5, 20, 21, 22, 23, 24, 25, 26, 27, 28, 29, 30, 31, 32, 33, 34, 35, 36, 37, 38, 39, 40, 41, 42, 43, 44, 45, 46, 47, 48, 49, 50, 51, 52, 53, 54, 55, 56, 57, 58, 59, 60] (by decide +kernel) (by decide +kernel)
set_option maxRecDepth 20000 in
theorem gX5_lay_X5_laid : GoodIn wsX5_lay (wsV RX5 127 RX5 yX5_laid wsX5_laid) := goodIn_app (goodIn_of _ (by decide +kernel)) ggX5_lay_X5_laid
theorem dX5_lay_0 : decode cX5_lay 0 = .ok (.aload_n 0, 1) := by decide +kernel
theorem dX5_lay_1 : decode cX5_lay 1 = .ok (.iconst 0, 1) := by decide +kernel
theorem dX5_lay_2 : decode cX5_lay 2 = .ok (.putfield 37, 3) := by decide +kernel
theorem dX5_lay_5 : decode cX5_lay 5 = .ok (.aload_n 0, 1) := by decide +kernel
theorem dX5_lay_6 : decode cX5_lay 6 = .ok (.invokevirtual 108, 3) := by decide +kernel
theorem dX5_lay_9 : decode cX5_lay 9 = .ok (.aload_n 0, 1) := by decide +kernel
theorem dX5_lay_10 : decode cX5_lay 10 = .ok (.invokevirtual 127, 3) := by decide +kernel
theorem dX5_lay_13 : decode cX5_lay 13 = .ok (.ireturn, 1) := by decide +kernel
theorem dX5_noteJump_0 : decode cX5_noteJump 0 = .ok (.iconst 0, 1) := by decide +kernel
theorem dX5_noteJump_1 : decode cX5_noteJump 1 = .ok (.istore_n 3, 1) := by decide +kernel
theorem dX5_noteJump_2 : decode cX5_noteJump 2 = .ok (.iload_n 3, 1) := by decide +kernel
theorem dX5_noteJump_3 : decode cX5_noteJump 3 = .ok (.aload_n 0, 1) := by decide +kernel
theorem dX5_noteJump_4 : decode cX5_noteJump 4 = .ok (.getfield 7, 3) := by decide +kernel
theorem dX5_noteJump_7 : decode cX5_noteJump 7 = .ok (.iconst 3, 1) := by decide +kernel
theorem dX5_noteJump_8 : decode cX5_noteJump 8 = .ok (.iaload, 1) := by decide +kernel
theorem dX5_noteJump_9 : decode cX5_noteJump 9 = .ok (.if_icmp .ge 43, 3) := by decide +kernel
theorem dX5_noteJump_12 : decode cX5_noteJump 12 = .ok (.aload_n 0, 1) := by decide +kernel
theorem dX5_noteJump_13 : decode cX5_noteJump 13 = .ok (.getfield 7, 3) := by decide +kernel
theorem dX5_noteJump_16 : decode cX5_noteJump 16 = .ok (.sipush 157, 3) := by decide +kernel
theorem dX5_noteJump_19 : decode cX5_noteJump 19 = .ok (.iconst 3, 1) := by decide +kernel
theorem dX5_noteJump_20 : decode cX5_noteJump 20 = .ok (.iload_n 3, 1) := by decide +kernel
theorem dX5_noteJump_21 : decode cX5_noteJump 21 = .ok (.imul, 1) := by decide +kernel
theorem dX5_noteJump_22 : decode cX5_noteJump 22 = .ok (.iadd, 1) := by decide +kernel
theorem dX5_noteJump_23 : decode cX5_noteJump 23 = .ok (.iaload, 1) := by decide +kernel
theorem dX5_noteJump_24 : decode cX5_noteJump 24 = .ok (.iload_n 1, 1) := by decide +kernel
theorem dX5_noteJump_25 : decode cX5_noteJump 25 = .ok (.if_icmp .ne 21, 3) := by decide +kernel
theorem dX5_noteJump_28 : decode cX5_noteJump 28 = .ok (.aload_n 0, 1) := by decide +kernel
theorem dX5_noteJump_29 : decode cX5_noteJump 29 = .ok (.getfield 7, 3) := by decide +kernel
theorem dX5_noteJump_32 : decode cX5_noteJump 32 = .ok (.sipush 157, 3) := by decide +kernel
theorem dX5_noteJump_35 : decode cX5_noteJump 35 = .ok (.iconst 3, 1) := by decide +kernel
theorem dX5_noteJump_36 : decode cX5_noteJump 36 = .ok (.iload_n 3, 1) := by decide +kernel
theorem dX5_noteJump_37 : decode cX5_noteJump 37 = .ok (.imul, 1) := by decide +kernel
theorem dX5_noteJump_38 : decode cX5_noteJump 38 = .ok (.iadd, 1) := by decide +kernel
theorem dX5_noteJump_39 : decode cX5_noteJump 39 = .ok (.iconst 1, 1) := by decide +kernel
theorem dX5_noteJump_40 : decode cX5_noteJump 40 = .ok (.iadd, 1) := by decide +kernel
theorem dX5_noteJump_41 : decode cX5_noteJump 41 = .ok (.iaload, 1) := by decide +kernel
theorem dX5_noteJump_42 : decode cX5_noteJump 42 = .ok (.iload_n 2, 1) := by decide +kernel
theorem dX5_noteJump_43 : decode cX5_noteJump 43 = .ok (.if_icmp .eq 9, 3) := by decide +kernel
theorem dX5_noteJump_46 : decode cX5_noteJump 46 = .ok (.iinc 3 1, 3) := by decide +kernel
theorem dX5_noteJump_49 : decode cX5_noteJump 49 = .ok (.goto (-47), 3) := by decide +kernel
theorem dX5_noteJump_52 : decode cX5_noteJump 52 = .ok (.iload_n 3, 1) := by decide +kernel
theorem dX5_noteJump_53 : decode cX5_noteJump 53 = .ok (.aload_n 0, 1) := by decide +kernel
theorem dX5_noteJump_54 : decode cX5_noteJump 54 = .ok (.getfield 7, 3) := by decide +kernel
theorem dX5_noteJump_57 : decode cX5_noteJump 57 = .ok (.iconst 3, 1) := by decide +kernel
theorem dX5_noteJump_58 : decode cX5_noteJump 58 = .ok (.iaload, 1) := by decide +kernel
theorem dX5_noteJump_59 : decode cX5_noteJump 59 = .ok (.if_icmp .ne 56, 3) := by decide +kernel
theorem dX5_noteJump_62 : decode cX5_noteJump 62 = .ok (.aload_n 0, 1) := by decide +kernel
theorem dX5_noteJump_63 : decode cX5_noteJump 63 = .ok (.getfield 7, 3) := by decide +kernel
theorem dX5_noteJump_66 : decode cX5_noteJump 66 = .ok (.sipush 157, 3) := by decide +kernel
theorem dX5_noteJump_69 : decode cX5_noteJump 69 = .ok (.iconst 3, 1) := by decide +kernel
theorem dX5_noteJump_70 : decode cX5_noteJump 70 = .ok (.iload_n 3, 1) := by decide +kernel
theorem dX5_noteJump_71 : decode cX5_noteJump 71 = .ok (.imul, 1) := by decide +kernel
theorem dX5_noteJump_72 : decode cX5_noteJump 72 = .ok (.iadd, 1) := by decide +kernel
theorem dX5_noteJump_73 : decode cX5_noteJump 73 = .ok (.iload_n 1, 1) := by decide +kernel
theorem dX5_noteJump_74 : decode cX5_noteJump 74 = .ok (.iastore, 1) := by decide +kernel
theorem dX5_noteJump_75 : decode cX5_noteJump 75 = .ok (.aload_n 0, 1) := by decide +kernel
theorem dX5_noteJump_76 : decode cX5_noteJump 76 = .ok (.getfield 7, 3) := by decide +kernel
theorem dX5_noteJump_79 : decode cX5_noteJump 79 = .ok (.sipush 157, 3) := by decide +kernel
theorem dX5_noteJump_82 : decode cX5_noteJump 82 = .ok (.iconst 3, 1) := by decide +kernel
theorem dX5_noteJump_83 : decode cX5_noteJump 83 = .ok (.iload_n 3, 1) := by decide +kernel
theorem dX5_noteJump_84 : decode cX5_noteJump 84 = .ok (.imul, 1) := by decide +kernel
theorem dX5_noteJump_85 : decode cX5_noteJump 85 = .ok (.iadd, 1) := by decide +kernel
theorem dX5_noteJump_86 : decode cX5_noteJump 86 = .ok (.iconst 1, 1) := by decide +kernel
theorem dX5_noteJump_87 : decode cX5_noteJump 87 = .ok (.iadd, 1) := by decide +kernel
theorem dX5_noteJump_88 : decode cX5_noteJump 88 = .ok (.iload_n 2, 1) := by decide +kernel
theorem dX5_noteJump_89 : decode cX5_noteJump 89 = .ok (.iastore, 1) := by decide +kernel
theorem dX5_noteJump_90 : decode cX5_noteJump 90 = .ok (.aload_n 0, 1) := by decide +kernel
theorem dX5_noteJump_91 : decode cX5_noteJump 91 = .ok (.getfield 7, 3) := by decide +kernel
theorem dX5_noteJump_94 : decode cX5_noteJump 94 = .ok (.sipush 157, 3) := by decide +kernel
theorem dX5_noteJump_97 : decode cX5_noteJump 97 = .ok (.iconst 3, 1) := by decide +kernel
theorem dX5_noteJump_98 : decode cX5_noteJump 98 = .ok (.iload_n 3, 1) := by decide +kernel
theorem dX5_noteJump_99 : decode cX5_noteJump 99 = .ok (.imul, 1) := by decide +kernel
theorem dX5_noteJump_100 : decode cX5_noteJump 100 = .ok (.iadd, 1) := by decide +kernel
theorem dX5_noteJump_101 : decode cX5_noteJump 101 = .ok (.iconst 2, 1) := by decide +kernel
theorem dX5_noteJump_102 : decode cX5_noteJump 102 = .ok (.iadd, 1) := by decide +kernel
theorem dX5_noteJump_103 : decode cX5_noteJump 103 = .ok (.iconst 0, 1) := by decide +kernel
theorem dX5_noteJump_104 : decode cX5_noteJump 104 = .ok (.iastore, 1) := by decide +kernel
theorem dX5_noteJump_105 : decode cX5_noteJump 105 = .ok (.aload_n 0, 1) := by decide +kernel
theorem dX5_noteJump_106 : decode cX5_noteJump 106 = .ok (.getfield 7, 3) := by decide +kernel
theorem dX5_noteJump_109 : decode cX5_noteJump 109 = .ok (.iconst 3, 1) := by decide +kernel
theorem dX5_noteJump_110 : decode cX5_noteJump 110 = .ok (.dup2, 1) := by decide +kernel
theorem dX5_noteJump_111 : decode cX5_noteJump 111 = .ok (.iaload, 1) := by decide +kernel
theorem dX5_noteJump_112 : decode cX5_noteJump 112 = .ok (.iconst 1, 1) := by decide +kernel
theorem dX5_noteJump_113 : decode cX5_noteJump 113 = .ok (.iadd, 1) := by decide +kernel
theorem dX5_noteJump_114 : decode cX5_noteJump 114 = .ok (.iastore, 1) := by decide +kernel
theorem dX5_noteJump_115 : decode cX5_noteJump 115 = .ok (.aload_n 0, 1) := by decide +kernel
theorem dX5_noteJump_116 : decode cX5_noteJump 116 = .ok (.getfield 7, 3) := by decide +kernel
theorem dX5_noteJump_119 : decode cX5_noteJump 119 = .ok (.sipush 157, 3) := by decide +kernel
theorem dX5_noteJump_122 : decode cX5_noteJump 122 = .ok (.iconst 3, 1) := by decide +kernel
theorem dX5_noteJump_123 : decode cX5_noteJump 123 = .ok (.iload_n 3, 1) := by decide +kernel
theorem dX5_noteJump_124 : decode cX5_noteJump 124 = .ok (.imul, 1) := by decide +kernel
theorem dX5_noteJump_125 : decode cX5_noteJump 125 = .ok (.iadd, 1) := by decide +kernel
theorem dX5_noteJump_126 : decode cX5_noteJump 126 = .ok (.iconst 2, 1) := by decide +kernel
theorem dX5_noteJump_127 : decode cX5_noteJump 127 = .ok (.iadd, 1) := by decide +kernel
theorem dX5_noteJump_128 : decode cX5_noteJump 128 = .ok (.dup2, 1) := by decide +kernel
theorem dX5_noteJump_129 : decode cX5_noteJump 129 = .ok (.iaload, 1) := by decide +kernel
theorem dX5_noteJump_130 : decode cX5_noteJump 130 = .ok (.iconst 1, 1) := by decide +kernel
theorem dX5_noteJump_131 : decode cX5_noteJump 131 = .ok (.iadd, 1) := by decide +kernel
theorem dX5_noteJump_132 : decode cX5_noteJump 132 = .ok (.iastore, 1) := by decide +kernel
theorem dX5_noteJump_133 : decode cX5_noteJump 133 = .ok (.return_, 1) := by decide +kernel
set_option maxRecDepth 20000 in
theorem ggX5_waitOf_X5_part : GoodIn wsX5_waitOf wsX5_part := goodIn_r _ [6, 1, 11, 12, 13, 14, 15, 16, 17, 18, 19, 20, 21, 22, 23] (by decide +kernel) (by decide +kernel)
set_option maxRecDepth 20000 in
theorem gX5_waitOf_X5_part : GoodIn wsX5_waitOf (wsV RX5 76 RX5 yX5_part wsX5_part) := goodIn_app (goodIn_of _ (by decide +kernel)) ggX5_waitOf_X5_part
set_option maxRecDepth 20000 in
theorem ggX5_waitOf_X5_comingBy : GoodIn wsX5_waitOf wsX5_comingBy := goodIn_r _ [10, 1, 11, 12, 13, 14, 15, 16, 17, 18, 19, 20, 21, 22, 23] (by decide +kernel) (by decide +kernel)
set_option maxRecDepth 20000 in
theorem gX5_waitOf_X5_comingBy : GoodIn wsX5_waitOf (wsV RX5 80 RX5 yX5_comingBy wsX5_comingBy) := goodIn_app (goodIn_of _ (by decide +kernel)) ggX5_waitOf_X5_comingBy
theorem dX5_waitOf_0 : decode cX5_waitOf 0 = .ok (.aload_n 0, 1) := by decide +kernel
theorem dX5_waitOf_1 : decode cX5_waitOf 1 = .ok (.getfield 7, 3) := by decide +kernel
theorem dX5_waitOf_4 : decode cX5_waitOf 4 = .ok (.iconst 0, 1) := by decide +kernel
theorem dX5_waitOf_5 : decode cX5_waitOf 5 = .ok (.iaload, 1) := by decide +kernel
theorem dX5_waitOf_6 : decode cX5_waitOf 6 = .ok (.istore_n 2, 1) := by decide +kernel
theorem dX5_waitOf_7 : decode cX5_waitOf 7 = .ok (.aload_n 0, 1) := by decide +kernel
theorem dX5_waitOf_8 : decode cX5_waitOf 8 = .ok (.iload_n 1, 1) := by decide +kernel
theorem dX5_waitOf_9 : decode cX5_waitOf 9 = .ok (.iconst 5, 1) := by decide +kernel
theorem dX5_waitOf_10 : decode cX5_waitOf 10 = .ok (.invokevirtual 76, 3) := by decide +kernel
theorem dX5_waitOf_13 : decode cX5_waitOf 13 = .ok (.iload_n 2, 1) := by decide +kernel
theorem dX5_waitOf_14 : decode cX5_waitOf 14 = .ok (.iadd, 1) := by decide +kernel
theorem dX5_waitOf_15 : decode cX5_waitOf 15 = .ok (.aload_n 0, 1) := by decide +kernel
theorem dX5_waitOf_16 : decode cX5_waitOf 16 = .ok (.invokevirtual 80, 3) := by decide +kernel
theorem dX5_waitOf_19 : decode cX5_waitOf 19 = .ok (.isub, 1) := by decide +kernel
theorem dX5_waitOf_20 : decode cX5_waitOf 20 = .ok (.iload_n 2, 1) := by decide +kernel
theorem dX5_waitOf_21 : decode cX5_waitOf 21 = .ok (.irem, 1) := by decide +kernel
theorem dX5_waitOf_22 : decode cX5_waitOf 22 = .ok (.ireturn, 1) := by decide +kernel
set_option maxRecDepth 20000 in
theorem ggX5_reads_X5_waitOf : GoodIn wsX5_reads wsX5_waitOf := goodIn_r _ [6, 1, 7, 8, 9, 5, 10, 11, 12, 13, 14, 23, 24, 25, 26, 27, 28, 29, 30, 31, 32, 33, 34, 35] (by decide +kernel) (by decide +kernel)
set_option maxRecDepth 20000 in
theorem gX5_reads_X5_waitOf : GoodIn wsX5_reads (wsV RX5 130 RX5 yX5_waitOf wsX5_waitOf) := goodIn_app (goodIn_of _ (by decide +kernel)) ggX5_reads_X5_waitOf
set_option maxRecDepth 20000 in
theorem ggX5_reads_X5_setPart : GoodIn wsX5_reads wsX5_setPart := goodIn_r _ [18, 1, 23, 24, 25, 26, 27, 28, 29, 30, 31, 32, 33, 34, 35] (by decide +kernel) (by decide +kernel)
set_option maxRecDepth 20000 in
theorem gX5_reads_X5_setPart : GoodIn wsX5_reads (wsV RX5 101 RX5 yX5_setPart wsX5_setPart) := goodIn_app (goodIn_of _ (by decide +kernel)) ggX5_reads_X5_setPart
set_option maxRecDepth 20000 in
theorem ggX5_reads_X5_refund : GoodIn wsX5_reads wsX5_refund := goodIn_r _ [22, 1, 7, 8, 9, 5, 10, 15, 16, 17, 18, 23, 24, 25, 26, 27, 28, 29, 30, 31, 32, 33, 34, 35] (by decide +kernel) (by decide +kernel)
set_option maxRecDepth 20000 in
theorem gX5_reads_X5_refund : GoodIn wsX5_reads (wsV RX5 105 RX5 yX5_refund wsX5_refund) := goodIn_app (goodIn_of _ (by decide +kernel)) ggX5_reads_X5_refund
set_option maxRecDepth 20000 in
theorem ggX5_reads_X5_part : GoodIn wsX5_reads wsX5_part := goodIn_r _ [10, 1, 23, 24, 25, 26, 27, 28, 29, 30, 31, 32, 33, 34, 35] (by decide +kernel) (by decide +kernel)
set_option maxRecDepth 20000 in
theorem gX5_reads_X5_part : GoodIn wsX5_reads (wsV RX5 76 RX5 yX5_part wsX5_part) := goodIn_app (goodIn_of _ (by decide +kernel)) ggX5_reads_X5_part
theorem dX5_reads_0 : decode cX5_reads 0 = .ok (.aload_n 0, 1) := by decide +kernel
theorem dX5_reads_1 : decode cX5_reads 1 = .ok (.iload_n 1, 1) := by decide +kernel
theorem dX5_reads_2 : decode cX5_reads 2 = .ok (.invokevirtual 130, 3) := by decide +kernel
theorem dX5_reads_5 : decode cX5_reads 5 = .ok (.istore_n 3, 1) := by decide +kernel
theorem dX5_reads_6 : decode cX5_reads 6 = .ok (.aload_n 0, 1) := by decide +kernel
theorem dX5_reads_7 : decode cX5_reads 7 = .ok (.getfield 7, 3) := by decide +kernel
theorem dX5_reads_10 : decode cX5_reads 10 = .ok (.iconst 1, 1) := by decide +kernel
theorem dX5_reads_11 : decode cX5_reads 11 = .ok (.dup2, 1) := by decide +kernel
theorem dX5_reads_12 : decode cX5_reads 12 = .ok (.iaload, 1) := by decide +kernel
theorem dX5_reads_13 : decode cX5_reads 13 = .ok (.iload_n 3, 1) := by decide +kernel
theorem dX5_reads_14 : decode cX5_reads 14 = .ok (.iadd, 1) := by decide +kernel
theorem dX5_reads_15 : decode cX5_reads 15 = .ok (.iastore, 1) := by decide +kernel
theorem dX5_reads_16 : decode cX5_reads 16 = .ok (.aload_n 0, 1) := by decide +kernel
theorem dX5_reads_17 : decode cX5_reads 17 = .ok (.iload_n 1, 1) := by decide +kernel
theorem dX5_reads_18 : decode cX5_reads 18 = .ok (.bipush 8, 2) := by decide +kernel
theorem dX5_reads_20 : decode cX5_reads 20 = .ok (.iload_n 3, 1) := by decide +kernel
theorem dX5_reads_21 : decode cX5_reads 21 = .ok (.invokevirtual 101, 3) := by decide +kernel
theorem dX5_reads_24 : decode cX5_reads 24 = .ok (.iload_n 2, 1) := by decide +kernel
theorem dX5_reads_25 : decode cX5_reads 25 = .ok (.ifCond .eq 13, 3) := by decide +kernel
theorem dX5_reads_28 : decode cX5_reads 28 = .ok (.iload_n 3, 1) := by decide +kernel
theorem dX5_reads_29 : decode cX5_reads 29 = .ok (.ifCond .le 9, 3) := by decide +kernel
theorem dX5_reads_32 : decode cX5_reads 32 = .ok (.aload_n 0, 1) := by decide +kernel
theorem dX5_reads_33 : decode cX5_reads 33 = .ok (.iload_n 1, 1) := by decide +kernel
theorem dX5_reads_34 : decode cX5_reads 34 = .ok (.invokevirtual 105, 3) := by decide +kernel
theorem dX5_reads_37 : decode cX5_reads 37 = .ok (.pop, 1) := by decide +kernel
theorem dX5_reads_38 : decode cX5_reads 38 = .ok (.iload_n 2, 1) := by decide +kernel
theorem dX5_reads_39 : decode cX5_reads 39 = .ok (.ifCond .eq 11, 3) := by decide +kernel
theorem dX5_reads_42 : decode cX5_reads 42 = .ok (.aload_n 0, 1) := by decide +kernel
theorem dX5_reads_43 : decode cX5_reads 43 = .ok (.iload_n 1, 1) := by decide +kernel
theorem dX5_reads_44 : decode cX5_reads 44 = .ok (.bipush 7, 2) := by decide +kernel
theorem dX5_reads_46 : decode cX5_reads 46 = .ok (.iconst 0, 1) := by decide +kernel
theorem dX5_reads_47 : decode cX5_reads 47 = .ok (.invokevirtual 101, 3) := by decide +kernel
theorem dX5_reads_50 : decode cX5_reads 50 = .ok (.aload_n 0, 1) := by decide +kernel
theorem dX5_reads_51 : decode cX5_reads 51 = .ok (.getfield 7, 3) := by decide +kernel
theorem dX5_reads_54 : decode cX5_reads 54 = .ok (.iconst 1, 1) := by decide +kernel
theorem dX5_reads_55 : decode cX5_reads 55 = .ok (.dup2, 1) := by decide +kernel
theorem dX5_reads_56 : decode cX5_reads 56 = .ok (.iaload, 1) := by decide +kernel
theorem dX5_reads_57 : decode cX5_reads 57 = .ok (.iconst 1, 1) := by decide +kernel
theorem dX5_reads_58 : decode cX5_reads 58 = .ok (.aload_n 0, 1) := by decide +kernel
theorem dX5_reads_59 : decode cX5_reads 59 = .ok (.iload_n 1, 1) := by decide +kernel
theorem dX5_reads_60 : decode cX5_reads 60 = .ok (.iconst 1, 1) := by decide +kernel
theorem dX5_reads_61 : decode cX5_reads 61 = .ok (.invokevirtual 76, 3) := by decide +kernel
theorem dX5_reads_64 : decode cX5_reads 64 = .ok (.iadd, 1) := by decide +kernel
theorem dX5_reads_65 : decode cX5_reads 65 = .ok (.iadd, 1) := by decide +kernel
theorem dX5_reads_66 : decode cX5_reads 66 = .ok (.iastore, 1) := by decide +kernel
theorem dX5_reads_67 : decode cX5_reads 67 = .ok (.return_, 1) := by decide +kernel
set_option maxRecDepth 20000 in
theorem ggX5_runs_X5_isOrder : GoodIn wsX5_runs wsX5_isOrder := goodIn_r _ [6, 1, 7, 8, 5, 9, 38, 39, 40, 41, 42, 43, 44, 45, 46, 47, 48, 49, 50] (by decide +kernel) (by decide +kernel)
set_option maxRecDepth 20000 in
theorem gX5_runs_X5_isOrder : GoodIn wsX5_runs (wsV RX5 86 RX5 yX5_isOrder wsX5_isOrder) := goodIn_app (goodIn_of _ (by decide +kernel)) ggX5_runs_X5_isOrder
set_option maxRecDepth 20000 in
theorem ggX5_runs_X5_part : GoodIn wsX5_runs wsX5_part := goodIn_r _ [13, 1, 38, 39, 40, 41, 42, 43, 44, 45, 46, 47, 48, 49, 50] (by decide +kernel) (by decide +kernel)
set_option maxRecDepth 20000 in
theorem gX5_runs_X5_part : GoodIn wsX5_runs (wsV RX5 76 RX5 yX5_part wsX5_part) := goodIn_app (goodIn_of _ (by decide +kernel)) ggX5_runs_X5_part
set_option maxRecDepth 20000 in
theorem ggX5_runs_X5_reads : GoodIn wsX5_runs wsX5_reads := goodIn_r _ [17, 1, 18, 19, 20, 5, 21, 10, 11, 12, 13, 22, 23, 24, 25, 26, 27, 28, 29, 30, 31, 32, 33, 38, 39, 40, 41, 42, 43, 44, 45, 46, 47, 48, 49, 50] (by decide +kernel) (by decide +kernel)
set_option maxRecDepth 20000 in
theorem gX5_runs_X5_reads : GoodIn wsX5_runs (wsV RX5 133 RX5 yX5_reads wsX5_reads) := goodIn_app (goodIn_of _ (by decide +kernel)) ggX5_runs_X5_reads
set_option maxRecDepth 20000 in
theorem ggX5_runs_X5_noteJump : GoodIn wsX5_runs wsX5_noteJump := goodIn_r _ [37, 1, 38, 39, 40, 41, 42, 43, 44, 45, 46, 47, 48, 49, 50] (by decide +kernel) (by decide +kernel)
set_option maxRecDepth 20000 in
theorem gX5_runs_X5_noteJump : GoodIn wsX5_runs (wsV RX5 137 RX5 yX5_noteJump wsX5_noteJump) := goodIn_app (goodIn_of _ (by decide +kernel)) ggX5_runs_X5_noteJump
theorem dX5_runs_0 : decode cX5_runs 0 = .ok (.iload_n 1, 1) := by decide +kernel
theorem dX5_runs_1 : decode cX5_runs 1 = .ok (.istore_n 2, 1) := by decide +kernel
theorem dX5_runs_2 : decode cX5_runs 2 = .ok (.iconst (-1), 1) := by decide +kernel
theorem dX5_runs_3 : decode cX5_runs 3 = .ok (.istore_n 3, 1) := by decide +kernel
theorem dX5_runs_4 : decode cX5_runs 4 = .ok (.iconst (-1), 1) := by decide +kernel
theorem dX5_runs_5 : decode cX5_runs 5 = .ok (.istore 4, 2) := by decide +kernel
theorem dX5_runs_7 : decode cX5_runs 7 = .ok (.iconst 0, 1) := by decide +kernel
theorem dX5_runs_8 : decode cX5_runs 8 = .ok (.istore 5, 2) := by decide +kernel
theorem dX5_runs_10 : decode cX5_runs 10 = .ok (.iload 4, 2) := by decide +kernel
theorem dX5_runs_12 : decode cX5_runs 12 = .ok (.iconst (-1), 1) := by decide +kernel
theorem dX5_runs_13 : decode cX5_runs 13 = .ok (.if_icmp .ne 118, 3) := by decide +kernel
theorem dX5_runs_16 : decode cX5_runs 16 = .ok (.aload_n 0, 1) := by decide +kernel
theorem dX5_runs_17 : decode cX5_runs 17 = .ok (.iload_n 2, 1) := by decide +kernel
theorem dX5_runs_18 : decode cX5_runs 18 = .ok (.invokevirtual 86, 3) := by decide +kernel
theorem dX5_runs_21 : decode cX5_runs 21 = .ok (.ifCond .eq 13, 3) := by decide +kernel
theorem dX5_runs_24 : decode cX5_runs 24 = .ok (.aload_n 0, 1) := by decide +kernel
theorem dX5_runs_25 : decode cX5_runs 25 = .ok (.iload_n 2, 1) := by decide +kernel
theorem dX5_runs_26 : decode cX5_runs 26 = .ok (.iconst 5, 1) := by decide +kernel
theorem dX5_runs_27 : decode cX5_runs 27 = .ok (.invokevirtual 76, 3) := by decide +kernel
theorem dX5_runs_30 : decode cX5_runs 30 = .ok (.iconst (-1), 1) := by decide +kernel
theorem dX5_runs_31 : decode cX5_runs 31 = .ok (.if_icmp .ne 9, 3) := by decide +kernel
theorem dX5_runs_34 : decode cX5_runs 34 = .ok (.iconst 3, 1) := by decide +kernel
theorem dX5_runs_35 : decode cX5_runs 35 = .ok (.istore 4, 2) := by decide +kernel
theorem dX5_runs_37 : decode cX5_runs 37 = .ok (.goto (-27), 3) := by decide +kernel
theorem dX5_runs_40 : decode cX5_runs 40 = .ok (.iload_n 3, 1) := by decide +kernel
theorem dX5_runs_41 : decode cX5_runs 41 = .ok (.iconst (-1), 1) := by decide +kernel
theorem dX5_runs_42 : decode cX5_runs 42 = .ok (.if_icmp .eq 29, 3) := by decide +kernel
theorem dX5_runs_45 : decode cX5_runs 45 = .ok (.aload_n 0, 1) := by decide +kernel
theorem dX5_runs_46 : decode cX5_runs 46 = .ok (.iload_n 2, 1) := by decide +kernel
theorem dX5_runs_47 : decode cX5_runs 47 = .ok (.iconst 3, 1) := by decide +kernel
theorem dX5_runs_48 : decode cX5_runs 48 = .ok (.invokevirtual 76, 3) := by decide +kernel
theorem dX5_runs_51 : decode cX5_runs 51 = .ok (.iconst (-1), 1) := by decide +kernel
theorem dX5_runs_52 : decode cX5_runs 52 = .ok (.if_icmp .eq 19, 3) := by decide +kernel
theorem dX5_runs_55 : decode cX5_runs 55 = .ok (.aload_n 0, 1) := by decide +kernel
theorem dX5_runs_56 : decode cX5_runs 56 = .ok (.iload_n 2, 1) := by decide +kernel
theorem dX5_runs_57 : decode cX5_runs 57 = .ok (.iconst 3, 1) := by decide +kernel
theorem dX5_runs_58 : decode cX5_runs 58 = .ok (.invokevirtual 76, 3) := by decide +kernel
theorem dX5_runs_61 : decode cX5_runs 61 = .ok (.iload_n 3, 1) := by decide +kernel
theorem dX5_runs_62 : decode cX5_runs 62 = .ok (.if_icmp .eq 9, 3) := by decide +kernel
theorem dX5_runs_65 : decode cX5_runs 65 = .ok (.iconst 1, 1) := by decide +kernel
theorem dX5_runs_66 : decode cX5_runs 66 = .ok (.istore 4, 2) := by decide +kernel
theorem dX5_runs_68 : decode cX5_runs 68 = .ok (.goto (-58), 3) := by decide +kernel
theorem dX5_runs_71 : decode cX5_runs 71 = .ok (.iload 5, 2) := by decide +kernel
theorem dX5_runs_73 : decode cX5_runs 73 = .ok (.bipush 99, 2) := by decide +kernel
theorem dX5_runs_75 : decode cX5_runs 75 = .ok (.if_icmp .ne 9, 3) := by decide +kernel
theorem dX5_runs_78 : decode cX5_runs 78 = .ok (.iconst 2, 1) := by decide +kernel
theorem dX5_runs_79 : decode cX5_runs 79 = .ok (.istore 4, 2) := by decide +kernel
theorem dX5_runs_81 : decode cX5_runs 81 = .ok (.goto (-71), 3) := by decide +kernel
theorem dX5_runs_84 : decode cX5_runs 84 = .ok (.aload_n 0, 1) := by decide +kernel
theorem dX5_runs_85 : decode cX5_runs 85 = .ok (.iload_n 2, 1) := by decide +kernel
theorem dX5_runs_86 : decode cX5_runs 86 = .ok (.iload_n 3, 1) := by decide +kernel
theorem dX5_runs_87 : decode cX5_runs 87 = .ok (.iconst (-1), 1) := by decide +kernel
theorem dX5_runs_88 : decode cX5_runs 88 = .ok (.if_icmp .eq 7, 3) := by decide +kernel
theorem dX5_runs_91 : decode cX5_runs 91 = .ok (.iconst 1, 1) := by decide +kernel
theorem dX5_runs_92 : decode cX5_runs 92 = .ok (.goto 4, 3) := by decide +kernel
theorem dX5_runs_95 : decode cX5_runs 95 = .ok (.iconst 0, 1) := by decide +kernel
theorem dX5_runs_96 : decode cX5_runs 96 = .ok (.invokevirtual 133, 3) := by decide +kernel
theorem dX5_runs_99 : decode cX5_runs 99 = .ok (.iinc 5 1, 3) := by decide +kernel
theorem dX5_runs_102 : decode cX5_runs 102 = .ok (.iload_n 2, 1) := by decide +kernel
theorem dX5_runs_103 : decode cX5_runs 103 = .ok (.istore_n 3, 1) := by decide +kernel
theorem dX5_runs_104 : decode cX5_runs 104 = .ok (.aload_n 0, 1) := by decide +kernel
theorem dX5_runs_105 : decode cX5_runs 105 = .ok (.iload_n 3, 1) := by decide +kernel
theorem dX5_runs_106 : decode cX5_runs 106 = .ok (.iconst 2, 1) := by decide +kernel
theorem dX5_runs_107 : decode cX5_runs 107 = .ok (.invokevirtual 76, 3) := by decide +kernel
theorem dX5_runs_110 : decode cX5_runs 110 = .ok (.istore_n 2, 1) := by decide +kernel
theorem dX5_runs_111 : decode cX5_runs 111 = .ok (.iload_n 2, 1) := by decide +kernel
theorem dX5_runs_112 : decode cX5_runs 112 = .ok (.iconst (-1), 1) := by decide +kernel
theorem dX5_runs_113 : decode cX5_runs 113 = .ok (.if_icmp .ne 9, 3) := by decide +kernel
theorem dX5_runs_116 : decode cX5_runs 116 = .ok (.iconst 0, 1) := by decide +kernel
theorem dX5_runs_117 : decode cX5_runs 117 = .ok (.istore 4, 2) := by decide +kernel
theorem dX5_runs_119 : decode cX5_runs 119 = .ok (.goto (-109), 3) := by decide +kernel
theorem dX5_runs_122 : decode cX5_runs 122 = .ok (.aload_n 0, 1) := by decide +kernel
theorem dX5_runs_123 : decode cX5_runs 123 = .ok (.iload_n 3, 1) := by decide +kernel
theorem dX5_runs_124 : decode cX5_runs 124 = .ok (.iload_n 2, 1) := by decide +kernel
theorem dX5_runs_125 : decode cX5_runs 125 = .ok (.invokevirtual 137, 3) := by decide +kernel
theorem dX5_runs_128 : decode cX5_runs 128 = .ok (.goto (-118), 3) := by decide +kernel
theorem dX5_runs_131 : decode cX5_runs 131 = .ok (.aload_n 0, 1) := by decide +kernel
theorem dX5_runs_132 : decode cX5_runs 132 = .ok (.getfield 7, 3) := by decide +kernel
theorem dX5_runs_135 : decode cX5_runs 135 = .ok (.iconst 4, 1) := by decide +kernel
theorem dX5_runs_136 : decode cX5_runs 136 = .ok (.iload 4, 2) := by decide +kernel
theorem dX5_runs_138 : decode cX5_runs 138 = .ok (.iastore, 1) := by decide +kernel
theorem dX5_runs_139 : decode cX5_runs 139 = .ok (.iload 4, 2) := by decide +kernel
theorem dX5_runs_141 : decode cX5_runs 141 = .ok (.ireturn, 1) := by decide +kernel
set_option maxRecDepth 20000 in
theorem ggX5_run_X5_isOrder : GoodIn wsX5_run wsX5_isOrder := goodIn_r _ [6, 7, 8, 9, 5, 10, 52, 53, 54, 55, 56, 57, 58, 59, 60, 61, 62, 63, 64] (by decide +kernel) (by decide +kernel)
set_option maxRecDepth 20000 in
theorem gX5_run_X5_isOrder : GoodIn wsX5_run (wsV RX5 86 RX5 yX5_isOrder wsX5_isOrder) := goodIn_app (goodIn_of _ (by decide +kernel)) ggX5_run_X5_isOrder
set_option maxRecDepth 20000 in
theorem ggX5_run_X5_remember : GoodIn wsX5_run wsX5_remember := goodIn_r _ [14, 15, 16, 7, 17, 18, 5, 19, 52, 53, 54, 55, 56, 57, 58, 59, 60, 61, 62, 63, 64] (by decide +kernel) (by decide +kernel)
set_option maxRecDepth 20000 in
theorem gX5_run_X5_remember : GoodIn wsX5_run (wsV RX5 108 RX5 yX5_remember wsX5_remember) := goodIn_app (goodIn_of _ (by decide +kernel)) ggX5_run_X5_remember
set_option maxRecDepth 20000 in
theorem ggX5_run_X5_runs : GoodIn wsX5_run wsX5_runs := goodIn_r _ [23, 7, 2, 3, 4, 5, 6, 8, 9, 10, 24, 25, 26, 27, 28, 29, 30, 31, 32, 33, 34, 35, 36, 37, 38, 39, 40, 41, 42, 43, 44, 45, 46, 47, 48, 49, 50, 51, 52, 53, 54, 55, 56, 57, 58, 59, 60, 61, 62, 63, 64] (by decide +kernel) (by decide +kernel)
set_option maxRecDepth 20000 in
theorem gX5_run_X5_runs : GoodIn wsX5_run (wsV RX5 141 RX5 yX5_runs wsX5_runs) := goodIn_app (goodIn_of _ (by decide +kernel)) ggX5_run_X5_runs
theorem dX5_run_0 : decode cX5_run 0 = .ok (.aload_n 0, 1) := by decide +kernel
theorem dX5_run_1 : decode cX5_run 1 = .ok (.aload_n 0, 1) := by decide +kernel
theorem dX5_run_2 : decode cX5_run 2 = .ok (.iload_n 1, 1) := by decide +kernel
theorem dX5_run_3 : decode cX5_run 3 = .ok (.invokevirtual 86, 3) := by decide +kernel
theorem dX5_run_6 : decode cX5_run 6 = .ok (.ifCond .eq 7, 3) := by decide +kernel
theorem dX5_run_9 : decode cX5_run 9 = .ok (.iconst 0, 1) := by decide +kernel
theorem dX5_run_10 : decode cX5_run 10 = .ok (.goto 4, 3) := by decide +kernel
theorem dX5_run_13 : decode cX5_run 13 = .ok (.iconst 1, 1) := by decide +kernel
theorem dX5_run_14 : decode cX5_run 14 = .ok (.putfield 37, 3) := by decide +kernel
theorem dX5_run_17 : decode cX5_run 17 = .ok (.aload_n 0, 1) := by decide +kernel
theorem dX5_run_18 : decode cX5_run 18 = .ok (.getfield 37, 3) := by decide +kernel
theorem dX5_run_21 : decode cX5_run 21 = .ok (.ifCond .le 5, 3) := by decide +kernel
theorem dX5_run_24 : decode cX5_run 24 = .ok (.iconst 0, 1) := by decide +kernel
theorem dX5_run_25 : decode cX5_run 25 = .ok (.ireturn, 1) := by decide +kernel
theorem dX5_run_26 : decode cX5_run 26 = .ok (.aload_n 0, 1) := by decide +kernel
theorem dX5_run_27 : decode cX5_run 27 = .ok (.invokevirtual 108, 3) := by decide +kernel
theorem dX5_run_30 : decode cX5_run 30 = .ok (.aload_n 0, 1) := by decide +kernel
theorem dX5_run_31 : decode cX5_run 31 = .ok (.iload_n 1, 1) := by decide +kernel
theorem dX5_run_32 : decode cX5_run 32 = .ok (.invokevirtual 141, 3) := by decide +kernel
theorem dX5_run_35 : decode cX5_run 35 = .ok (.ireturn, 1) := by decide +kernel
set_option maxRecDepth 20000 in
theorem ggX5_turn_X5_within : GoodIn wsX5_turn wsX5_within := goodIn_r _ [6] (by decide +kernel) (by decide +kernel)
set_option maxRecDepth 20000 in
theorem gX5_turn_X5_within : GoodIn wsX5_turn (va_wsS RX5 41 yX5_within wsX5_within) := goodIn_app (goodIn_of _ (by decide +kernel)) ggX5_turn_X5_within
set_option maxRecDepth 20000 in
theorem ggX5_turn_X5_remember : GoodIn wsX5_turn wsX5_remember := goodIn_r _ [10, 11, 12, 2, 13, 14, 5, 15, 20, 21, 22, 23, 24, 25, 26, 27, 28, 29, 30, 31, 32] (by decide +kernel) (by decide +kernel)
set_option maxRecDepth 20000 in
theorem gX5_turn_X5_remember : GoodIn wsX5_turn (wsV RX5 108 RX5 yX5_remember wsX5_remember) := goodIn_app (goodIn_of _ (by decide +kernel)) ggX5_turn_X5_remember
set_option maxRecDepth 20000 in
theorem ggX5_turn_X5_comingBy : GoodIn wsX5_turn wsX5_comingBy := goodIn_r _ [19, 2, 20, 21, 22, 23, 24, 25, 26, 27, 28, 29, 30, 31, 32] (by decide +kernel) (by decide +kernel)
set_option maxRecDepth 20000 in
theorem gX5_turn_X5_comingBy : GoodIn wsX5_turn (wsV RX5 80 RX5 yX5_comingBy wsX5_comingBy) := goodIn_app (goodIn_of _ (by decide +kernel)) ggX5_turn_X5_comingBy
theorem dX5_turn_0 : decode cX5_turn 0 = .ok (.aload_n 0, 1) := by decide +kernel
theorem dX5_turn_1 : decode cX5_turn 1 = .ok (.iload_n 1, 1) := by decide +kernel
theorem dX5_turn_2 : decode cX5_turn 2 = .ok (.iconst 1, 1) := by decide +kernel
theorem dX5_turn_3 : decode cX5_turn 3 = .ok (.bipush 99, 2) := by decide +kernel
theorem dX5_turn_5 : decode cX5_turn 5 = .ok (.invokestatic 41, 3) := by decide +kernel
theorem dX5_turn_8 : decode cX5_turn 8 = .ok (.ifCond .eq 7, 3) := by decide +kernel
theorem dX5_turn_11 : decode cX5_turn 11 = .ok (.iconst 0, 1) := by decide +kernel
theorem dX5_turn_12 : decode cX5_turn 12 = .ok (.goto 4, 3) := by decide +kernel
theorem dX5_turn_15 : decode cX5_turn 15 = .ok (.iconst 1, 1) := by decide +kernel
theorem dX5_turn_16 : decode cX5_turn 16 = .ok (.putfield 37, 3) := by decide +kernel
theorem dX5_turn_19 : decode cX5_turn 19 = .ok (.aload_n 0, 1) := by decide +kernel
theorem dX5_turn_20 : decode cX5_turn 20 = .ok (.getfield 37, 3) := by decide +kernel
theorem dX5_turn_23 : decode cX5_turn 23 = .ok (.ifCond .le 5, 3) := by decide +kernel
theorem dX5_turn_26 : decode cX5_turn 26 = .ok (.iconst 0, 1) := by decide +kernel
theorem dX5_turn_27 : decode cX5_turn 27 = .ok (.ireturn, 1) := by decide +kernel
theorem dX5_turn_28 : decode cX5_turn 28 = .ok (.aload_n 0, 1) := by decide +kernel
theorem dX5_turn_29 : decode cX5_turn 29 = .ok (.invokevirtual 108, 3) := by decide +kernel
theorem dX5_turn_32 : decode cX5_turn 32 = .ok (.aload_n 0, 1) := by decide +kernel
theorem dX5_turn_33 : decode cX5_turn 33 = .ok (.getfield 7, 3) := by decide +kernel
theorem dX5_turn_36 : decode cX5_turn 36 = .ok (.iconst 1, 1) := by decide +kernel
theorem dX5_turn_37 : decode cX5_turn 37 = .ok (.dup2, 1) := by decide +kernel
theorem dX5_turn_38 : decode cX5_turn 38 = .ok (.iaload, 1) := by decide +kernel
theorem dX5_turn_39 : decode cX5_turn 39 = .ok (.iload_n 1, 1) := by decide +kernel
theorem dX5_turn_40 : decode cX5_turn 40 = .ok (.iadd, 1) := by decide +kernel
theorem dX5_turn_41 : decode cX5_turn 41 = .ok (.iastore, 1) := by decide +kernel
theorem dX5_turn_42 : decode cX5_turn 42 = .ok (.aload_n 0, 1) := by decide +kernel
theorem dX5_turn_43 : decode cX5_turn 43 = .ok (.invokevirtual 80, 3) := by decide +kernel
theorem dX5_turn_46 : decode cX5_turn 46 = .ok (.ireturn, 1) := by decide +kernel
set_option maxRecDepth 20000 in
theorem ggX5_undo_X5_copy : GoodIn wsX5_undo wsX5_copy := goodIn_r _ [8] (by decide +kernel) (by decide +kernel)
set_option maxRecDepth 20000 in
theorem gX5_undo_X5_copy : GoodIn wsX5_undo (va_wsS RX5 69 yX5_copy wsX5_copy) := goodIn_app (goodIn_of _ (by decide +kernel)) ggX5_undo_X5_copy
theorem dX5_undo_0 : decode cX5_undo 0 = .ok (.aload_n 0, 1) := by decide +kernel
theorem dX5_undo_1 : decode cX5_undo 1 = .ok (.aload_n 0, 1) := by decide +kernel
theorem dX5_undo_2 : decode cX5_undo 2 = .ok (.getfield 73, 3) := by decide +kernel
theorem dX5_undo_5 : decode cX5_undo 5 = .ok (.ifCond .le 7, 3) := by decide +kernel
theorem dX5_undo_8 : decode cX5_undo 8 = .ok (.iconst 0, 1) := by decide +kernel
theorem dX5_undo_9 : decode cX5_undo 9 = .ok (.goto 4, 3) := by decide +kernel
theorem dX5_undo_12 : decode cX5_undo 12 = .ok (.iconst 1, 1) := by decide +kernel
theorem dX5_undo_13 : decode cX5_undo 13 = .ok (.putfield 37, 3) := by decide +kernel
theorem dX5_undo_16 : decode cX5_undo 16 = .ok (.aload_n 0, 1) := by decide +kernel
theorem dX5_undo_17 : decode cX5_undo 17 = .ok (.getfield 37, 3) := by decide +kernel
theorem dX5_undo_20 : decode cX5_undo 20 = .ok (.ifCond .le 5, 3) := by decide +kernel
theorem dX5_undo_23 : decode cX5_undo 23 = .ok (.iconst 0, 1) := by decide +kernel
theorem dX5_undo_24 : decode cX5_undo 24 = .ok (.ireturn, 1) := by decide +kernel
theorem dX5_undo_25 : decode cX5_undo 25 = .ok (.aload_n 0, 1) := by decide +kernel
theorem dX5_undo_26 : decode cX5_undo 26 = .ok (.dup, 1) := by decide +kernel
theorem dX5_undo_27 : decode cX5_undo 27 = .ok (.getfield 73, 3) := by decide +kernel
theorem dX5_undo_30 : decode cX5_undo 30 = .ok (.iconst 1, 1) := by decide +kernel
theorem dX5_undo_31 : decode cX5_undo 31 = .ok (.isub, 1) := by decide +kernel
theorem dX5_undo_32 : decode cX5_undo 32 = .ok (.putfield 73, 3) := by decide +kernel
theorem dX5_undo_35 : decode cX5_undo 35 = .ok (.aload_n 0, 1) := by decide +kernel
theorem dX5_undo_36 : decode cX5_undo 36 = .ok (.getfield 22, 3) := by decide +kernel
theorem dX5_undo_39 : decode cX5_undo 39 = .ok (.aload_n 0, 1) := by decide +kernel
theorem dX5_undo_40 : decode cX5_undo 40 = .ok (.getfield 73, 3) := by decide +kernel
theorem dX5_undo_43 : decode cX5_undo 43 = .ok (.sipush 925, 3) := by decide +kernel
theorem dX5_undo_46 : decode cX5_undo 46 = .ok (.imul, 1) := by decide +kernel
theorem dX5_undo_47 : decode cX5_undo 47 = .ok (.aload_n 0, 1) := by decide +kernel
theorem dX5_undo_48 : decode cX5_undo 48 = .ok (.getfield 7, 3) := by decide +kernel
theorem dX5_undo_51 : decode cX5_undo 51 = .ok (.iconst 0, 1) := by decide +kernel
theorem dX5_undo_52 : decode cX5_undo 52 = .ok (.invokestatic 69, 3) := by decide +kernel
theorem dX5_undo_55 : decode cX5_undo 55 = .ok (.aload_n 0, 1) := by decide +kernel
theorem dX5_undo_56 : decode cX5_undo 56 = .ok (.getfield 73, 3) := by decide +kernel
theorem dX5_undo_59 : decode cX5_undo 59 = .ok (.ireturn, 1) := by decide +kernel
set_option maxRecDepth 20000 in
theorem ggX5_waits_X5_isOrder : GoodIn wsX5_waits wsX5_isOrder := goodIn_r _ [6, 7, 8, 9, 5, 10, 23, 24, 25, 26, 27, 28, 29, 30, 31, 32, 33, 34, 35] (by decide +kernel) (by decide +kernel)
set_option maxRecDepth 20000 in
theorem gX5_waits_X5_isOrder : GoodIn wsX5_waits (wsV RX5 86 RX5 yX5_isOrder wsX5_isOrder) := goodIn_app (goodIn_of _ (by decide +kernel)) ggX5_waits_X5_isOrder
set_option maxRecDepth 20000 in
theorem ggX5_waits_X5_part : GoodIn wsX5_waits wsX5_part := goodIn_r _ [14, 7, 23, 24, 25, 26, 27, 28, 29, 30, 31, 32, 33, 34, 35] (by decide +kernel) (by decide +kernel)
set_option maxRecDepth 20000 in
theorem gX5_waits_X5_part : GoodIn wsX5_waits (wsV RX5 76 RX5 yX5_part wsX5_part) := goodIn_app (goodIn_of _ (by decide +kernel)) ggX5_waits_X5_part
set_option maxRecDepth 20000 in
theorem ggX5_waits_X5_waitOf : GoodIn wsX5_waits wsX5_waitOf := goodIn_r _ [18, 7, 11, 12, 13, 5, 14, 19, 20, 21, 22, 23, 24, 25, 26, 27, 28, 29, 30, 31, 32, 33, 34, 35] (by decide +kernel) (by decide +kernel)
set_option maxRecDepth 20000 in
theorem gX5_waits_X5_waitOf : GoodIn wsX5_waits (wsV RX5 130 RX5 yX5_waitOf wsX5_waitOf) := goodIn_app (goodIn_of _ (by decide +kernel)) ggX5_waits_X5_waitOf
theorem dX5_waits_0 : decode cX5_waits 0 = .ok (.aload_n 0, 1) := by decide +kernel
theorem dX5_waits_1 : decode cX5_waits 1 = .ok (.aload_n 0, 1) := by decide +kernel
theorem dX5_waits_2 : decode cX5_waits 2 = .ok (.iload_n 1, 1) := by decide +kernel
theorem dX5_waits_3 : decode cX5_waits 3 = .ok (.invokevirtual 86, 3) := by decide +kernel
theorem dX5_waits_6 : decode cX5_waits 6 = .ok (.ifCond .eq 7, 3) := by decide +kernel
theorem dX5_waits_9 : decode cX5_waits 9 = .ok (.iconst 0, 1) := by decide +kernel
theorem dX5_waits_10 : decode cX5_waits 10 = .ok (.goto 4, 3) := by decide +kernel
theorem dX5_waits_13 : decode cX5_waits 13 = .ok (.iconst 1, 1) := by decide +kernel
theorem dX5_waits_14 : decode cX5_waits 14 = .ok (.putfield 37, 3) := by decide +kernel
theorem dX5_waits_17 : decode cX5_waits 17 = .ok (.aload_n 0, 1) := by decide +kernel
theorem dX5_waits_18 : decode cX5_waits 18 = .ok (.getfield 37, 3) := by decide +kernel
theorem dX5_waits_21 : decode cX5_waits 21 = .ok (.ifCond .le 5, 3) := by decide +kernel
theorem dX5_waits_24 : decode cX5_waits 24 = .ok (.iconst 0, 1) := by decide +kernel
theorem dX5_waits_25 : decode cX5_waits 25 = .ok (.ireturn, 1) := by decide +kernel
theorem dX5_waits_26 : decode cX5_waits 26 = .ok (.aload_n 0, 1) := by decide +kernel
theorem dX5_waits_27 : decode cX5_waits 27 = .ok (.iload_n 1, 1) := by decide +kernel
theorem dX5_waits_28 : decode cX5_waits 28 = .ok (.iconst 5, 1) := by decide +kernel
theorem dX5_waits_29 : decode cX5_waits 29 = .ok (.invokevirtual 76, 3) := by decide +kernel
theorem dX5_waits_32 : decode cX5_waits 32 = .ok (.iconst (-1), 1) := by decide +kernel
theorem dX5_waits_33 : decode cX5_waits 33 = .ok (.if_icmp .ne 7, 3) := by decide +kernel
theorem dX5_waits_36 : decode cX5_waits 36 = .ok (.iconst (-1), 1) := by decide +kernel
theorem dX5_waits_37 : decode cX5_waits 37 = .ok (.goto 8, 3) := by decide +kernel
theorem dX5_waits_40 : decode cX5_waits 40 = .ok (.aload_n 0, 1) := by decide +kernel
theorem dX5_waits_41 : decode cX5_waits 41 = .ok (.iload_n 1, 1) := by decide +kernel
theorem dX5_waits_42 : decode cX5_waits 42 = .ok (.invokevirtual 130, 3) := by decide +kernel
theorem dX5_waits_45 : decode cX5_waits 45 = .ok (.ireturn, 1) := by decide +kernel
set_option maxRecDepth 20000 in
theorem ggX5_ticksOf_X5_copy : GoodIn wsX5_ticksOf wsX5_copy := goodIn_r _ [7] (by decide +kernel) (by decide +kernel)
set_option maxRecDepth 20000 in
theorem gX5_ticksOf_X5_copy : GoodIn wsX5_ticksOf (va_wsS RX5 69 yX5_copy wsX5_copy) := goodIn_app (goodIn_of _ (by decide +kernel)) ggX5_ticksOf_X5_copy
set_option maxRecDepth 20000 in
theorem ggX5_ticksOf_X5_runs : GoodIn wsX5_ticksOf wsX5_runs := goodIn_r _ [11, 1, 12, 13, 14, 6, 15, 16, 17, 18, 19, 20, 21, 22, 23, 24, 25, 26, 27, 28, 29, 30, 31, 32, 33, 34, 35, 36, 37, 38, 39, 40, 41, 42, 43, 44, 45, 46, 47, 48, 49, 50, 51, 52, 53, 54, 55, 56, 57, 58, 59] (by decide +kernel) (by decide +kernel)
set_option maxRecDepth 20000 in
theorem gX5_ticksOf_X5_runs : GoodIn wsX5_ticksOf (wsV RX5 141 RX5 yX5_runs wsX5_runs) := goodIn_app (goodIn_of _ (by decide +kernel)) ggX5_ticksOf_X5_runs
theorem dX5_ticksOf_0 : decode cX5_ticksOf 0 = .ok (.aload_n 0, 1) := by decide +kernel
theorem dX5_ticksOf_1 : decode cX5_ticksOf 1 = .ok (.getfield 7, 3) := by decide +kernel
theorem dX5_ticksOf_4 : decode cX5_ticksOf 4 = .ok (.iconst 0, 1) := by decide +kernel
theorem dX5_ticksOf_5 : decode cX5_ticksOf 5 = .ok (.aload_n 0, 1) := by decide +kernel
theorem dX5_ticksOf_6 : decode cX5_ticksOf 6 = .ok (.getfield 13, 3) := by decide +kernel
theorem dX5_ticksOf_9 : decode cX5_ticksOf 9 = .ok (.iconst 0, 1) := by decide +kernel
theorem dX5_ticksOf_10 : decode cX5_ticksOf 10 = .ok (.invokestatic 69, 3) := by decide +kernel
theorem dX5_ticksOf_13 : decode cX5_ticksOf 13 = .ok (.aload_n 0, 1) := by decide +kernel
theorem dX5_ticksOf_14 : decode cX5_ticksOf 14 = .ok (.iload_n 1, 1) := by decide +kernel
theorem dX5_ticksOf_15 : decode cX5_ticksOf 15 = .ok (.invokevirtual 141, 3) := by decide +kernel
theorem dX5_ticksOf_18 : decode cX5_ticksOf 18 = .ok (.pop, 1) := by decide +kernel
theorem dX5_ticksOf_19 : decode cX5_ticksOf 19 = .ok (.aload_n 0, 1) := by decide +kernel
theorem dX5_ticksOf_20 : decode cX5_ticksOf 20 = .ok (.getfield 7, 3) := by decide +kernel
theorem dX5_ticksOf_23 : decode cX5_ticksOf 23 = .ok (.iconst 1, 1) := by decide +kernel
theorem dX5_ticksOf_24 : decode cX5_ticksOf 24 = .ok (.iaload, 1) := by decide +kernel
theorem dX5_ticksOf_25 : decode cX5_ticksOf 25 = .ok (.aload_n 0, 1) := by decide +kernel
theorem dX5_ticksOf_26 : decode cX5_ticksOf 26 = .ok (.getfield 13, 3) := by decide +kernel
theorem dX5_ticksOf_29 : decode cX5_ticksOf 29 = .ok (.iconst 1, 1) := by decide +kernel
theorem dX5_ticksOf_30 : decode cX5_ticksOf 30 = .ok (.iaload, 1) := by decide +kernel
theorem dX5_ticksOf_31 : decode cX5_ticksOf 31 = .ok (.isub, 1) := by decide +kernel
theorem dX5_ticksOf_32 : decode cX5_ticksOf 32 = .ok (.istore_n 2, 1) := by decide +kernel
theorem dX5_ticksOf_33 : decode cX5_ticksOf 33 = .ok (.aload_n 0, 1) := by decide +kernel
theorem dX5_ticksOf_34 : decode cX5_ticksOf 34 = .ok (.aload_n 0, 1) := by decide +kernel
theorem dX5_ticksOf_35 : decode cX5_ticksOf 35 = .ok (.getfield 7, 3) := by decide +kernel
theorem dX5_ticksOf_38 : decode cX5_ticksOf 38 = .ok (.iconst 4, 1) := by decide +kernel
theorem dX5_ticksOf_39 : decode cX5_ticksOf 39 = .ok (.iaload, 1) := by decide +kernel
theorem dX5_ticksOf_40 : decode cX5_ticksOf 40 = .ok (.putfield 144, 3) := by decide +kernel
theorem dX5_ticksOf_43 : decode cX5_ticksOf 43 = .ok (.aload_n 0, 1) := by decide +kernel
theorem dX5_ticksOf_44 : decode cX5_ticksOf 44 = .ok (.getfield 13, 3) := by decide +kernel
theorem dX5_ticksOf_47 : decode cX5_ticksOf 47 = .ok (.iconst 0, 1) := by decide +kernel
theorem dX5_ticksOf_48 : decode cX5_ticksOf 48 = .ok (.aload_n 0, 1) := by decide +kernel
theorem dX5_ticksOf_49 : decode cX5_ticksOf 49 = .ok (.getfield 7, 3) := by decide +kernel
theorem dX5_ticksOf_52 : decode cX5_ticksOf 52 = .ok (.iconst 0, 1) := by decide +kernel
theorem dX5_ticksOf_53 : decode cX5_ticksOf 53 = .ok (.invokestatic 69, 3) := by decide +kernel
theorem dX5_ticksOf_56 : decode cX5_ticksOf 56 = .ok (.iload_n 2, 1) := by decide +kernel
theorem dX5_ticksOf_57 : decode cX5_ticksOf 57 = .ok (.ireturn, 1) := by decide +kernel
set_option maxRecDepth 20000 in
theorem ggX5_time_X5_isOrder : GoodIn wsX5_time wsX5_isOrder := goodIn_r _ [6, 7, 8, 9, 5, 10, 52, 53, 54, 55, 56, 57, 58, 59, 60, 61, 62, 63, 64] (by decide +kernel) (by decide +kernel)
set_option maxRecDepth 20000 in
theorem gX5_time_X5_isOrder : GoodIn wsX5_time (wsV RX5 86 RX5 yX5_isOrder wsX5_isOrder) := goodIn_app (goodIn_of _ (by decide +kernel)) ggX5_time_X5_isOrder
set_option maxRecDepth 20000 in
theorem ggX5_time_X5_ticksOf : GoodIn wsX5_time wsX5_ticksOf := goodIn_r _ [14, 7, 15, 16, 17, 18, 5, 19, 20, 21, 22, 23, 2, 3, 4, 6, 8, 9, 10, 24, 25, 26, 27, 28, 29, 30, 31, 32, 33, 34, 35, 36, 37, 38, 39, 40, 41, 42, 43, 44, 45, 46, 47, 48, 49, 50, 51, 52, 53, 54, 55, 56, 57, 58, 59, 60, 61, 62, 63, 64] (by decide +kernel) (by decide +kernel)
set_option maxRecDepth 20000 in
theorem gX5_time_X5_ticksOf : GoodIn wsX5_time (wsV RX5 147 RX5 yX5_ticksOf wsX5_ticksOf) := goodIn_app (goodIn_of _ (by decide +kernel)) ggX5_time_X5_ticksOf
theorem dX5_time_0 : decode cX5_time 0 = .ok (.aload_n 0, 1) := by decide +kernel
theorem dX5_time_1 : decode cX5_time 1 = .ok (.aload_n 0, 1) := by decide +kernel
theorem dX5_time_2 : decode cX5_time 2 = .ok (.iload_n 1, 1) := by decide +kernel
theorem dX5_time_3 : decode cX5_time 3 = .ok (.invokevirtual 86, 3) := by decide +kernel
theorem dX5_time_6 : decode cX5_time 6 = .ok (.ifCond .eq 7, 3) := by decide +kernel
theorem dX5_time_9 : decode cX5_time 9 = .ok (.iconst 0, 1) := by decide +kernel
theorem dX5_time_10 : decode cX5_time 10 = .ok (.goto 4, 3) := by decide +kernel
theorem dX5_time_13 : decode cX5_time 13 = .ok (.iconst 1, 1) := by decide +kernel
theorem dX5_time_14 : decode cX5_time 14 = .ok (.putfield 37, 3) := by decide +kernel
theorem dX5_time_17 : decode cX5_time 17 = .ok (.aload_n 0, 1) := by decide +kernel
theorem dX5_time_18 : decode cX5_time 18 = .ok (.getfield 37, 3) := by decide +kernel
theorem dX5_time_21 : decode cX5_time 21 = .ok (.ifCond .le 7, 3) := by decide +kernel
theorem dX5_time_24 : decode cX5_time 24 = .ok (.iconst 0, 1) := by decide +kernel
theorem dX5_time_25 : decode cX5_time 25 = .ok (.goto 8, 3) := by decide +kernel
theorem dX5_time_28 : decode cX5_time 28 = .ok (.aload_n 0, 1) := by decide +kernel
theorem dX5_time_29 : decode cX5_time 29 = .ok (.iload_n 1, 1) := by decide +kernel
theorem dX5_time_30 : decode cX5_time 30 = .ok (.invokevirtual 147, 3) := by decide +kernel
theorem dX5_time_33 : decode cX5_time 33 = .ok (.ireturn, 1) := by decide +kernel
set_option maxRecDepth 20000 in
theorem ggX5_bestPlace_X5_isOrder : GoodIn wsX5_bestPlace wsX5_isOrder := goodIn_r _ [7, 2, 8, 9, 6, 10, 56, 57, 58, 59, 60, 61, 62, 63, 64, 65, 66, 67, 68] (by decide +kernel) (by decide +kernel)
set_option maxRecDepth 20000 in
theorem gX5_bestPlace_X5_isOrder : GoodIn wsX5_bestPlace (wsV RX5 86 RX5 yX5_isOrder wsX5_isOrder) := goodIn_app (goodIn_of _ (by decide +kernel)) ggX5_bestPlace_X5_isOrder
set_option maxRecDepth 20000 in
theorem ggX5_bestPlace_X5_part : GoodIn wsX5_bestPlace wsX5_part := goodIn_r _ [14, 2, 56, 57, 58, 59, 60, 61, 62, 63, 64, 65, 66, 67, 68] (by decide +kernel) (by decide +kernel)
set_option maxRecDepth 20000 in
theorem gX5_bestPlace_X5_part : GoodIn wsX5_bestPlace (wsV RX5 76 RX5 yX5_part wsX5_part) := goodIn_app (goodIn_of _ (by decide +kernel)) ggX5_bestPlace_X5_part
set_option maxRecDepth 20000 in
theorem ggX5_bestPlace_X5_standing : GoodIn wsX5_bestPlace wsX5_standing := goodIn_r _ [18, 2, 11, 12, 13, 6, 14, 56, 57, 58, 59, 60, 61, 62, 63, 64, 65, 66, 67, 68] (by decide +kernel) (by decide +kernel)
set_option maxRecDepth 20000 in
theorem gX5_bestPlace_X5_standing : GoodIn wsX5_bestPlace (wsV RX5 95 RX5 yX5_standing wsX5_standing) := goodIn_app (goodIn_of _ (by decide +kernel)) ggX5_bestPlace_X5_standing
set_option maxRecDepth 20000 in
theorem ggX5_bestPlace_X5_setPart : GoodIn wsX5_bestPlace wsX5_setPart := goodIn_r _ [22, 2, 56, 57, 58, 59, 60, 61, 62, 63, 64, 65, 66, 67, 68] (by decide +kernel) (by decide +kernel)
set_option maxRecDepth 20000 in
theorem gX5_bestPlace_X5_setPart : GoodIn wsX5_bestPlace (wsV RX5 101 RX5 yX5_setPart wsX5_setPart) := goodIn_app (goodIn_of _ (by decide +kernel)) ggX5_bestPlace_X5_setPart
set_option maxRecDepth 20000 in
theorem ggX5_bestPlace_X5_ticksOf : GoodIn wsX5_bestPlace wsX5_ticksOf := goodIn_r _ [26, 2, 27, 28, 29, 30, 6, 31, 32, 33, 34, 35, 3, 4, 5, 7, 8, 9, 10, 11, 12, 13, 14, 36, 37, 38, 39, 40, 41, 42, 43, 44, 45, 46, 47, 19, 20, 21, 22, 48, 49, 50, 51, 52, 53, 54, 55, 56, 57, 58, 59, 60, 61, 62, 63, 64, 65, 66, 67, 68] (by decide +kernel) (by decide +kernel)
set_option maxRecDepth 20000 in
theorem gX5_bestPlace_X5_ticksOf : GoodIn wsX5_bestPlace (wsV RX5 147 RX5 yX5_ticksOf wsX5_ticksOf) := goodIn_app (goodIn_of _ (by decide +kernel)) ggX5_bestPlace_X5_ticksOf
theorem dX5_bestPlace_0 : decode cX5_bestPlace 0 = .ok (.aload_n 0, 1) := by decide +kernel
theorem dX5_bestPlace_1 : decode cX5_bestPlace 1 = .ok (.aload_n 0, 1) := by decide +kernel
theorem dX5_bestPlace_2 : decode cX5_bestPlace 2 = .ok (.iload_n 1, 1) := by decide +kernel
theorem dX5_bestPlace_3 : decode cX5_bestPlace 3 = .ok (.invokevirtual 86, 3) := by decide +kernel
theorem dX5_bestPlace_6 : decode cX5_bestPlace 6 = .ok (.ifCond .eq 15, 3) := by decide +kernel
theorem dX5_bestPlace_9 : decode cX5_bestPlace 9 = .ok (.aload_n 0, 1) := by decide +kernel
theorem dX5_bestPlace_10 : decode cX5_bestPlace 10 = .ok (.iload_n 2, 1) := by decide +kernel
theorem dX5_bestPlace_11 : decode cX5_bestPlace 11 = .ok (.invokevirtual 86, 3) := by decide +kernel
theorem dX5_bestPlace_14 : decode cX5_bestPlace 14 = .ok (.ifCond .eq 7, 3) := by decide +kernel
theorem dX5_bestPlace_17 : decode cX5_bestPlace 17 = .ok (.iconst 0, 1) := by decide +kernel
theorem dX5_bestPlace_18 : decode cX5_bestPlace 18 = .ok (.goto 4, 3) := by decide +kernel
theorem dX5_bestPlace_21 : decode cX5_bestPlace 21 = .ok (.iconst 1, 1) := by decide +kernel
theorem dX5_bestPlace_22 : decode cX5_bestPlace 22 = .ok (.putfield 37, 3) := by decide +kernel
theorem dX5_bestPlace_25 : decode cX5_bestPlace 25 = .ok (.aload_n 0, 1) := by decide +kernel
theorem dX5_bestPlace_26 : decode cX5_bestPlace 26 = .ok (.getfield 37, 3) := by decide +kernel
theorem dX5_bestPlace_29 : decode cX5_bestPlace 29 = .ok (.ifCond .le 5, 3) := by decide +kernel
theorem dX5_bestPlace_32 : decode cX5_bestPlace 32 = .ok (.iconst 0, 1) := by decide +kernel
theorem dX5_bestPlace_33 : decode cX5_bestPlace 33 = .ok (.ireturn, 1) := by decide +kernel
theorem dX5_bestPlace_34 : decode cX5_bestPlace 34 = .ok (.aload_n 0, 1) := by decide +kernel
theorem dX5_bestPlace_35 : decode cX5_bestPlace 35 = .ok (.iload_n 1, 1) := by decide +kernel
theorem dX5_bestPlace_36 : decode cX5_bestPlace 36 = .ok (.iconst 5, 1) := by decide +kernel
theorem dX5_bestPlace_37 : decode cX5_bestPlace 37 = .ok (.invokevirtual 76, 3) := by decide +kernel
theorem dX5_bestPlace_40 : decode cX5_bestPlace 40 = .ok (.istore_n 3, 1) := by decide +kernel
theorem dX5_bestPlace_41 : decode cX5_bestPlace 41 = .ok (.iconst (-1), 1) := by decide +kernel
theorem dX5_bestPlace_42 : decode cX5_bestPlace 42 = .ok (.istore 4, 2) := by decide +kernel
theorem dX5_bestPlace_44 : decode cX5_bestPlace 44 = .ok (.iconst 0, 1) := by decide +kernel
theorem dX5_bestPlace_45 : decode cX5_bestPlace 45 = .ok (.istore 5, 2) := by decide +kernel
theorem dX5_bestPlace_47 : decode cX5_bestPlace 47 = .ok (.iconst 0, 1) := by decide +kernel
theorem dX5_bestPlace_48 : decode cX5_bestPlace 48 = .ok (.istore 6, 2) := by decide +kernel
theorem dX5_bestPlace_50 : decode cX5_bestPlace 50 = .ok (.iload 6, 2) := by decide +kernel
theorem dX5_bestPlace_52 : decode cX5_bestPlace 52 = .ok (.aload_n 0, 1) := by decide +kernel
theorem dX5_bestPlace_53 : decode cX5_bestPlace 53 = .ok (.getfield 7, 3) := by decide +kernel
theorem dX5_bestPlace_56 : decode cX5_bestPlace 56 = .ok (.iconst 0, 1) := by decide +kernel
theorem dX5_bestPlace_57 : decode cX5_bestPlace 57 = .ok (.iaload, 1) := by decide +kernel
theorem dX5_bestPlace_58 : decode cX5_bestPlace 58 = .ok (.if_icmp .ge 99, 3) := by decide +kernel
theorem dX5_bestPlace_61 : decode cX5_bestPlace 61 = .ok (.aload_n 0, 1) := by decide +kernel
theorem dX5_bestPlace_62 : decode cX5_bestPlace 62 = .ok (.iload 6, 2) := by decide +kernel
theorem dX5_bestPlace_64 : decode cX5_bestPlace 64 = .ok (.invokevirtual 95, 3) := by decide +kernel
theorem dX5_bestPlace_67 : decode cX5_bestPlace 67 = .ok (.istore 7, 2) := by decide +kernel
theorem dX5_bestPlace_69 : decode cX5_bestPlace 69 = .ok (.iload 7, 2) := by decide +kernel
theorem dX5_bestPlace_71 : decode cX5_bestPlace 71 = .ok (.iconst (-1), 1) := by decide +kernel
theorem dX5_bestPlace_72 : decode cX5_bestPlace 72 = .ok (.if_icmp .eq 9, 3) := by decide +kernel
theorem dX5_bestPlace_75 : decode cX5_bestPlace 75 = .ok (.iload 6, 2) := by decide +kernel
theorem dX5_bestPlace_77 : decode cX5_bestPlace 77 = .ok (.iload_n 3, 1) := by decide +kernel
theorem dX5_bestPlace_78 : decode cX5_bestPlace 78 = .ok (.if_icmp .ne 73, 3) := by decide +kernel
theorem dX5_bestPlace_81 : decode cX5_bestPlace 81 = .ok (.aload_n 0, 1) := by decide +kernel
theorem dX5_bestPlace_82 : decode cX5_bestPlace 82 = .ok (.iload_n 1, 1) := by decide +kernel
theorem dX5_bestPlace_83 : decode cX5_bestPlace 83 = .ok (.iconst 5, 1) := by decide +kernel
theorem dX5_bestPlace_84 : decode cX5_bestPlace 84 = .ok (.iload 6, 2) := by decide +kernel
theorem dX5_bestPlace_86 : decode cX5_bestPlace 86 = .ok (.invokevirtual 101, 3) := by decide +kernel
theorem dX5_bestPlace_89 : decode cX5_bestPlace 89 = .ok (.aload_n 0, 1) := by decide +kernel
theorem dX5_bestPlace_90 : decode cX5_bestPlace 90 = .ok (.iload_n 2, 1) := by decide +kernel
theorem dX5_bestPlace_91 : decode cX5_bestPlace 91 = .ok (.invokevirtual 147, 3) := by decide +kernel
theorem dX5_bestPlace_94 : decode cX5_bestPlace 94 = .ok (.istore 8, 2) := by decide +kernel
theorem dX5_bestPlace_96 : decode cX5_bestPlace 96 = .ok (.aload_n 0, 1) := by decide +kernel
theorem dX5_bestPlace_97 : decode cX5_bestPlace 97 = .ok (.iload_n 1, 1) := by decide +kernel
theorem dX5_bestPlace_98 : decode cX5_bestPlace 98 = .ok (.iconst 5, 1) := by decide +kernel
theorem dX5_bestPlace_99 : decode cX5_bestPlace 99 = .ok (.iload_n 3, 1) := by decide +kernel
theorem dX5_bestPlace_100 : decode cX5_bestPlace 100 = .ok (.invokevirtual 101, 3) := by decide +kernel
theorem dX5_bestPlace_103 : decode cX5_bestPlace 103 = .ok (.iload 4, 2) := by decide +kernel
theorem dX5_bestPlace_105 : decode cX5_bestPlace 105 = .ok (.iconst (-1), 1) := by decide +kernel
theorem dX5_bestPlace_106 : decode cX5_bestPlace 106 = .ok (.if_icmp .eq 10, 3) := by decide +kernel
theorem dX5_bestPlace_109 : decode cX5_bestPlace 109 = .ok (.iload 8, 2) := by decide +kernel
theorem dX5_bestPlace_111 : decode cX5_bestPlace 111 = .ok (.iload 5, 2) := by decide +kernel
theorem dX5_bestPlace_113 : decode cX5_bestPlace 113 = .ok (.if_icmp .ge 7, 3) := by decide +kernel
theorem dX5_bestPlace_116 : decode cX5_bestPlace 116 = .ok (.iconst 1, 1) := by decide +kernel
theorem dX5_bestPlace_117 : decode cX5_bestPlace 117 = .ok (.goto 4, 3) := by decide +kernel
theorem dX5_bestPlace_120 : decode cX5_bestPlace 120 = .ok (.iconst 0, 1) := by decide +kernel
theorem dX5_bestPlace_121 : decode cX5_bestPlace 121 = .ok (.istore 9, 2) := by decide +kernel
theorem dX5_bestPlace_123 : decode cX5_bestPlace 123 = .ok (.iload 9, 2) := by decide +kernel
theorem dX5_bestPlace_125 : decode cX5_bestPlace 125 = .ok (.ifCond .eq 8, 3) := by decide +kernel
theorem dX5_bestPlace_128 : decode cX5_bestPlace 128 = .ok (.iload 6, 2) := by decide +kernel
theorem dX5_bestPlace_130 : decode cX5_bestPlace 130 = .ok (.goto 5, 3) := by decide +kernel
theorem dX5_bestPlace_133 : decode cX5_bestPlace 133 = .ok (.iload 4, 2) := by decide +kernel
theorem dX5_bestPlace_135 : decode cX5_bestPlace 135 = .ok (.istore 4, 2) := by decide +kernel
theorem dX5_bestPlace_137 : decode cX5_bestPlace 137 = .ok (.iload 9, 2) := by decide +kernel
theorem dX5_bestPlace_139 : decode cX5_bestPlace 139 = .ok (.ifCond .eq 8, 3) := by decide +kernel
theorem dX5_bestPlace_142 : decode cX5_bestPlace 142 = .ok (.iload 8, 2) := by decide +kernel
theorem dX5_bestPlace_144 : decode cX5_bestPlace 144 = .ok (.goto 5, 3) := by decide +kernel
theorem dX5_bestPlace_147 : decode cX5_bestPlace 147 = .ok (.iload 5, 2) := by decide +kernel
theorem dX5_bestPlace_149 : decode cX5_bestPlace 149 = .ok (.istore 5, 2) := by decide +kernel
theorem dX5_bestPlace_151 : decode cX5_bestPlace 151 = .ok (.iinc 6 1, 3) := by decide +kernel
theorem dX5_bestPlace_154 : decode cX5_bestPlace 154 = .ok (.goto (-104), 3) := by decide +kernel
theorem dX5_bestPlace_157 : decode cX5_bestPlace 157 = .ok (.iload 4, 2) := by decide +kernel
theorem dX5_bestPlace_159 : decode cX5_bestPlace 159 = .ok (.ireturn, 1) := by decide +kernel
set_option maxRecDepth 20000 in
theorem ggX5_leastBribe_X5_isOrder : GoodIn wsX5_leastBribe wsX5_isOrder := goodIn_r _ [8, 2, 9, 10, 7, 11, 43, 44, 45, 46, 47, 48, 49, 50, 51, 52, 53, 54, 55] (by decide +kernel) (by decide +kernel)
set_option maxRecDepth 20000 in
theorem gX5_leastBribe_X5_isOrder : GoodIn wsX5_leastBribe (wsV RX5 86 RX5 yX5_isOrder wsX5_isOrder) := goodIn_app (goodIn_of _ (by decide +kernel)) ggX5_leastBribe_X5_isOrder
set_option maxRecDepth 20000 in
theorem ggX5_leastBribe_X5_copy : GoodIn wsX5_leastBribe wsX5_copy := goodIn_r _ [14] (by decide +kernel) (by decide +kernel)
set_option maxRecDepth 20000 in
theorem gX5_leastBribe_X5_copy : GoodIn wsX5_leastBribe (va_wsS RX5 69 yX5_copy wsX5_copy) := goodIn_app (goodIn_of _ (by decide +kernel)) ggX5_leastBribe_X5_copy
set_option maxRecDepth 20000 in
theorem ggX5_leastBribe_X5_setPart : GoodIn wsX5_leastBribe wsX5_setPart := goodIn_r _ [18, 2, 43, 44, 45, 46, 47, 48, 49, 50, 51, 52, 53, 54, 55] (by decide +kernel) (by decide +kernel)
set_option maxRecDepth 20000 in
theorem gX5_leastBribe_X5_setPart : GoodIn wsX5_leastBribe (wsV RX5 101 RX5 yX5_setPart wsX5_setPart) := goodIn_app (goodIn_of _ (by decide +kernel)) ggX5_leastBribe_X5_setPart
set_option maxRecDepth 20000 in
theorem ggX5_leastBribe_X5_laid : GoodIn wsX5_leastBribe wsX5_laid := goodIn_r _ [22, 2, 23, 24, 25, 7, 26, 27, 28, 29, 30, 31, 32, 33, 34, 15, 16, 17, 18, 35, 36, 37, 38, 4, 5, 6, 8, 9, 10, 11, 39, 40, 41, 42, 43, 44, 45, 46, 47, 48, 49, 50, 51, 52, 53, 54, 55] (by decide +kernel) (by decide +kernel)
set_option maxRecDepth 20000 in
theorem gX5_leastBribe_X5_laid : GoodIn wsX5_leastBribe (wsV RX5 127 RX5 yX5_laid wsX5_laid) := goodIn_app (goodIn_of _ (by decide +kernel)) ggX5_leastBribe_X5_laid
set_option maxRecDepth 20000 in
theorem ggX5_leastBribe_X5_part : GoodIn wsX5_leastBribe wsX5_part := goodIn_r _ [34, 2, 43, 44, 45, 46, 47, 48, 49, 50, 51, 52, 53, 54, 55] (by decide +kernel) (by decide +kernel)
set_option maxRecDepth 20000 in
theorem gX5_leastBribe_X5_part : GoodIn wsX5_leastBribe (wsV RX5 76 RX5 yX5_part wsX5_part) := goodIn_app (goodIn_of _ (by decide +kernel)) ggX5_leastBribe_X5_part
theorem dX5_leastBribe_0 : decode cX5_leastBribe 0 = .ok (.aload_n 0, 1) := by decide +kernel
theorem dX5_leastBribe_1 : decode cX5_leastBribe 1 = .ok (.aload_n 0, 1) := by decide +kernel
theorem dX5_leastBribe_2 : decode cX5_leastBribe 2 = .ok (.iload_n 1, 1) := by decide +kernel
theorem dX5_leastBribe_3 : decode cX5_leastBribe 3 = .ok (.invokevirtual 86, 3) := by decide +kernel
theorem dX5_leastBribe_6 : decode cX5_leastBribe 6 = .ok (.ifCond .eq 7, 3) := by decide +kernel
theorem dX5_leastBribe_9 : decode cX5_leastBribe 9 = .ok (.iconst 0, 1) := by decide +kernel
theorem dX5_leastBribe_10 : decode cX5_leastBribe 10 = .ok (.goto 4, 3) := by decide +kernel
theorem dX5_leastBribe_13 : decode cX5_leastBribe 13 = .ok (.iconst 1, 1) := by decide +kernel
theorem dX5_leastBribe_14 : decode cX5_leastBribe 14 = .ok (.putfield 37, 3) := by decide +kernel
theorem dX5_leastBribe_17 : decode cX5_leastBribe 17 = .ok (.aload_n 0, 1) := by decide +kernel
theorem dX5_leastBribe_18 : decode cX5_leastBribe 18 = .ok (.getfield 37, 3) := by decide +kernel
theorem dX5_leastBribe_21 : decode cX5_leastBribe 21 = .ok (.ifCond .le 5, 3) := by decide +kernel
theorem dX5_leastBribe_24 : decode cX5_leastBribe 24 = .ok (.iconst 0, 1) := by decide +kernel
theorem dX5_leastBribe_25 : decode cX5_leastBribe 25 = .ok (.ireturn, 1) := by decide +kernel
theorem dX5_leastBribe_26 : decode cX5_leastBribe 26 = .ok (.aload_n 0, 1) := by decide +kernel
theorem dX5_leastBribe_27 : decode cX5_leastBribe 27 = .ok (.getfield 7, 3) := by decide +kernel
theorem dX5_leastBribe_30 : decode cX5_leastBribe 30 = .ok (.iconst 0, 1) := by decide +kernel
theorem dX5_leastBribe_31 : decode cX5_leastBribe 31 = .ok (.aload_n 0, 1) := by decide +kernel
theorem dX5_leastBribe_32 : decode cX5_leastBribe 32 = .ok (.getfield 13, 3) := by decide +kernel
theorem dX5_leastBribe_35 : decode cX5_leastBribe 35 = .ok (.iconst 0, 1) := by decide +kernel
theorem dX5_leastBribe_36 : decode cX5_leastBribe 36 = .ok (.invokestatic 69, 3) := by decide +kernel
theorem dX5_leastBribe_39 : decode cX5_leastBribe 39 = .ok (.iconst (-1), 1) := by decide +kernel
theorem dX5_leastBribe_40 : decode cX5_leastBribe 40 = .ok (.istore_n 2, 1) := by decide +kernel
theorem dX5_leastBribe_41 : decode cX5_leastBribe 41 = .ok (.iconst 0, 1) := by decide +kernel
theorem dX5_leastBribe_42 : decode cX5_leastBribe 42 = .ok (.istore_n 3, 1) := by decide +kernel
theorem dX5_leastBribe_43 : decode cX5_leastBribe 43 = .ok (.iload_n 3, 1) := by decide +kernel
theorem dX5_leastBribe_44 : decode cX5_leastBribe 44 = .ok (.bipush 99, 2) := by decide +kernel
theorem dX5_leastBribe_46 : decode cX5_leastBribe 46 = .ok (.if_icmp .gt 55, 3) := by decide +kernel
theorem dX5_leastBribe_49 : decode cX5_leastBribe 49 = .ok (.iload_n 2, 1) := by decide +kernel
theorem dX5_leastBribe_50 : decode cX5_leastBribe 50 = .ok (.iconst (-1), 1) := by decide +kernel
theorem dX5_leastBribe_51 : decode cX5_leastBribe 51 = .ok (.if_icmp .ne 50, 3) := by decide +kernel
theorem dX5_leastBribe_54 : decode cX5_leastBribe 54 = .ok (.aload_n 0, 1) := by decide +kernel
theorem dX5_leastBribe_55 : decode cX5_leastBribe 55 = .ok (.iload_n 1, 1) := by decide +kernel
theorem dX5_leastBribe_56 : decode cX5_leastBribe 56 = .ok (.iconst 4, 1) := by decide +kernel
theorem dX5_leastBribe_57 : decode cX5_leastBribe 57 = .ok (.iload_n 3, 1) := by decide +kernel
theorem dX5_leastBribe_58 : decode cX5_leastBribe 58 = .ok (.invokevirtual 101, 3) := by decide +kernel
theorem dX5_leastBribe_61 : decode cX5_leastBribe 61 = .ok (.aload_n 0, 1) := by decide +kernel
theorem dX5_leastBribe_62 : decode cX5_leastBribe 62 = .ok (.invokevirtual 127, 3) := by decide +kernel
theorem dX5_leastBribe_65 : decode cX5_leastBribe 65 = .ok (.pop, 1) := by decide +kernel
theorem dX5_leastBribe_66 : decode cX5_leastBribe 66 = .ok (.aload_n 0, 1) := by decide +kernel
theorem dX5_leastBribe_67 : decode cX5_leastBribe 67 = .ok (.iload_n 1, 1) := by decide +kernel
theorem dX5_leastBribe_68 : decode cX5_leastBribe 68 = .ok (.bipush 6, 2) := by decide +kernel
theorem dX5_leastBribe_70 : decode cX5_leastBribe 70 = .ok (.invokevirtual 76, 3) := by decide +kernel
theorem dX5_leastBribe_73 : decode cX5_leastBribe 73 = .ok (.ifCond .ne 7, 3) := by decide +kernel
theorem dX5_leastBribe_76 : decode cX5_leastBribe 76 = .ok (.iload_n 3, 1) := by decide +kernel
theorem dX5_leastBribe_77 : decode cX5_leastBribe 77 = .ok (.goto 4, 3) := by decide +kernel
theorem dX5_leastBribe_80 : decode cX5_leastBribe 80 = .ok (.iconst (-1), 1) := by decide +kernel
theorem dX5_leastBribe_81 : decode cX5_leastBribe 81 = .ok (.istore_n 2, 1) := by decide +kernel
theorem dX5_leastBribe_82 : decode cX5_leastBribe 82 = .ok (.aload_n 0, 1) := by decide +kernel
theorem dX5_leastBribe_83 : decode cX5_leastBribe 83 = .ok (.getfield 13, 3) := by decide +kernel
theorem dX5_leastBribe_86 : decode cX5_leastBribe 86 = .ok (.iconst 0, 1) := by decide +kernel
theorem dX5_leastBribe_87 : decode cX5_leastBribe 87 = .ok (.aload_n 0, 1) := by decide +kernel
theorem dX5_leastBribe_88 : decode cX5_leastBribe 88 = .ok (.getfield 7, 3) := by decide +kernel
theorem dX5_leastBribe_91 : decode cX5_leastBribe 91 = .ok (.iconst 0, 1) := by decide +kernel
theorem dX5_leastBribe_92 : decode cX5_leastBribe 92 = .ok (.invokestatic 69, 3) := by decide +kernel
theorem dX5_leastBribe_95 : decode cX5_leastBribe 95 = .ok (.iinc 3 1, 3) := by decide +kernel
theorem dX5_leastBribe_98 : decode cX5_leastBribe 98 = .ok (.goto (-55), 3) := by decide +kernel
theorem dX5_leastBribe_101 : decode cX5_leastBribe 101 = .ok (.iload_n 2, 1) := by decide +kernel
theorem dX5_leastBribe_102 : decode cX5_leastBribe 102 = .ok (.ireturn, 1) := by decide +kernel
set_option maxRecDepth 20000 in
theorem ggX5_saves_X5_isOrder : GoodIn wsX5_saves wsX5_isOrder := goodIn_r _ [8, 2, 9, 10, 7, 11, 68, 69, 70, 71, 72, 73, 74, 75, 76, 77, 78, 79, 80] (by decide +kernel) (by decide +kernel)
set_option maxRecDepth 20000 in
theorem gX5_saves_X5_isOrder : GoodIn wsX5_saves (wsV RX5 86 RX5 yX5_isOrder wsX5_isOrder) := goodIn_app (goodIn_of _ (by decide +kernel)) ggX5_saves_X5_isOrder
set_option maxRecDepth 20000 in
theorem ggX5_saves_X5_ticksOf : GoodIn wsX5_saves wsX5_ticksOf := goodIn_r _ [15, 2, 3, 16, 17, 18, 7, 19, 20, 21, 22, 23, 4, 5, 6, 8, 9, 10, 11, 24, 25, 26, 27, 28, 29, 30, 31, 32, 33, 34, 35, 36, 37, 38, 39, 40, 41, 42, 43, 44, 45, 46, 47, 48, 49, 50, 51, 68, 69, 70, 71, 72, 73, 74, 75, 76, 77, 78, 79, 80] (by decide +kernel) (by decide +kernel)
set_option maxRecDepth 20000 in
theorem gX5_saves_X5_ticksOf : GoodIn wsX5_saves (wsV RX5 147 RX5 yX5_ticksOf wsX5_ticksOf) := goodIn_app (goodIn_of _ (by decide +kernel)) ggX5_saves_X5_ticksOf
set_option maxRecDepth 20000 in
theorem ggX5_saves_X5_copy : GoodIn wsX5_saves wsX5_copy := goodIn_r _ [19] (by decide +kernel) (by decide +kernel)
set_option maxRecDepth 20000 in
theorem gX5_saves_X5_copy : GoodIn wsX5_saves (va_wsS RX5 69 yX5_copy wsX5_copy) := goodIn_app (goodIn_of _ (by decide +kernel)) ggX5_saves_X5_copy
set_option maxRecDepth 20000 in
theorem ggX5_saves_X5_laid : GoodIn wsX5_saves wsX5_laid := goodIn_r _ [55, 2, 56, 57, 58, 7, 59, 44, 45, 46, 47, 24, 25, 26, 27, 40, 41, 42, 43, 60, 61, 62, 63, 4, 5, 6, 8, 9, 10, 11, 64, 65, 66, 67, 68, 69, 70, 71, 72, 73, 74, 75, 76, 77, 78, 79, 80] (by decide +kernel) (by decide +kernel)
set_option maxRecDepth 20000 in
theorem gX5_saves_X5_laid : GoodIn wsX5_saves (wsV RX5 127 RX5 yX5_laid wsX5_laid) := goodIn_app (goodIn_of _ (by decide +kernel)) ggX5_saves_X5_laid
set_option maxRecDepth 20000 in
theorem ggX5_saves_X5_runs : GoodIn wsX5_saves wsX5_runs := goodIn_r _ [23, 2, 4, 5, 6, 7, 8, 9, 10, 11, 24, 25, 26, 27, 28, 29, 30, 31, 32, 33, 34, 35, 36, 37, 38, 39, 40, 41, 42, 43, 44, 45, 46, 47, 48, 49, 50, 51, 68, 69, 70, 71, 72, 73, 74, 75, 76, 77, 78, 79, 80] (by decide +kernel) (by decide +kernel)
set_option maxRecDepth 20000 in
theorem gX5_saves_X5_runs : GoodIn wsX5_saves (wsV RX5 141 RX5 yX5_runs wsX5_runs) := goodIn_app (goodIn_of _ (by decide +kernel)) ggX5_saves_X5_runs
theorem dX5_saves_0 : decode cX5_saves 0 = .ok (.aload_n 0, 1) := by decide +kernel
theorem dX5_saves_1 : decode cX5_saves 1 = .ok (.aload_n 0, 1) := by decide +kernel
theorem dX5_saves_2 : decode cX5_saves 2 = .ok (.iload_n 1, 1) := by decide +kernel
theorem dX5_saves_3 : decode cX5_saves 3 = .ok (.invokevirtual 86, 3) := by decide +kernel
theorem dX5_saves_6 : decode cX5_saves 6 = .ok (.ifCond .eq 7, 3) := by decide +kernel
theorem dX5_saves_9 : decode cX5_saves 9 = .ok (.iconst 0, 1) := by decide +kernel
theorem dX5_saves_10 : decode cX5_saves 10 = .ok (.goto 4, 3) := by decide +kernel
theorem dX5_saves_13 : decode cX5_saves 13 = .ok (.iconst 1, 1) := by decide +kernel
theorem dX5_saves_14 : decode cX5_saves 14 = .ok (.putfield 37, 3) := by decide +kernel
theorem dX5_saves_17 : decode cX5_saves 17 = .ok (.aload_n 0, 1) := by decide +kernel
theorem dX5_saves_18 : decode cX5_saves 18 = .ok (.getfield 37, 3) := by decide +kernel
theorem dX5_saves_21 : decode cX5_saves 21 = .ok (.ifCond .le 5, 3) := by decide +kernel
theorem dX5_saves_24 : decode cX5_saves 24 = .ok (.iconst 0, 1) := by decide +kernel
theorem dX5_saves_25 : decode cX5_saves 25 = .ok (.ireturn, 1) := by decide +kernel
theorem dX5_saves_26 : decode cX5_saves 26 = .ok (.aload_n 0, 1) := by decide +kernel
theorem dX5_saves_27 : decode cX5_saves 27 = .ok (.iload_n 1, 1) := by decide +kernel
theorem dX5_saves_28 : decode cX5_saves 28 = .ok (.invokevirtual 147, 3) := by decide +kernel
theorem dX5_saves_31 : decode cX5_saves 31 = .ok (.istore_n 2, 1) := by decide +kernel
theorem dX5_saves_32 : decode cX5_saves 32 = .ok (.aload_n 0, 1) := by decide +kernel
theorem dX5_saves_33 : decode cX5_saves 33 = .ok (.getfield 7, 3) := by decide +kernel
theorem dX5_saves_36 : decode cX5_saves 36 = .ok (.iconst 0, 1) := by decide +kernel
theorem dX5_saves_37 : decode cX5_saves 37 = .ok (.aload_n 0, 1) := by decide +kernel
theorem dX5_saves_38 : decode cX5_saves 38 = .ok (.getfield 13, 3) := by decide +kernel
theorem dX5_saves_41 : decode cX5_saves 41 = .ok (.iconst 0, 1) := by decide +kernel
theorem dX5_saves_42 : decode cX5_saves 42 = .ok (.invokestatic 69, 3) := by decide +kernel
theorem dX5_saves_45 : decode cX5_saves 45 = .ok (.aload_n 0, 1) := by decide +kernel
theorem dX5_saves_46 : decode cX5_saves 46 = .ok (.invokevirtual 127, 3) := by decide +kernel
theorem dX5_saves_49 : decode cX5_saves 49 = .ok (.pop, 1) := by decide +kernel
theorem dX5_saves_50 : decode cX5_saves 50 = .ok (.aload_n 0, 1) := by decide +kernel
theorem dX5_saves_51 : decode cX5_saves 51 = .ok (.getfield 7, 3) := by decide +kernel
theorem dX5_saves_54 : decode cX5_saves 54 = .ok (.iconst 1, 1) := by decide +kernel
theorem dX5_saves_55 : decode cX5_saves 55 = .ok (.iaload, 1) := by decide +kernel
theorem dX5_saves_56 : decode cX5_saves 56 = .ok (.istore_n 3, 1) := by decide +kernel
theorem dX5_saves_57 : decode cX5_saves 57 = .ok (.aload_n 0, 1) := by decide +kernel
theorem dX5_saves_58 : decode cX5_saves 58 = .ok (.iload_n 1, 1) := by decide +kernel
theorem dX5_saves_59 : decode cX5_saves 59 = .ok (.invokevirtual 141, 3) := by decide +kernel
theorem dX5_saves_62 : decode cX5_saves 62 = .ok (.pop, 1) := by decide +kernel
theorem dX5_saves_63 : decode cX5_saves 63 = .ok (.aload_n 0, 1) := by decide +kernel
theorem dX5_saves_64 : decode cX5_saves 64 = .ok (.getfield 7, 3) := by decide +kernel
theorem dX5_saves_67 : decode cX5_saves 67 = .ok (.iconst 1, 1) := by decide +kernel
theorem dX5_saves_68 : decode cX5_saves 68 = .ok (.iaload, 1) := by decide +kernel
theorem dX5_saves_69 : decode cX5_saves 69 = .ok (.iload_n 3, 1) := by decide +kernel
theorem dX5_saves_70 : decode cX5_saves 70 = .ok (.isub, 1) := by decide +kernel
theorem dX5_saves_71 : decode cX5_saves 71 = .ok (.istore 4, 2) := by decide +kernel
theorem dX5_saves_73 : decode cX5_saves 73 = .ok (.aload_n 0, 1) := by decide +kernel
theorem dX5_saves_74 : decode cX5_saves 74 = .ok (.getfield 13, 3) := by decide +kernel
theorem dX5_saves_77 : decode cX5_saves 77 = .ok (.iconst 0, 1) := by decide +kernel
theorem dX5_saves_78 : decode cX5_saves 78 = .ok (.aload_n 0, 1) := by decide +kernel
theorem dX5_saves_79 : decode cX5_saves 79 = .ok (.getfield 7, 3) := by decide +kernel
theorem dX5_saves_82 : decode cX5_saves 82 = .ok (.iconst 0, 1) := by decide +kernel
theorem dX5_saves_83 : decode cX5_saves 83 = .ok (.invokestatic 69, 3) := by decide +kernel
theorem dX5_saves_86 : decode cX5_saves 86 = .ok (.iload_n 2, 1) := by decide +kernel
theorem dX5_saves_87 : decode cX5_saves 87 = .ok (.iload 4, 2) := by decide +kernel
theorem dX5_saves_89 : decode cX5_saves 89 = .ok (.isub, 1) := by decide +kernel
theorem dX5_saves_90 : decode cX5_saves 90 = .ok (.ireturn, 1) := by decide +kernel
set_option maxRecDepth 20000 in
theorem ggX5_changes_X5_isOrder : GoodIn wsX5_changes wsX5_isOrder := goodIn_r _ [5, 6, 7, 8, 4, 9, 20, 21, 22, 23, 24, 25, 26, 27, 28, 29, 30, 31, 32] (by decide +kernel) (by decide +kernel)
set_option maxRecDepth 20000 in
theorem gX5_changes_X5_isOrder : GoodIn wsX5_changes (wsV RX5 86 RX5 yX5_isOrder wsX5_isOrder) := goodIn_app (goodIn_of _ (by decide +kernel)) ggX5_changes_X5_isOrder
set_option maxRecDepth 20000 in
theorem ggX5_changes_X5_isInRange : GoodIn wsX5_changes wsX5_isInRange := goodIn_r _ [12, 13, 14, 4, 15, 7, 8, 9] (by decide +kernel) (by decide +kernel)
set_option maxRecDepth 20000 in
theorem gX5_changes_X5_isInRange : GoodIn wsX5_changes (va_wsS RX5 114 yX5_isInRange wsX5_isInRange) := goodIn_app (goodIn_of _ (by decide +kernel)) ggX5_changes_X5_isInRange
set_option maxRecDepth 20000 in
theorem ggX5_changes_X5_setPart : GoodIn wsX5_changes wsX5_setPart := goodIn_r _ [19, 6, 20, 21, 22, 23, 24, 25, 26, 27, 28, 29, 30, 31, 32] (by decide +kernel) (by decide +kernel)
set_option maxRecDepth 20000 in
theorem gX5_changes_X5_setPart : GoodIn wsX5_changes (wsV RX5 101 RX5 yX5_setPart wsX5_setPart) := goodIn_app (goodIn_of _ (by decide +kernel)) ggX5_changes_X5_setPart
theorem dX5_changes_0 : decode cX5_changes 0 = .ok (.aload_n 0, 1) := by decide +kernel
theorem dX5_changes_1 : decode cX5_changes 1 = .ok (.iload_n 1, 1) := by decide +kernel
theorem dX5_changes_2 : decode cX5_changes 2 = .ok (.invokevirtual 86, 3) := by decide +kernel
theorem dX5_changes_5 : decode cX5_changes 5 = .ok (.ifCond .eq 15, 3) := by decide +kernel
theorem dX5_changes_8 : decode cX5_changes 8 = .ok (.iload_n 2, 1) := by decide +kernel
theorem dX5_changes_9 : decode cX5_changes 9 = .ok (.iload_n 3, 1) := by decide +kernel
theorem dX5_changes_10 : decode cX5_changes 10 = .ok (.invokestatic 114, 3) := by decide +kernel
theorem dX5_changes_13 : decode cX5_changes 13 = .ok (.ifCond .eq 7, 3) := by decide +kernel
theorem dX5_changes_16 : decode cX5_changes 16 = .ok (.iconst 1, 1) := by decide +kernel
theorem dX5_changes_17 : decode cX5_changes 17 = .ok (.goto 4, 3) := by decide +kernel
theorem dX5_changes_20 : decode cX5_changes 20 = .ok (.iconst 0, 1) := by decide +kernel
theorem dX5_changes_21 : decode cX5_changes 21 = .ok (.istore 4, 2) := by decide +kernel
theorem dX5_changes_23 : decode cX5_changes 23 = .ok (.iload 4, 2) := by decide +kernel
theorem dX5_changes_25 : decode cX5_changes 25 = .ok (.ifCond .eq 10, 3) := by decide +kernel
theorem dX5_changes_28 : decode cX5_changes 28 = .ok (.aload_n 0, 1) := by decide +kernel
theorem dX5_changes_29 : decode cX5_changes 29 = .ok (.iload_n 1, 1) := by decide +kernel
theorem dX5_changes_30 : decode cX5_changes 30 = .ok (.iload_n 2, 1) := by decide +kernel
theorem dX5_changes_31 : decode cX5_changes 31 = .ok (.iload_n 3, 1) := by decide +kernel
theorem dX5_changes_32 : decode cX5_changes 32 = .ok (.invokevirtual 101, 3) := by decide +kernel
theorem dX5_changes_35 : decode cX5_changes 35 = .ok (.iload 4, 2) := by decide +kernel
theorem dX5_changes_37 : decode cX5_changes 37 = .ok (.ireturn, 1) := by decide +kernel
set_option maxRecDepth 20000 in
theorem ggX5_moves_X5_whyNotMoved : GoodIn wsX5_moves wsX5_whyNotMoved := goodIn_r _ [5, 6, 7, 8, 4, 9, 10, 11, 12, 13, 14, 15, 16, 17, 18, 19, 20, 21, 22, 23, 24, 25, 38, 39, 40, 41, 42, 43, 44, 45, 46, 47, 48, 49, 50] (by decide +kernel) (by decide +kernel)
set_option maxRecDepth 20000 in
theorem gX5_moves_X5_whyNotMoved : GoodIn wsX5_moves (wsV RX5 118 RX5 yX5_whyNotMoved wsX5_whyNotMoved) := goodIn_app (goodIn_of _ (by decide +kernel)) ggX5_moves_X5_whyNotMoved
set_option maxRecDepth 20000 in
theorem ggX5_moves_X5_moved : GoodIn wsX5_moves wsX5_moved := goodIn_r _ [29, 30, 31, 32, 4, 33, 10, 34, 35, 36, 37, 22, 23, 24, 25, 38, 39, 40, 41, 42, 43, 44, 45, 46, 47, 48, 49, 50] (by decide +kernel) (by decide +kernel)
set_option maxRecDepth 20000 in
theorem gX5_moves_X5_moved : GoodIn wsX5_moves (wsV RX5 121 RX5 yX5_moved wsX5_moved) := goodIn_app (goodIn_of _ (by decide +kernel)) ggX5_moves_X5_moved
theorem dX5_moves_0 : decode cX5_moves 0 = .ok (.aload_n 0, 1) := by decide +kernel
theorem dX5_moves_1 : decode cX5_moves 1 = .ok (.iload_n 1, 1) := by decide +kernel
theorem dX5_moves_2 : decode cX5_moves 2 = .ok (.iload_n 2, 1) := by decide +kernel
theorem dX5_moves_3 : decode cX5_moves 3 = .ok (.invokevirtual 118, 3) := by decide +kernel
theorem dX5_moves_6 : decode cX5_moves 6 = .ok (.ifCond .ne 7, 3) := by decide +kernel
theorem dX5_moves_9 : decode cX5_moves 9 = .ok (.iconst 1, 1) := by decide +kernel
theorem dX5_moves_10 : decode cX5_moves 10 = .ok (.goto 4, 3) := by decide +kernel
theorem dX5_moves_13 : decode cX5_moves 13 = .ok (.iconst 0, 1) := by decide +kernel
theorem dX5_moves_14 : decode cX5_moves 14 = .ok (.istore_n 3, 1) := by decide +kernel
theorem dX5_moves_15 : decode cX5_moves 15 = .ok (.iload_n 3, 1) := by decide +kernel
theorem dX5_moves_16 : decode cX5_moves 16 = .ok (.ifCond .eq 10, 3) := by decide +kernel
theorem dX5_moves_19 : decode cX5_moves 19 = .ok (.aload_n 0, 1) := by decide +kernel
theorem dX5_moves_20 : decode cX5_moves 20 = .ok (.iload_n 1, 1) := by decide +kernel
theorem dX5_moves_21 : decode cX5_moves 21 = .ok (.iload_n 2, 1) := by decide +kernel
theorem dX5_moves_22 : decode cX5_moves 22 = .ok (.invokevirtual 121, 3) := by decide +kernel
theorem dX5_moves_25 : decode cX5_moves 25 = .ok (.pop, 1) := by decide +kernel
theorem dX5_moves_26 : decode cX5_moves 26 = .ok (.iload_n 3, 1) := by decide +kernel
theorem dX5_moves_27 : decode cX5_moves 27 = .ok (.ireturn, 1) := by decide +kernel
set_option maxRecDepth 20000 in
theorem ggX5_runsFrom_X5_isOrder : GoodIn wsX5_runsFrom wsX5_isOrder := goodIn_r _ [5, 6, 7, 8, 4, 9, 42, 43, 44, 45, 46, 47, 48, 49, 50, 51, 52, 53, 54] (by decide +kernel) (by decide +kernel)
set_option maxRecDepth 20000 in
theorem gX5_runsFrom_X5_isOrder : GoodIn wsX5_runsFrom (wsV RX5 86 RX5 yX5_isOrder wsX5_isOrder) := goodIn_app (goodIn_of _ (by decide +kernel)) ggX5_runsFrom_X5_isOrder
set_option maxRecDepth 20000 in
theorem ggX5_runsFrom_X5_runs : GoodIn wsX5_runsFrom wsX5_runs := goodIn_r _ [13, 6, 1, 2, 3, 4, 5, 7, 8, 9, 14, 15, 16, 17, 18, 19, 20, 21, 22, 23, 24, 25, 26, 27, 28, 29, 30, 31, 32, 33, 34, 35, 36, 37, 38, 39, 40, 41, 42, 43, 44, 45, 46, 47, 48, 49, 50, 51, 52, 53, 54] (by decide +kernel) (by decide +kernel)
set_option maxRecDepth 20000 in
theorem gX5_runsFrom_X5_runs : GoodIn wsX5_runsFrom (wsV RX5 141 RX5 yX5_runs wsX5_runs) := goodIn_app (goodIn_of _ (by decide +kernel)) ggX5_runsFrom_X5_runs
theorem dX5_runsFrom_0 : decode cX5_runsFrom 0 = .ok (.aload_n 0, 1) := by decide +kernel
theorem dX5_runsFrom_1 : decode cX5_runsFrom 1 = .ok (.iload_n 1, 1) := by decide +kernel
theorem dX5_runsFrom_2 : decode cX5_runsFrom 2 = .ok (.invokevirtual 86, 3) := by decide +kernel
theorem dX5_runsFrom_5 : decode cX5_runsFrom 5 = .ok (.istore_n 2, 1) := by decide +kernel
theorem dX5_runsFrom_6 : decode cX5_runsFrom 6 = .ok (.iload_n 2, 1) := by decide +kernel
theorem dX5_runsFrom_7 : decode cX5_runsFrom 7 = .ok (.ifCond .eq 9, 3) := by decide +kernel
theorem dX5_runsFrom_10 : decode cX5_runsFrom 10 = .ok (.aload_n 0, 1) := by decide +kernel
theorem dX5_runsFrom_11 : decode cX5_runsFrom 11 = .ok (.iload_n 1, 1) := by decide +kernel
theorem dX5_runsFrom_12 : decode cX5_runsFrom 12 = .ok (.invokevirtual 141, 3) := by decide +kernel
theorem dX5_runsFrom_15 : decode cX5_runsFrom 15 = .ok (.pop, 1) := by decide +kernel
theorem dX5_runsFrom_16 : decode cX5_runsFrom 16 = .ok (.iload_n 2, 1) := by decide +kernel
theorem dX5_runsFrom_17 : decode cX5_runsFrom 17 = .ok (.ireturn, 1) := by decide +kernel
set_option maxRecDepth 20000 in
theorem ggX5_lays_X5_laid : GoodIn wsX5_lays wsX5_laid := goodIn_r _ [5, 6, 7, 8, 9, 4, 10, 11, 12, 13, 14, 15, 16, 17, 18, 19, 20, 21, 22, 23, 24, 25, 26, 27, 28, 29, 30, 31, 32, 33, 34, 35, 36, 37, 38, 39, 40, 41, 42, 43, 44, 45, 46, 47, 48, 49, 50] (by decide +kernel) (by decide +kernel)
set_option maxRecDepth 20000 in
theorem gX5_lays_X5_laid : GoodIn wsX5_lays (wsV RX5 127 RX5 yX5_laid wsX5_laid) := goodIn_app (goodIn_of _ (by decide +kernel)) ggX5_lays_X5_laid
theorem dX5_lays_0 : decode cX5_lays 0 = .ok (.aload_n 0, 1) := by decide +kernel
theorem dX5_lays_1 : decode cX5_lays 1 = .ok (.invokevirtual 127, 3) := by decide +kernel
theorem dX5_lays_4 : decode cX5_lays 4 = .ok (.pop, 1) := by decide +kernel
theorem dX5_lays_5 : decode cX5_lays 5 = .ok (.iconst 1, 1) := by decide +kernel
theorem dX5_lays_6 : decode cX5_lays 6 = .ok (.ireturn, 1) := by decide +kernel
theorem dX5_turns_0 : decode cX5_turns 0 = .ok (.aload_n 0, 1) := by decide +kernel
theorem dX5_turns_1 : decode cX5_turns 1 = .ok (.getfield 7, 3) := by decide +kernel
theorem dX5_turns_4 : decode cX5_turns 4 = .ok (.iconst 1, 1) := by decide +kernel
theorem dX5_turns_5 : decode cX5_turns 5 = .ok (.dup2, 1) := by decide +kernel
theorem dX5_turns_6 : decode cX5_turns 6 = .ok (.iaload, 1) := by decide +kernel
theorem dX5_turns_7 : decode cX5_turns 7 = .ok (.iload_n 1, 1) := by decide +kernel
theorem dX5_turns_8 : decode cX5_turns 8 = .ok (.iadd, 1) := by decide +kernel
theorem dX5_turns_9 : decode cX5_turns 9 = .ok (.iastore, 1) := by decide +kernel
theorem dX5_turns_10 : decode cX5_turns 10 = .ok (.iload_n 1, 1) := by decide +kernel
theorem dX5_turns_11 : decode cX5_turns 11 = .ok (.ifCond .le 7, 3) := by decide +kernel
theorem dX5_turns_14 : decode cX5_turns 14 = .ok (.iconst 1, 1) := by decide +kernel
theorem dX5_turns_15 : decode cX5_turns 15 = .ok (.goto 4, 3) := by decide +kernel
theorem dX5_turns_18 : decode cX5_turns 18 = .ok (.iconst 0, 1) := by decide +kernel
theorem dX5_turns_19 : decode cX5_turns 19 = .ok (.ireturn, 1) := by decide +kernel
set_option maxRecDepth 20000 in
theorem ggX5_isSoon_X5_isOrder : GoodIn wsX5_isSoon wsX5_isOrder := goodIn_r _ [5, 6, 7, 8, 4, 9, 22, 23, 24, 25, 26, 27, 28, 29, 30, 31, 32, 33, 34] (by decide +kernel) (by decide +kernel)
set_option maxRecDepth 20000 in
theorem gX5_isSoon_X5_isOrder : GoodIn wsX5_isSoon (wsV RX5 86 RX5 yX5_isOrder wsX5_isOrder) := goodIn_app (goodIn_of _ (by decide +kernel)) ggX5_isSoon_X5_isOrder
set_option maxRecDepth 20000 in
theorem ggX5_isSoon_X5_part : GoodIn wsX5_isSoon wsX5_part := goodIn_r _ [13, 6, 22, 23, 24, 25, 26, 27, 28, 29, 30, 31, 32, 33, 34] (by decide +kernel) (by decide +kernel)
set_option maxRecDepth 20000 in
theorem gX5_isSoon_X5_part : GoodIn wsX5_isSoon (wsV RX5 76 RX5 yX5_part wsX5_part) := goodIn_app (goodIn_of _ (by decide +kernel)) ggX5_isSoon_X5_part
set_option maxRecDepth 20000 in
theorem ggX5_isSoon_X5_waitOf : GoodIn wsX5_isSoon wsX5_waitOf := goodIn_r _ [17, 6, 10, 11, 12, 4, 13, 18, 19, 20, 21, 22, 23, 24, 25, 26, 27, 28, 29, 30, 31, 32, 33, 34] (by decide +kernel) (by decide +kernel)
set_option maxRecDepth 20000 in
theorem gX5_isSoon_X5_waitOf : GoodIn wsX5_isSoon (wsV RX5 130 RX5 yX5_waitOf wsX5_waitOf) := goodIn_app (goodIn_of _ (by decide +kernel)) ggX5_isSoon_X5_waitOf
theorem dX5_isSoon_0 : decode cX5_isSoon 0 = .ok (.aload_n 0, 1) := by decide +kernel
theorem dX5_isSoon_1 : decode cX5_isSoon 1 = .ok (.iload_n 1, 1) := by decide +kernel
theorem dX5_isSoon_2 : decode cX5_isSoon 2 = .ok (.invokevirtual 86, 3) := by decide +kernel
theorem dX5_isSoon_5 : decode cX5_isSoon 5 = .ok (.ifCond .eq 26, 3) := by decide +kernel
theorem dX5_isSoon_8 : decode cX5_isSoon 8 = .ok (.aload_n 0, 1) := by decide +kernel
theorem dX5_isSoon_9 : decode cX5_isSoon 9 = .ok (.iload_n 1, 1) := by decide +kernel
theorem dX5_isSoon_10 : decode cX5_isSoon 10 = .ok (.iconst 5, 1) := by decide +kernel
theorem dX5_isSoon_11 : decode cX5_isSoon 11 = .ok (.invokevirtual 76, 3) := by decide +kernel
theorem dX5_isSoon_14 : decode cX5_isSoon 14 = .ok (.iconst (-1), 1) := by decide +kernel
theorem dX5_isSoon_15 : decode cX5_isSoon 15 = .ok (.if_icmp .eq 16, 3) := by decide +kernel
theorem dX5_isSoon_18 : decode cX5_isSoon 18 = .ok (.aload_n 0, 1) := by decide +kernel
theorem dX5_isSoon_19 : decode cX5_isSoon 19 = .ok (.iload_n 1, 1) := by decide +kernel
theorem dX5_isSoon_20 : decode cX5_isSoon 20 = .ok (.invokevirtual 130, 3) := by decide +kernel
theorem dX5_isSoon_23 : decode cX5_isSoon 23 = .ok (.iload_n 2, 1) := by decide +kernel
theorem dX5_isSoon_24 : decode cX5_isSoon 24 = .ok (.if_icmp .gt 7, 3) := by decide +kernel
theorem dX5_isSoon_27 : decode cX5_isSoon 27 = .ok (.iconst 1, 1) := by decide +kernel
theorem dX5_isSoon_28 : decode cX5_isSoon 28 = .ok (.goto 4, 3) := by decide +kernel
theorem dX5_isSoon_31 : decode cX5_isSoon 31 = .ok (.iconst 0, 1) := by decide +kernel
theorem dX5_isSoon_32 : decode cX5_isSoon 32 = .ok (.ireturn, 1) := by decide +kernel
set_option maxRecDepth 20000 in
theorem ggX5_isQuick_X5_isOrder : GoodIn wsX5_isQuick wsX5_isOrder := goodIn_r _ [6, 7, 8, 9, 5, 10, 51, 52, 53, 54, 55, 56, 57, 58, 59, 60, 61, 62, 63] (by decide +kernel) (by decide +kernel)
set_option maxRecDepth 20000 in
theorem gX5_isQuick_X5_isOrder : GoodIn wsX5_isQuick (wsV RX5 86 RX5 yX5_isOrder wsX5_isOrder) := goodIn_app (goodIn_of _ (by decide +kernel)) ggX5_isQuick_X5_isOrder
set_option maxRecDepth 20000 in
theorem ggX5_isQuick_X5_ticksOf : GoodIn wsX5_isQuick wsX5_ticksOf := goodIn_r _ [14, 7, 15, 1, 16, 17, 5, 18, 19, 20, 21, 22, 2, 3, 4, 6, 8, 9, 10, 23, 24, 25, 26, 27, 28, 29, 30, 31, 32, 33, 34, 35, 36, 37, 38, 39, 40, 41, 42, 43, 44, 45, 46, 47, 48, 49, 50, 51, 52, 53, 54, 55, 56, 57, 58, 59, 60, 61, 62, 63] (by decide +kernel) (by decide +kernel)
set_option maxRecDepth 20000 in
theorem gX5_isQuick_X5_ticksOf : GoodIn wsX5_isQuick (wsV RX5 147 RX5 yX5_ticksOf wsX5_ticksOf) := goodIn_app (goodIn_of _ (by decide +kernel)) ggX5_isQuick_X5_ticksOf
theorem dX5_isQuick_0 : decode cX5_isQuick 0 = .ok (.aload_n 0, 1) := by decide +kernel
theorem dX5_isQuick_1 : decode cX5_isQuick 1 = .ok (.iload_n 1, 1) := by decide +kernel
theorem dX5_isQuick_2 : decode cX5_isQuick 2 = .ok (.invokevirtual 86, 3) := by decide +kernel
theorem dX5_isQuick_5 : decode cX5_isQuick 5 = .ok (.ifCond .eq 23, 3) := by decide +kernel
theorem dX5_isQuick_8 : decode cX5_isQuick 8 = .ok (.aload_n 0, 1) := by decide +kernel
theorem dX5_isQuick_9 : decode cX5_isQuick 9 = .ok (.iload_n 1, 1) := by decide +kernel
theorem dX5_isQuick_10 : decode cX5_isQuick 10 = .ok (.invokevirtual 147, 3) := by decide +kernel
theorem dX5_isQuick_13 : decode cX5_isQuick 13 = .ok (.iload_n 2, 1) := by decide +kernel
theorem dX5_isQuick_14 : decode cX5_isQuick 14 = .ok (.if_icmp .gt 14, 3) := by decide +kernel
theorem dX5_isQuick_17 : decode cX5_isQuick 17 = .ok (.aload_n 0, 1) := by decide +kernel
theorem dX5_isQuick_18 : decode cX5_isQuick 18 = .ok (.getfield 144, 3) := by decide +kernel
theorem dX5_isQuick_21 : decode cX5_isQuick 21 = .ok (.ifCond .ne 7, 3) := by decide +kernel
theorem dX5_isQuick_24 : decode cX5_isQuick 24 = .ok (.iconst 1, 1) := by decide +kernel
theorem dX5_isQuick_25 : decode cX5_isQuick 25 = .ok (.goto 4, 3) := by decide +kernel
theorem dX5_isQuick_28 : decode cX5_isQuick 28 = .ok (.iconst 0, 1) := by decide +kernel
theorem dX5_isQuick_29 : decode cX5_isQuick 29 = .ok (.ireturn, 1) := by decide +kernel
set_option maxRecDepth 20000 in
theorem ggX5_commands_X5_runsFrom : GoodIn wsX5_commands wsX5_runsFrom := goodIn_r _ [6, 7, 8, 9, 5, 10, 1, 11, 12, 13, 14, 15, 16, 17, 18, 19, 20, 21, 22, 23, 24, 25, 26, 27, 28, 29, 30, 31, 32, 33, 34, 35, 36, 37, 38, 39, 40, 41, 42, 43, 44, 45, 113, 114, 115, 116, 117, 118, 119, 120, 121, 122, 123, 124, 125] (by decide +kernel) (by decide +kernel)
set_option maxRecDepth 20000 in
theorem gX5_commands_X5_runsFrom : GoodIn wsX5_commands (wsV RX5 150 RX5 yX5_runsFrom wsX5_runsFrom) := goodIn_app (goodIn_of _ (by decide +kernel)) ggX5_commands_X5_runsFrom
set_option maxRecDepth 20000 in
theorem ggX5_commands_X5_lays : GoodIn wsX5_commands wsX5_lays := goodIn_r _ [49, 50, 51, 52, 5, 53, 1, 54, 55, 56, 57, 38, 39, 40, 41, 18, 19, 20, 21, 34, 35, 36, 37, 58, 59, 60, 61, 7, 8, 9, 10, 11, 12, 13, 62, 63, 64, 65, 113, 114, 115, 116, 117, 118, 119, 120, 121, 122, 123, 124, 125] (by decide +kernel) (by decide +kernel)
set_option maxRecDepth 20000 in
theorem gX5_commands_X5_lays : GoodIn wsX5_commands (wsV RX5 153 RX5 yX5_lays wsX5_lays) := goodIn_app (goodIn_of _ (by decide +kernel)) ggX5_commands_X5_lays
set_option maxRecDepth 20000 in
theorem ggX5_commands_X5_moves : GoodIn wsX5_commands wsX5_moves := goodIn_r _ [69, 70, 71, 72, 5, 73, 7, 8, 9, 10, 1, 11, 12, 13, 74, 75, 76, 77, 62, 63, 64, 65, 18, 19, 20, 21, 78, 79, 80, 81, 34, 35, 36, 37, 38, 39, 40, 41, 113, 114, 115, 116, 117, 118, 119, 120, 121, 122, 123, 124, 125] (by decide +kernel) (by decide +kernel)
set_option maxRecDepth 20000 in
theorem gX5_commands_X5_moves : GoodIn wsX5_commands (wsV RX5 157 RX5 yX5_moves wsX5_moves) := goodIn_app (goodIn_of _ (by decide +kernel)) ggX5_commands_X5_moves
set_option maxRecDepth 20000 in
theorem ggX5_commands_X5_turns : GoodIn wsX5_commands wsX5_turns := goodIn_r _ [85, 1, 113, 114, 115, 116, 117, 118, 119, 120, 121, 122, 123, 124, 125] (by decide +kernel) (by decide +kernel)
set_option maxRecDepth 20000 in
theorem gX5_commands_X5_turns : GoodIn wsX5_commands (wsV RX5 160 RX5 yX5_turns wsX5_turns) := goodIn_app (goodIn_of _ (by decide +kernel)) ggX5_commands_X5_turns
set_option maxRecDepth 20000 in
theorem ggX5_commands_X5_changes : GoodIn wsX5_commands wsX5_changes := goodIn_r _ [89, 7, 8, 9, 5, 10, 1, 11, 12, 13, 90, 91, 92, 93, 94, 95, 34, 35, 36, 37, 113, 114, 115, 116, 117, 118, 119, 120, 121, 122, 123, 124, 125] (by decide +kernel) (by decide +kernel)
set_option maxRecDepth 20000 in
theorem gX5_commands_X5_changes : GoodIn wsX5_commands (wsV RX5 163 RX5 yX5_changes wsX5_changes) := goodIn_app (goodIn_of _ (by decide +kernel)) ggX5_commands_X5_changes
set_option maxRecDepth 20000 in
theorem ggX5_commands_X5_isSoon : GoodIn wsX5_commands wsX5_isSoon := goodIn_r _ [99, 7, 8, 9, 5, 10, 1, 11, 12, 13, 18, 19, 20, 21, 26, 27, 28, 29, 30, 31, 32, 33, 113, 114, 115, 116, 117, 118, 119, 120, 121, 122, 123, 124, 125] (by decide +kernel) (by decide +kernel)
set_option maxRecDepth 20000 in
theorem gX5_commands_X5_isSoon : GoodIn wsX5_commands (wsV RX5 166 RX5 yX5_isSoon wsX5_isSoon) := goodIn_app (goodIn_of _ (by decide +kernel)) ggX5_commands_X5_isSoon
set_option maxRecDepth 20000 in
theorem ggX5_commands_X5_isQuick : GoodIn wsX5_commands wsX5_isQuick := goodIn_r _ [103, 104, 7, 8, 9, 5, 10, 1, 11, 12, 13, 105, 106, 107, 108, 109, 110, 111, 112, 14, 15, 16, 17, 18, 19, 20, 21, 22, 23, 24, 25, 26, 27, 28, 29, 30, 31, 32, 33, 34, 35, 36, 37, 38, 39, 40, 41, 42, 43, 44, 45, 113, 114, 115, 116, 117, 118, 119, 120, 121, 122, 123, 124, 125] (by decide +kernel) (by decide +kernel)
set_option maxRecDepth 20000 in
theorem gX5_commands_X5_isQuick : GoodIn wsX5_commands (wsV RX5 169 RX5 yX5_isQuick wsX5_isQuick) := goodIn_app (goodIn_of _ (by decide +kernel)) ggX5_commands_X5_isQuick
set_option maxRecDepth 20000 in
theorem ggX5_commands_X5_isAuthor : GoodIn wsX5_commands wsX5_isAuthor := goodIn_r _ [95, 11, 12, 5, 13] (by decide +kernel) (by decide +kernel)
set_option maxRecDepth 20000 in
theorem gX5_commands_X5_isAuthor : GoodIn wsX5_commands (va_wsS RX5 89 yX5_isAuthor wsX5_isAuthor) := goodIn_app (goodIn_of _ (by decide +kernel)) ggX5_commands_X5_isAuthor
theorem dX5_commands_0 : decode cX5_commands 0 = .ok (.iload_n 1, 1) := by decide +kernel
theorem dX5_commands_1 : decode cX5_commands 1 = .ok (.bipush 100, 2) := by decide +kernel
theorem dX5_commands_3 : decode cX5_commands 3 = .ok (.idiv, 1) := by decide +kernel
theorem dX5_commands_4 : decode cX5_commands 4 = .ok (.bipush 100, 2) := by decide +kernel
theorem dX5_commands_6 : decode cX5_commands 6 = .ok (.irem, 1) := by decide +kernel
theorem dX5_commands_7 : decode cX5_commands 7 = .ok (.istore_n 2, 1) := by decide +kernel
theorem dX5_commands_8 : decode cX5_commands 8 = .ok (.iload_n 1, 1) := by decide +kernel
theorem dX5_commands_9 : decode cX5_commands 9 = .ok (.bipush 100, 2) := by decide +kernel
theorem dX5_commands_11 : decode cX5_commands 11 = .ok (.irem, 1) := by decide +kernel
theorem dX5_commands_12 : decode cX5_commands 12 = .ok (.istore_n 3, 1) := by decide +kernel
theorem dX5_commands_13 : decode cX5_commands 13 = .ok (.iload_n 1, 1) := by decide +kernel
theorem dX5_commands_14 : decode cX5_commands 14 = .ok (.sipush 10000, 3) := by decide +kernel
theorem dX5_commands_17 : decode cX5_commands 17 = .ok (.idiv, 1) := by decide +kernel
theorem dX5_commands_18 : decode cX5_commands 18 = .ok (.tableswitch 193 1 9 #[50, 68, 89, 96, 114, 122, 140, 147, 157], 50) := by decide +kernel
theorem dX5_commands_68 : decode cX5_commands 68 = .ok (.iload_n 3, 1) := by decide +kernel
theorem dX5_commands_69 : decode cX5_commands 69 = .ok (.ifCond .ne 15, 3) := by decide +kernel
theorem dX5_commands_72 : decode cX5_commands 72 = .ok (.aload_n 0, 1) := by decide +kernel
theorem dX5_commands_73 : decode cX5_commands 73 = .ok (.iload_n 2, 1) := by decide +kernel
theorem dX5_commands_74 : decode cX5_commands 74 = .ok (.invokevirtual 150, 3) := by decide +kernel
theorem dX5_commands_77 : decode cX5_commands 77 = .ok (.ifCond .eq 7, 3) := by decide +kernel
theorem dX5_commands_80 : decode cX5_commands 80 = .ok (.iconst 1, 1) := by decide +kernel
theorem dX5_commands_81 : decode cX5_commands 81 = .ok (.goto 4, 3) := by decide +kernel
theorem dX5_commands_84 : decode cX5_commands 84 = .ok (.iconst 0, 1) := by decide +kernel
theorem dX5_commands_85 : decode cX5_commands 85 = .ok (.ireturn, 1) := by decide +kernel
theorem dX5_commands_86 : decode cX5_commands 86 = .ok (.iload_n 2, 1) := by decide +kernel
theorem dX5_commands_87 : decode cX5_commands 87 = .ok (.ifCond .ne 18, 3) := by decide +kernel
theorem dX5_commands_90 : decode cX5_commands 90 = .ok (.iload_n 3, 1) := by decide +kernel
theorem dX5_commands_91 : decode cX5_commands 91 = .ok (.ifCond .ne 14, 3) := by decide +kernel
theorem dX5_commands_94 : decode cX5_commands 94 = .ok (.aload_n 0, 1) := by decide +kernel
theorem dX5_commands_95 : decode cX5_commands 95 = .ok (.invokevirtual 153, 3) := by decide +kernel
theorem dX5_commands_98 : decode cX5_commands 98 = .ok (.ifCond .eq 7, 3) := by decide +kernel
theorem dX5_commands_101 : decode cX5_commands 101 = .ok (.iconst 1, 1) := by decide +kernel
theorem dX5_commands_102 : decode cX5_commands 102 = .ok (.goto 4, 3) := by decide +kernel
theorem dX5_commands_105 : decode cX5_commands 105 = .ok (.iconst 0, 1) := by decide +kernel
theorem dX5_commands_106 : decode cX5_commands 106 = .ok (.ireturn, 1) := by decide +kernel
theorem dX5_commands_107 : decode cX5_commands 107 = .ok (.aload_n 0, 1) := by decide +kernel
theorem dX5_commands_108 : decode cX5_commands 108 = .ok (.iload_n 2, 1) := by decide +kernel
theorem dX5_commands_109 : decode cX5_commands 109 = .ok (.iload_n 3, 1) := by decide +kernel
theorem dX5_commands_110 : decode cX5_commands 110 = .ok (.invokevirtual 157, 3) := by decide +kernel
theorem dX5_commands_113 : decode cX5_commands 113 = .ok (.ireturn, 1) := by decide +kernel
theorem dX5_commands_114 : decode cX5_commands 114 = .ok (.iload_n 2, 1) := by decide +kernel
theorem dX5_commands_115 : decode cX5_commands 115 = .ok (.ifCond .ne 15, 3) := by decide +kernel
theorem dX5_commands_118 : decode cX5_commands 118 = .ok (.aload_n 0, 1) := by decide +kernel
theorem dX5_commands_119 : decode cX5_commands 119 = .ok (.iload_n 3, 1) := by decide +kernel
theorem dX5_commands_120 : decode cX5_commands 120 = .ok (.invokevirtual 160, 3) := by decide +kernel
theorem dX5_commands_123 : decode cX5_commands 123 = .ok (.ifCond .eq 7, 3) := by decide +kernel
theorem dX5_commands_126 : decode cX5_commands 126 = .ok (.iconst 1, 1) := by decide +kernel
theorem dX5_commands_127 : decode cX5_commands 127 = .ok (.goto 4, 3) := by decide +kernel
theorem dX5_commands_130 : decode cX5_commands 130 = .ok (.iconst 0, 1) := by decide +kernel
theorem dX5_commands_131 : decode cX5_commands 131 = .ok (.ireturn, 1) := by decide +kernel
theorem dX5_commands_132 : decode cX5_commands 132 = .ok (.aload_n 0, 1) := by decide +kernel
theorem dX5_commands_133 : decode cX5_commands 133 = .ok (.iload_n 2, 1) := by decide +kernel
theorem dX5_commands_134 : decode cX5_commands 134 = .ok (.iconst 4, 1) := by decide +kernel
theorem dX5_commands_135 : decode cX5_commands 135 = .ok (.iload_n 3, 1) := by decide +kernel
theorem dX5_commands_136 : decode cX5_commands 136 = .ok (.invokevirtual 163, 3) := by decide +kernel
theorem dX5_commands_139 : decode cX5_commands 139 = .ok (.ireturn, 1) := by decide +kernel
theorem dX5_commands_140 : decode cX5_commands 140 = .ok (.aload_n 0, 1) := by decide +kernel
theorem dX5_commands_141 : decode cX5_commands 141 = .ok (.iload_n 2, 1) := by decide +kernel
theorem dX5_commands_142 : decode cX5_commands 142 = .ok (.iconst 2, 1) := by decide +kernel
theorem dX5_commands_143 : decode cX5_commands 143 = .ok (.iload_n 3, 1) := by decide +kernel
theorem dX5_commands_144 : decode cX5_commands 144 = .ok (.bipush 99, 2) := by decide +kernel
theorem dX5_commands_146 : decode cX5_commands 146 = .ok (.if_icmp .ne 7, 3) := by decide +kernel
theorem dX5_commands_149 : decode cX5_commands 149 = .ok (.iconst (-1), 1) := by decide +kernel
theorem dX5_commands_150 : decode cX5_commands 150 = .ok (.goto 4, 3) := by decide +kernel
theorem dX5_commands_153 : decode cX5_commands 153 = .ok (.iload_n 3, 1) := by decide +kernel
theorem dX5_commands_154 : decode cX5_commands 154 = .ok (.invokevirtual 163, 3) := by decide +kernel
theorem dX5_commands_157 : decode cX5_commands 157 = .ok (.ireturn, 1) := by decide +kernel
theorem dX5_commands_158 : decode cX5_commands 158 = .ok (.aload_n 0, 1) := by decide +kernel
theorem dX5_commands_159 : decode cX5_commands 159 = .ok (.iload_n 2, 1) := by decide +kernel
theorem dX5_commands_160 : decode cX5_commands 160 = .ok (.iload_n 3, 1) := by decide +kernel
theorem dX5_commands_161 : decode cX5_commands 161 = .ok (.invokevirtual 166, 3) := by decide +kernel
theorem dX5_commands_164 : decode cX5_commands 164 = .ok (.ireturn, 1) := by decide +kernel
theorem dX5_commands_165 : decode cX5_commands 165 = .ok (.aload_n 0, 1) := by decide +kernel
theorem dX5_commands_166 : decode cX5_commands 166 = .ok (.iload_n 2, 1) := by decide +kernel
theorem dX5_commands_167 : decode cX5_commands 167 = .ok (.bipush 10, 2) := by decide +kernel
theorem dX5_commands_169 : decode cX5_commands 169 = .ok (.iload_n 3, 1) := by decide +kernel
theorem dX5_commands_170 : decode cX5_commands 170 = .ok (.imul, 1) := by decide +kernel
theorem dX5_commands_171 : decode cX5_commands 171 = .ok (.invokevirtual 169, 3) := by decide +kernel
theorem dX5_commands_174 : decode cX5_commands 174 = .ok (.ireturn, 1) := by decide +kernel
theorem dX5_commands_175 : decode cX5_commands 175 = .ok (.iload_n 2, 1) := by decide +kernel
theorem dX5_commands_176 : decode cX5_commands 176 = .ok (.bipush 10, 2) := by decide +kernel
theorem dX5_commands_178 : decode cX5_commands 178 = .ok (.idiv, 1) := by decide +kernel
theorem dX5_commands_179 : decode cX5_commands 179 = .ok (.invokestatic 89, 3) := by decide +kernel
theorem dX5_commands_182 : decode cX5_commands 182 = .ok (.ifCond .eq 27, 3) := by decide +kernel
theorem dX5_commands_185 : decode cX5_commands 185 = .ok (.aload_n 0, 1) := by decide +kernel
theorem dX5_commands_186 : decode cX5_commands 186 = .ok (.getfield 7, 3) := by decide +kernel
theorem dX5_commands_189 : decode cX5_commands 189 = .ok (.bipush 9, 2) := by decide +kernel
theorem dX5_commands_191 : decode cX5_commands 191 = .ok (.iload_n 2, 1) := by decide +kernel
theorem dX5_commands_192 : decode cX5_commands 192 = .ok (.bipush 10, 2) := by decide +kernel
theorem dX5_commands_194 : decode cX5_commands 194 = .ok (.idiv, 1) := by decide +kernel
theorem dX5_commands_195 : decode cX5_commands 195 = .ok (.iadd, 1) := by decide +kernel
theorem dX5_commands_196 : decode cX5_commands 196 = .ok (.iaload, 1) := by decide +kernel
theorem dX5_commands_197 : decode cX5_commands 197 = .ok (.iload_n 1, 1) := by decide +kernel
theorem dX5_commands_198 : decode cX5_commands 198 = .ok (.sipush 1000, 3) := by decide +kernel
theorem dX5_commands_201 : decode cX5_commands 201 = .ok (.irem, 1) := by decide +kernel
theorem dX5_commands_202 : decode cX5_commands 202 = .ok (.if_icmp .gt 7, 3) := by decide +kernel
theorem dX5_commands_205 : decode cX5_commands 205 = .ok (.iconst 1, 1) := by decide +kernel
theorem dX5_commands_206 : decode cX5_commands 206 = .ok (.goto 4, 3) := by decide +kernel
theorem dX5_commands_209 : decode cX5_commands 209 = .ok (.iconst 0, 1) := by decide +kernel
theorem dX5_commands_210 : decode cX5_commands 210 = .ok (.ireturn, 1) := by decide +kernel
theorem dX5_commands_211 : decode cX5_commands 211 = .ok (.iconst 0, 1) := by decide +kernel
theorem dX5_commands_212 : decode cX5_commands 212 = .ok (.ireturn, 1) := by decide +kernel
set_option maxRecDepth 20000 in
theorem ggX5_runScript_X5_copy : GoodIn wsX5_runScript wsX5_copy := goodIn_r _ [10] (by decide +kernel) (by decide +kernel)
set_option maxRecDepth 20000 in
theorem gX5_runScript_X5_copy : GoodIn wsX5_runScript (va_wsS RX5 69 yX5_copy wsX5_copy) := goodIn_app (goodIn_of _ (by decide +kernel)) ggX5_runScript_X5_copy
set_option maxRecDepth 20000 in
theorem ggX5_runScript_X5_commands : GoodIn wsX5_runScript wsX5_commands := goodIn_r _ [14, 5, 15, 16, 17, 9, 18, 19, 20, 21, 22, 23, 24, 25, 26, 27, 28, 29, 30, 31, 32, 33, 34, 35, 36, 37, 38, 39, 40, 41, 42, 43, 44, 45, 46, 47, 48, 49, 50, 51, 52, 53, 54, 55, 56, 57, 58, 59, 60, 61, 62, 63, 64, 65, 66, 67, 68, 69, 70, 71, 72, 73, 74, 75, 76, 77, 78, 79, 80, 81, 82, 83, 84, 85, 86, 87, 88, 89, 90, 91, 92, 93, 94, 95, 96, 97, 98, 99, 100, 101, 102, 103, 104, 105, 106, 107, 108, 109, 110, 111, 112, 113, 114, 115, 116, 117, 118, 119, 120, 121, 7, 8, 10, 122, 123, 124, 125, 126, 127, 128, 129, 130, 131, 132, 133, 134] (by decide +kernel) (by decide +kernel)
set_option maxRecDepth 20000 in
theorem gX5_runScript_X5_commands : GoodIn wsX5_runScript (wsV RX5 178 RX5 yX5_commands wsX5_commands) := goodIn_app (goodIn_of _ (by decide +kernel)) ggX5_runScript_X5_commands
theorem dX5_runScript_0 : decode cX5_runScript 0 = .ok (.iload_n 1, 1) := by decide +kernel
theorem dX5_runScript_1 : decode cX5_runScript 1 = .ok (.iconst 1, 1) := by decide +kernel
theorem dX5_runScript_2 : decode cX5_runScript 2 = .ok (.if_icmp .ne 9, 3) := by decide +kernel
theorem dX5_runScript_5 : decode cX5_runScript 5 = .ok (.ldc2_w 172, 3) := by decide +kernel
theorem dX5_runScript_8 : decode cX5_runScript 8 = .ok (.goto 17, 3) := by decide +kernel
theorem dX5_runScript_11 : decode cX5_runScript 11 = .ok (.iload_n 1, 1) := by decide +kernel
theorem dX5_runScript_12 : decode cX5_runScript 12 = .ok (.iconst 2, 1) := by decide +kernel
theorem dX5_runScript_13 : decode cX5_runScript 13 = .ok (.if_icmp .ne 9, 3) := by decide +kernel
theorem dX5_runScript_16 : decode cX5_runScript 16 = .ok (.ldc2_w 174, 3) := by decide +kernel
theorem dX5_runScript_19 : decode cX5_runScript 19 = .ok (.goto 6, 3) := by decide +kernel
theorem dX5_runScript_22 : decode cX5_runScript 22 = .ok (.ldc2_w 176, 3) := by decide +kernel
theorem dX5_runScript_25 : decode cX5_runScript 25 = .ok (.lstore 4, 2) := by decide +kernel
theorem dX5_runScript_27 : decode cX5_runScript 27 = .ok (.aload_n 0, 1) := by decide +kernel
theorem dX5_runScript_28 : decode cX5_runScript 28 = .ok (.iload_n 1, 1) := by decide +kernel
theorem dX5_runScript_29 : decode cX5_runScript 29 = .ok (.iconst 1, 1) := by decide +kernel
theorem dX5_runScript_30 : decode cX5_runScript 30 = .ok (.if_icmp .lt 21, 3) := by decide +kernel
theorem dX5_runScript_33 : decode cX5_runScript 33 = .ok (.iload_n 1, 1) := by decide +kernel
theorem dX5_runScript_34 : decode cX5_runScript 34 = .ok (.iconst 3, 1) := by decide +kernel
theorem dX5_runScript_35 : decode cX5_runScript 35 = .ok (.if_icmp .gt 16, 3) := by decide +kernel
theorem dX5_runScript_38 : decode cX5_runScript 38 = .ok (.lload_n 2, 1) := by decide +kernel
theorem dX5_runScript_39 : decode cX5_runScript 39 = .ok (.lconst 0, 1) := by decide +kernel
theorem dX5_runScript_40 : decode cX5_runScript 40 = .ok (.lcmp, 1) := by decide +kernel
theorem dX5_runScript_41 : decode cX5_runScript 41 = .ok (.ifCond .lt 10, 3) := by decide +kernel
theorem dX5_runScript_44 : decode cX5_runScript 44 = .ok (.lload_n 2, 1) := by decide +kernel
theorem dX5_runScript_45 : decode cX5_runScript 45 = .ok (.lload 4, 2) := by decide +kernel
theorem dX5_runScript_47 : decode cX5_runScript 47 = .ok (.lcmp, 1) := by decide +kernel
theorem dX5_runScript_48 : decode cX5_runScript 48 = .ok (.ifCond .lt 7, 3) := by decide +kernel
theorem dX5_runScript_51 : decode cX5_runScript 51 = .ok (.iconst 1, 1) := by decide +kernel
theorem dX5_runScript_52 : decode cX5_runScript 52 = .ok (.goto 4, 3) := by decide +kernel
theorem dX5_runScript_55 : decode cX5_runScript 55 = .ok (.iconst 0, 1) := by decide +kernel
theorem dX5_runScript_56 : decode cX5_runScript 56 = .ok (.putfield 37, 3) := by decide +kernel
theorem dX5_runScript_59 : decode cX5_runScript 59 = .ok (.aload_n 0, 1) := by decide +kernel
theorem dX5_runScript_60 : decode cX5_runScript 60 = .ok (.getfield 37, 3) := by decide +kernel
theorem dX5_runScript_63 : decode cX5_runScript 63 = .ok (.ifCond .le 5, 3) := by decide +kernel
theorem dX5_runScript_66 : decode cX5_runScript 66 = .ok (.iconst 0, 1) := by decide +kernel
theorem dX5_runScript_67 : decode cX5_runScript 67 = .ok (.ireturn, 1) := by decide +kernel
theorem dX5_runScript_68 : decode cX5_runScript 68 = .ok (.aload_n 0, 1) := by decide +kernel
theorem dX5_runScript_69 : decode cX5_runScript 69 = .ok (.getfield 7, 3) := by decide +kernel
theorem dX5_runScript_72 : decode cX5_runScript 72 = .ok (.iconst 0, 1) := by decide +kernel
theorem dX5_runScript_73 : decode cX5_runScript 73 = .ok (.aload_n 0, 1) := by decide +kernel
theorem dX5_runScript_74 : decode cX5_runScript 74 = .ok (.getfield 16, 3) := by decide +kernel
theorem dX5_runScript_77 : decode cX5_runScript 77 = .ok (.iconst 0, 1) := by decide +kernel
theorem dX5_runScript_78 : decode cX5_runScript 78 = .ok (.invokestatic 69, 3) := by decide +kernel
theorem dX5_runScript_81 : decode cX5_runScript 81 = .ok (.iconst (-1), 1) := by decide +kernel
theorem dX5_runScript_82 : decode cX5_runScript 82 = .ok (.istore 6, 2) := by decide +kernel
theorem dX5_runScript_84 : decode cX5_runScript 84 = .ok (.lload 4, 2) := by decide +kernel
theorem dX5_runScript_86 : decode cX5_runScript 86 = .ok (.ldc2_w 172, 3) := by decide +kernel
theorem dX5_runScript_89 : decode cX5_runScript 89 = .ok (.ldiv, 1) := by decide +kernel
theorem dX5_runScript_90 : decode cX5_runScript 90 = .ok (.lstore 7, 2) := by decide +kernel
theorem dX5_runScript_92 : decode cX5_runScript 92 = .ok (.iconst 0, 1) := by decide +kernel
theorem dX5_runScript_93 : decode cX5_runScript 93 = .ok (.istore 9, 2) := by decide +kernel
theorem dX5_runScript_95 : decode cX5_runScript 95 = .ok (.iload 9, 2) := by decide +kernel
theorem dX5_runScript_97 : decode cX5_runScript 97 = .ok (.iload_n 1, 1) := by decide +kernel
theorem dX5_runScript_98 : decode cX5_runScript 98 = .ok (.if_icmp .ge 47, 3) := by decide +kernel
theorem dX5_runScript_101 : decode cX5_runScript 101 = .ok (.iload 6, 2) := by decide +kernel
theorem dX5_runScript_103 : decode cX5_runScript 103 = .ok (.iconst (-1), 1) := by decide +kernel
theorem dX5_runScript_104 : decode cX5_runScript 104 = .ok (.if_icmp .ne 41, 3) := by decide +kernel
theorem dX5_runScript_107 : decode cX5_runScript 107 = .ok (.aload_n 0, 1) := by decide +kernel
theorem dX5_runScript_108 : decode cX5_runScript 108 = .ok (.lload_n 2, 1) := by decide +kernel
theorem dX5_runScript_109 : decode cX5_runScript 109 = .ok (.lload 7, 2) := by decide +kernel
theorem dX5_runScript_111 : decode cX5_runScript 111 = .ok (.ldiv, 1) := by decide +kernel
theorem dX5_runScript_112 : decode cX5_runScript 112 = .ok (.ldc2_w 172, 3) := by decide +kernel
theorem dX5_runScript_115 : decode cX5_runScript 115 = .ok (.lrem, 1) := by decide +kernel
theorem dX5_runScript_116 : decode cX5_runScript 116 = .ok (.l2i, 1) := by decide +kernel
theorem dX5_runScript_117 : decode cX5_runScript 117 = .ok (.invokevirtual 178, 3) := by decide +kernel
theorem dX5_runScript_120 : decode cX5_runScript 120 = .ok (.ifCond .eq 7, 3) := by decide +kernel
theorem dX5_runScript_123 : decode cX5_runScript 123 = .ok (.iconst (-1), 1) := by decide +kernel
theorem dX5_runScript_124 : decode cX5_runScript 124 = .ok (.goto 5, 3) := by decide +kernel
theorem dX5_runScript_127 : decode cX5_runScript 127 = .ok (.iload 9, 2) := by decide +kernel
theorem dX5_runScript_129 : decode cX5_runScript 129 = .ok (.istore 6, 2) := by decide +kernel
theorem dX5_runScript_131 : decode cX5_runScript 131 = .ok (.lload 7, 2) := by decide +kernel
theorem dX5_runScript_133 : decode cX5_runScript 133 = .ok (.ldc2_w 172, 3) := by decide +kernel
theorem dX5_runScript_136 : decode cX5_runScript 136 = .ok (.ldiv, 1) := by decide +kernel
theorem dX5_runScript_137 : decode cX5_runScript 137 = .ok (.lstore 7, 2) := by decide +kernel
theorem dX5_runScript_139 : decode cX5_runScript 139 = .ok (.iinc 9 1, 3) := by decide +kernel
theorem dX5_runScript_142 : decode cX5_runScript 142 = .ok (.goto (-47), 3) := by decide +kernel
theorem dX5_runScript_145 : decode cX5_runScript 145 = .ok (.aload_n 0, 1) := by decide +kernel
theorem dX5_runScript_146 : decode cX5_runScript 146 = .ok (.getfield 16, 3) := by decide +kernel
theorem dX5_runScript_149 : decode cX5_runScript 149 = .ok (.iconst 0, 1) := by decide +kernel
theorem dX5_runScript_150 : decode cX5_runScript 150 = .ok (.aload_n 0, 1) := by decide +kernel
theorem dX5_runScript_151 : decode cX5_runScript 151 = .ok (.getfield 7, 3) := by decide +kernel
theorem dX5_runScript_154 : decode cX5_runScript 154 = .ok (.iconst 0, 1) := by decide +kernel
theorem dX5_runScript_155 : decode cX5_runScript 155 = .ok (.invokestatic 69, 3) := by decide +kernel
theorem dX5_runScript_158 : decode cX5_runScript 158 = .ok (.iload 6, 2) := by decide +kernel
theorem dX5_runScript_160 : decode cX5_runScript 160 = .ok (.ireturn, 1) := by decide +kernel
set_option maxRecDepth 20000 in
theorem ggX5_simulate_X5_within : GoodIn wsX5_simulate wsX5_within := goodIn_r _ [9] (by decide +kernel) (by decide +kernel)
set_option maxRecDepth 20000 in
theorem gX5_simulate_X5_within : GoodIn wsX5_simulate (va_wsS RX5 41 yX5_within wsX5_within) := goodIn_app (goodIn_of _ (by decide +kernel)) ggX5_simulate_X5_within
set_option maxRecDepth 20000 in
theorem ggX5_simulate_X5_copy : GoodIn wsX5_simulate wsX5_copy := goodIn_r _ [12] (by decide +kernel) (by decide +kernel)
set_option maxRecDepth 20000 in
theorem gX5_simulate_X5_copy : GoodIn wsX5_simulate (va_wsS RX5 69 yX5_copy wsX5_copy) := goodIn_app (goodIn_of _ (by decide +kernel)) ggX5_simulate_X5_copy
set_option maxRecDepth 20000 in
theorem ggX5_simulate_X5_setPart : GoodIn wsX5_simulate wsX5_setPart := goodIn_r _ [16, 2, 69, 70, 71, 72, 73, 74, 75, 76, 77, 78, 79, 80, 81] (by decide +kernel) (by decide +kernel)
set_option maxRecDepth 20000 in
theorem gX5_simulate_X5_setPart : GoodIn wsX5_simulate (wsV RX5 101 RX5 yX5_setPart wsX5_setPart) := goodIn_app (goodIn_of _ (by decide +kernel)) ggX5_simulate_X5_setPart
set_option maxRecDepth 20000 in
theorem ggX5_simulate_X5_laid : GoodIn wsX5_simulate wsX5_laid := goodIn_r _ [20, 2, 21, 22, 23, 8, 24, 25, 26, 27, 28, 29, 30, 31, 32, 13, 14, 15, 16, 33, 34, 35, 36, 37, 38, 39, 40, 6, 7, 9, 41, 42, 43, 44, 69, 70, 71, 72, 73, 74, 75, 76, 77, 78, 79, 80, 81] (by decide +kernel) (by decide +kernel)
set_option maxRecDepth 20000 in
theorem gX5_simulate_X5_laid : GoodIn wsX5_simulate (wsV RX5 127 RX5 yX5_laid wsX5_laid) := goodIn_app (goodIn_of _ (by decide +kernel)) ggX5_simulate_X5_laid
set_option maxRecDepth 20000 in
theorem ggX5_simulate_X5_runs : GoodIn wsX5_simulate wsX5_runs := goodIn_r _ [48, 2, 37, 38, 39, 8, 40, 6, 7, 9, 29, 30, 31, 32, 49, 50, 51, 52, 53, 54, 55, 56, 57, 58, 59, 60, 13, 14, 15, 16, 25, 26, 27, 28, 61, 62, 63, 64, 69, 70, 71, 72, 73, 74, 75, 76, 77, 78, 79, 80, 81] (by decide +kernel) (by decide +kernel)
set_option maxRecDepth 20000 in
theorem gX5_simulate_X5_runs : GoodIn wsX5_simulate (wsV RX5 141 RX5 yX5_runs wsX5_runs) := goodIn_app (goodIn_of _ (by decide +kernel)) ggX5_simulate_X5_runs
set_option maxRecDepth 20000 in
theorem ggX5_simulate_X5_refundedAll : GoodIn wsX5_simulate wsX5_refundedAll := goodIn_r _ [68, 2, 69, 70, 71, 72, 73, 74, 75, 76, 77, 78, 79, 80, 81] (by decide +kernel) (by decide +kernel)
set_option maxRecDepth 20000 in
theorem gX5_simulate_X5_refundedAll : GoodIn wsX5_simulate (wsV RX5 83 RX5 yX5_refundedAll wsX5_refundedAll) := goodIn_app (goodIn_of _ (by decide +kernel)) ggX5_simulate_X5_refundedAll
theorem dX5_simulate_0 : decode cX5_simulate 0 = .ok (.aload_n 0, 1) := by decide +kernel
theorem dX5_simulate_1 : decode cX5_simulate 1 = .ok (.iload_n 3, 1) := by decide +kernel
theorem dX5_simulate_2 : decode cX5_simulate 2 = .ok (.iconst 1, 1) := by decide +kernel
theorem dX5_simulate_3 : decode cX5_simulate 3 = .ok (.bipush 50, 2) := by decide +kernel
theorem dX5_simulate_5 : decode cX5_simulate 5 = .ok (.invokestatic 41, 3) := by decide +kernel
theorem dX5_simulate_8 : decode cX5_simulate 8 = .ok (.ifCond .eq 7, 3) := by decide +kernel
theorem dX5_simulate_11 : decode cX5_simulate 11 = .ok (.iconst 0, 1) := by decide +kernel
theorem dX5_simulate_12 : decode cX5_simulate 12 = .ok (.goto 4, 3) := by decide +kernel
theorem dX5_simulate_15 : decode cX5_simulate 15 = .ok (.iconst 1, 1) := by decide +kernel
theorem dX5_simulate_16 : decode cX5_simulate 16 = .ok (.putfield 37, 3) := by decide +kernel
theorem dX5_simulate_19 : decode cX5_simulate 19 = .ok (.aload_n 0, 1) := by decide +kernel
theorem dX5_simulate_20 : decode cX5_simulate 20 = .ok (.getfield 37, 3) := by decide +kernel
theorem dX5_simulate_23 : decode cX5_simulate 23 = .ok (.ifCond .le 5, 3) := by decide +kernel
theorem dX5_simulate_26 : decode cX5_simulate 26 = .ok (.iconst 0, 1) := by decide +kernel
theorem dX5_simulate_27 : decode cX5_simulate 27 = .ok (.ireturn, 1) := by decide +kernel
theorem dX5_simulate_28 : decode cX5_simulate 28 = .ok (.aload_n 0, 1) := by decide +kernel
theorem dX5_simulate_29 : decode cX5_simulate 29 = .ok (.getfield 7, 3) := by decide +kernel
theorem dX5_simulate_32 : decode cX5_simulate 32 = .ok (.iconst 0, 1) := by decide +kernel
theorem dX5_simulate_33 : decode cX5_simulate 33 = .ok (.aload_n 0, 1) := by decide +kernel
theorem dX5_simulate_34 : decode cX5_simulate 34 = .ok (.getfield 16, 3) := by decide +kernel
theorem dX5_simulate_37 : decode cX5_simulate 37 = .ok (.iconst 0, 1) := by decide +kernel
theorem dX5_simulate_38 : decode cX5_simulate 38 = .ok (.invokestatic 69, 3) := by decide +kernel
theorem dX5_simulate_41 : decode cX5_simulate 41 = .ok (.lload_n 1, 1) := by decide +kernel
theorem dX5_simulate_42 : decode cX5_simulate 42 = .ok (.lstore 4, 2) := by decide +kernel
theorem dX5_simulate_44 : decode cX5_simulate 44 = .ok (.iconst 0, 1) := by decide +kernel
theorem dX5_simulate_45 : decode cX5_simulate 45 = .ok (.istore 6, 2) := by decide +kernel
theorem dX5_simulate_47 : decode cX5_simulate 47 = .ok (.iconst 0, 1) := by decide +kernel
theorem dX5_simulate_48 : decode cX5_simulate 48 = .ok (.istore 7, 2) := by decide +kernel
theorem dX5_simulate_50 : decode cX5_simulate 50 = .ok (.iload 7, 2) := by decide +kernel
theorem dX5_simulate_52 : decode cX5_simulate 52 = .ok (.iload_n 3, 1) := by decide +kernel
theorem dX5_simulate_53 : decode cX5_simulate 53 = .ok (.if_icmp .ge 106, 3) := by decide +kernel
theorem dX5_simulate_56 : decode cX5_simulate 56 = .ok (.aload_n 0, 1) := by decide +kernel
theorem dX5_simulate_57 : decode cX5_simulate 57 = .ok (.getfield 7, 3) := by decide +kernel
theorem dX5_simulate_60 : decode cX5_simulate 60 = .ok (.iconst 2, 1) := by decide +kernel
theorem dX5_simulate_61 : decode cX5_simulate 61 = .ok (.iaload, 1) := by decide +kernel
theorem dX5_simulate_62 : decode cX5_simulate 62 = .ok (.ifCond .le 97, 3) := by decide +kernel
theorem dX5_simulate_65 : decode cX5_simulate 65 = .ok (.lload 4, 2) := by decide +kernel
theorem dX5_simulate_67 : decode cX5_simulate 67 = .ok (.ldc2_w 181, 3) := by decide +kernel
theorem dX5_simulate_70 : decode cX5_simulate 70 = .ok (.lmul, 1) := by decide +kernel
theorem dX5_simulate_71 : decode cX5_simulate 71 = .ok (.ldc2_w 183, 3) := by decide +kernel
theorem dX5_simulate_74 : decode cX5_simulate 74 = .ok (.ladd, 1) := by decide +kernel
theorem dX5_simulate_75 : decode cX5_simulate 75 = .ok (.lstore 4, 2) := by decide +kernel
theorem dX5_simulate_77 : decode cX5_simulate 77 = .ok (.lload 4, 2) := by decide +kernel
theorem dX5_simulate_79 : decode cX5_simulate 79 = .ok (.bipush 33, 2) := by decide +kernel
theorem dX5_simulate_81 : decode cX5_simulate 81 = .ok (.lushr, 1) := by decide +kernel
theorem dX5_simulate_82 : decode cX5_simulate 82 = .ok (.l2i, 1) := by decide +kernel
theorem dX5_simulate_83 : decode cX5_simulate 83 = .ok (.istore 8, 2) := by decide +kernel
theorem dX5_simulate_85 : decode cX5_simulate 85 = .ok (.aload_n 0, 1) := by decide +kernel
theorem dX5_simulate_86 : decode cX5_simulate 86 = .ok (.iload 8, 2) := by decide +kernel
theorem dX5_simulate_88 : decode cX5_simulate 88 = .ok (.bipush 16, 2) := by decide +kernel
theorem dX5_simulate_90 : decode cX5_simulate 90 = .ok (.idiv, 1) := by decide +kernel
theorem dX5_simulate_91 : decode cX5_simulate 91 = .ok (.aload_n 0, 1) := by decide +kernel
theorem dX5_simulate_92 : decode cX5_simulate 92 = .ok (.getfield 7, 3) := by decide +kernel
theorem dX5_simulate_95 : decode cX5_simulate 95 = .ok (.iconst 2, 1) := by decide +kernel
theorem dX5_simulate_96 : decode cX5_simulate 96 = .ok (.iaload, 1) := by decide +kernel
theorem dX5_simulate_97 : decode cX5_simulate 97 = .ok (.irem, 1) := by decide +kernel
theorem dX5_simulate_98 : decode cX5_simulate 98 = .ok (.iconst 4, 1) := by decide +kernel
theorem dX5_simulate_99 : decode cX5_simulate 99 = .ok (.iload 8, 2) := by decide +kernel
theorem dX5_simulate_101 : decode cX5_simulate 101 = .ok (.sipush 1024, 3) := by decide +kernel
theorem dX5_simulate_104 : decode cX5_simulate 104 = .ok (.idiv, 1) := by decide +kernel
theorem dX5_simulate_105 : decode cX5_simulate 105 = .ok (.bipush 100, 2) := by decide +kernel
theorem dX5_simulate_107 : decode cX5_simulate 107 = .ok (.irem, 1) := by decide +kernel
theorem dX5_simulate_108 : decode cX5_simulate 108 = .ok (.invokevirtual 101, 3) := by decide +kernel
theorem dX5_simulate_111 : decode cX5_simulate 111 = .ok (.iload 8, 2) := by decide +kernel
theorem dX5_simulate_113 : decode cX5_simulate 113 = .ok (.iconst 4, 1) := by decide +kernel
theorem dX5_simulate_114 : decode cX5_simulate 114 = .ok (.irem, 1) := by decide +kernel
theorem dX5_simulate_115 : decode cX5_simulate 115 = .ok (.ifCond .ne 8, 3) := by decide +kernel
theorem dX5_simulate_118 : decode cX5_simulate 118 = .ok (.aload_n 0, 1) := by decide +kernel
theorem dX5_simulate_119 : decode cX5_simulate 119 = .ok (.invokevirtual 127, 3) := by decide +kernel
theorem dX5_simulate_122 : decode cX5_simulate 122 = .ok (.pop, 1) := by decide +kernel
theorem dX5_simulate_123 : decode cX5_simulate 123 = .ok (.iload 6, 2) := by decide +kernel
theorem dX5_simulate_125 : decode cX5_simulate 125 = .ok (.aload_n 0, 1) := by decide +kernel
theorem dX5_simulate_126 : decode cX5_simulate 126 = .ok (.iload 8, 2) := by decide +kernel
theorem dX5_simulate_128 : decode cX5_simulate 128 = .ok (.sipush 256, 3) := by decide +kernel
theorem dX5_simulate_131 : decode cX5_simulate 131 = .ok (.idiv, 1) := by decide +kernel
theorem dX5_simulate_132 : decode cX5_simulate 132 = .ok (.aload_n 0, 1) := by decide +kernel
theorem dX5_simulate_133 : decode cX5_simulate 133 = .ok (.getfield 7, 3) := by decide +kernel
theorem dX5_simulate_136 : decode cX5_simulate 136 = .ok (.iconst 2, 1) := by decide +kernel
theorem dX5_simulate_137 : decode cX5_simulate 137 = .ok (.iaload, 1) := by decide +kernel
theorem dX5_simulate_138 : decode cX5_simulate 138 = .ok (.irem, 1) := by decide +kernel
theorem dX5_simulate_139 : decode cX5_simulate 139 = .ok (.invokevirtual 141, 3) := by decide +kernel
theorem dX5_simulate_142 : decode cX5_simulate 142 = .ok (.ifCond .ne 7, 3) := by decide +kernel
theorem dX5_simulate_145 : decode cX5_simulate 145 = .ok (.iconst 1, 1) := by decide +kernel
theorem dX5_simulate_146 : decode cX5_simulate 146 = .ok (.goto 4, 3) := by decide +kernel
theorem dX5_simulate_149 : decode cX5_simulate 149 = .ok (.iconst 0, 1) := by decide +kernel
theorem dX5_simulate_150 : decode cX5_simulate 150 = .ok (.iadd, 1) := by decide +kernel
theorem dX5_simulate_151 : decode cX5_simulate 151 = .ok (.istore 6, 2) := by decide +kernel
theorem dX5_simulate_153 : decode cX5_simulate 153 = .ok (.iinc 7 1, 3) := by decide +kernel
theorem dX5_simulate_156 : decode cX5_simulate 156 = .ok (.goto (-106), 3) := by decide +kernel
theorem dX5_simulate_159 : decode cX5_simulate 159 = .ok (.aload_n 0, 1) := by decide +kernel
theorem dX5_simulate_160 : decode cX5_simulate 160 = .ok (.invokevirtual 83, 3) := by decide +kernel
theorem dX5_simulate_163 : decode cX5_simulate 163 = .ok (.istore 7, 2) := by decide +kernel
theorem dX5_simulate_165 : decode cX5_simulate 165 = .ok (.aload_n 0, 1) := by decide +kernel
theorem dX5_simulate_166 : decode cX5_simulate 166 = .ok (.getfield 16, 3) := by decide +kernel
theorem dX5_simulate_169 : decode cX5_simulate 169 = .ok (.iconst 0, 1) := by decide +kernel
theorem dX5_simulate_170 : decode cX5_simulate 170 = .ok (.aload_n 0, 1) := by decide +kernel
theorem dX5_simulate_171 : decode cX5_simulate 171 = .ok (.getfield 7, 3) := by decide +kernel
theorem dX5_simulate_174 : decode cX5_simulate 174 = .ok (.iconst 0, 1) := by decide +kernel
theorem dX5_simulate_175 : decode cX5_simulate 175 = .ok (.invokestatic 69, 3) := by decide +kernel
theorem dX5_simulate_178 : decode cX5_simulate 178 = .ok (.iload 7, 2) := by decide +kernel
theorem dX5_simulate_180 : decode cX5_simulate 180 = .ok (.aload_n 0, 1) := by decide +kernel
theorem dX5_simulate_181 : decode cX5_simulate 181 = .ok (.invokevirtual 83, 3) := by decide +kernel
theorem dX5_simulate_184 : decode cX5_simulate 184 = .ok (.isub, 1) := by decide +kernel
theorem dX5_simulate_185 : decode cX5_simulate 185 = .ok (.istore 7, 2) := by decide +kernel
theorem dX5_simulate_187 : decode cX5_simulate 187 = .ok (.sipush 1000, 3) := by decide +kernel
theorem dX5_simulate_190 : decode cX5_simulate 190 = .ok (.iload 6, 2) := by decide +kernel
theorem dX5_simulate_192 : decode cX5_simulate 192 = .ok (.imul, 1) := by decide +kernel
theorem dX5_simulate_193 : decode cX5_simulate 193 = .ok (.iload 7, 2) := by decide +kernel
theorem dX5_simulate_195 : decode cX5_simulate 195 = .ok (.sipush 999, 3) := by decide +kernel
theorem dX5_simulate_198 : decode cX5_simulate 198 = .ok (.if_icmp .ge 8, 3) := by decide +kernel
theorem dX5_simulate_201 : decode cX5_simulate 201 = .ok (.iload 7, 2) := by decide +kernel
theorem dX5_simulate_203 : decode cX5_simulate 203 = .ok (.goto 6, 3) := by decide +kernel
theorem dX5_simulate_206 : decode cX5_simulate 206 = .ok (.sipush 999, 3) := by decide +kernel
theorem dX5_simulate_209 : decode cX5_simulate 209 = .ok (.iadd, 1) := by decide +kernel
theorem dX5_simulate_210 : decode cX5_simulate 210 = .ok (.ireturn, 1) := by decide +kernel
theorem dX5_isSlot_0 : decode cX5_isSlot 0 = .ok (.iload_n 0, 1) := by decide +kernel
theorem dX5_isSlot_1 : decode cX5_isSlot 1 = .ok (.ifCond .eq 8, 3) := by decide +kernel
theorem dX5_isSlot_4 : decode cX5_isSlot 4 = .ok (.iload_n 0, 1) := by decide +kernel
theorem dX5_isSlot_5 : decode cX5_isSlot 5 = .ok (.iconst 1, 1) := by decide +kernel
theorem dX5_isSlot_6 : decode cX5_isSlot 6 = .ok (.if_icmp .ne 7, 3) := by decide +kernel
theorem dX5_isSlot_9 : decode cX5_isSlot 9 = .ok (.iconst 1, 1) := by decide +kernel
theorem dX5_isSlot_10 : decode cX5_isSlot 10 = .ok (.goto 4, 3) := by decide +kernel
theorem dX5_isSlot_13 : decode cX5_isSlot 13 = .ok (.iconst 0, 1) := by decide +kernel
theorem dX5_isSlot_14 : decode cX5_isSlot 14 = .ok (.ireturn, 1) := by decide +kernel
set_option maxRecDepth 20000 in
theorem ggX5_save_X5_isSlot : GoodIn wsX5_save wsX5_isSlot := goodIn_r _ [8] (by decide +kernel) (by decide +kernel)
set_option maxRecDepth 20000 in
theorem gX5_save_X5_isSlot : GoodIn wsX5_save (va_wsS RX5 185 yX5_isSlot wsX5_isSlot) := goodIn_app (goodIn_of _ (by decide +kernel)) ggX5_save_X5_isSlot
set_option maxRecDepth 20000 in
theorem ggX5_save_X5_copy : GoodIn wsX5_save wsX5_copy := goodIn_r _ [11] (by decide +kernel) (by decide +kernel)
set_option maxRecDepth 20000 in
theorem gX5_save_X5_copy : GoodIn wsX5_save (va_wsS RX5 69 yX5_copy wsX5_copy) := goodIn_app (goodIn_of _ (by decide +kernel)) ggX5_save_X5_copy
theorem dX5_save_0 : decode cX5_save 0 = .ok (.aload_n 0, 1) := by decide +kernel
theorem dX5_save_1 : decode cX5_save 1 = .ok (.iload_n 1, 1) := by decide +kernel
theorem dX5_save_2 : decode cX5_save 2 = .ok (.invokestatic 185, 3) := by decide +kernel
theorem dX5_save_5 : decode cX5_save 5 = .ok (.ifCond .eq 7, 3) := by decide +kernel
theorem dX5_save_8 : decode cX5_save 8 = .ok (.iconst 0, 1) := by decide +kernel
theorem dX5_save_9 : decode cX5_save 9 = .ok (.goto 4, 3) := by decide +kernel
theorem dX5_save_12 : decode cX5_save 12 = .ok (.iconst 1, 1) := by decide +kernel
theorem dX5_save_13 : decode cX5_save 13 = .ok (.putfield 37, 3) := by decide +kernel
theorem dX5_save_16 : decode cX5_save 16 = .ok (.aload_n 0, 1) := by decide +kernel
theorem dX5_save_17 : decode cX5_save 17 = .ok (.getfield 37, 3) := by decide +kernel
theorem dX5_save_20 : decode cX5_save 20 = .ok (.ifCond .le 5, 3) := by decide +kernel
theorem dX5_save_23 : decode cX5_save 23 = .ok (.iconst 0, 1) := by decide +kernel
theorem dX5_save_24 : decode cX5_save 24 = .ok (.ireturn, 1) := by decide +kernel
theorem dX5_save_25 : decode cX5_save 25 = .ok (.aload_n 0, 1) := by decide +kernel
theorem dX5_save_26 : decode cX5_save 26 = .ok (.getfield 7, 3) := by decide +kernel
theorem dX5_save_29 : decode cX5_save 29 = .ok (.iconst 0, 1) := by decide +kernel
theorem dX5_save_30 : decode cX5_save 30 = .ok (.aload_n 0, 1) := by decide +kernel
theorem dX5_save_31 : decode cX5_save 31 = .ok (.getfield 25, 3) := by decide +kernel
theorem dX5_save_34 : decode cX5_save 34 = .ok (.sipush 925, 3) := by decide +kernel
theorem dX5_save_37 : decode cX5_save 37 = .ok (.iload_n 1, 1) := by decide +kernel
theorem dX5_save_38 : decode cX5_save 38 = .ok (.imul, 1) := by decide +kernel
theorem dX5_save_39 : decode cX5_save 39 = .ok (.invokestatic 69, 3) := by decide +kernel
theorem dX5_save_42 : decode cX5_save 42 = .ok (.aload_n 0, 1) := by decide +kernel
theorem dX5_save_43 : decode cX5_save 43 = .ok (.getfield 28, 3) := by decide +kernel
theorem dX5_save_46 : decode cX5_save 46 = .ok (.iload_n 1, 1) := by decide +kernel
theorem dX5_save_47 : decode cX5_save 47 = .ok (.iconst 1, 1) := by decide +kernel
theorem dX5_save_48 : decode cX5_save 48 = .ok (.iastore, 1) := by decide +kernel
theorem dX5_save_49 : decode cX5_save 49 = .ok (.aload_n 0, 1) := by decide +kernel
theorem dX5_save_50 : decode cX5_save 50 = .ok (.getfield 7, 3) := by decide +kernel
theorem dX5_save_53 : decode cX5_save 53 = .ok (.iconst 2, 1) := by decide +kernel
theorem dX5_save_54 : decode cX5_save 54 = .ok (.iaload, 1) := by decide +kernel
theorem dX5_save_55 : decode cX5_save 55 = .ok (.ireturn, 1) := by decide +kernel
set_option maxRecDepth 20000 in
theorem ggX5_restore_X5_isSlot : GoodIn wsX5_restore wsX5_isSlot := goodIn_r _ [9] (by decide +kernel) (by decide +kernel)
set_option maxRecDepth 20000 in
theorem gX5_restore_X5_isSlot : GoodIn wsX5_restore (va_wsS RX5 185 yX5_isSlot wsX5_isSlot) := goodIn_app (goodIn_of _ (by decide +kernel)) ggX5_restore_X5_isSlot
set_option maxRecDepth 20000 in
theorem ggX5_restore_X5_copy : GoodIn wsX5_restore wsX5_copy := goodIn_r _ [12] (by decide +kernel) (by decide +kernel)
set_option maxRecDepth 20000 in
theorem gX5_restore_X5_copy : GoodIn wsX5_restore (va_wsS RX5 69 yX5_copy wsX5_copy) := goodIn_app (goodIn_of _ (by decide +kernel)) ggX5_restore_X5_copy
theorem dX5_restore_0 : decode cX5_restore 0 = .ok (.aload_n 0, 1) := by decide +kernel
theorem dX5_restore_1 : decode cX5_restore 1 = .ok (.iload_n 1, 1) := by decide +kernel
theorem dX5_restore_2 : decode cX5_restore 2 = .ok (.invokestatic 185, 3) := by decide +kernel
theorem dX5_restore_5 : decode cX5_restore 5 = .ok (.ifCond .ne 7, 3) := by decide +kernel
theorem dX5_restore_8 : decode cX5_restore 8 = .ok (.iconst 1, 1) := by decide +kernel
theorem dX5_restore_9 : decode cX5_restore 9 = .ok (.goto 18, 3) := by decide +kernel
theorem dX5_restore_12 : decode cX5_restore 12 = .ok (.aload_n 0, 1) := by decide +kernel
theorem dX5_restore_13 : decode cX5_restore 13 = .ok (.getfield 28, 3) := by decide +kernel
theorem dX5_restore_16 : decode cX5_restore 16 = .ok (.iload_n 1, 1) := by decide +kernel
theorem dX5_restore_17 : decode cX5_restore 17 = .ok (.iaload, 1) := by decide +kernel
theorem dX5_restore_18 : decode cX5_restore 18 = .ok (.iconst 1, 1) := by decide +kernel
theorem dX5_restore_19 : decode cX5_restore 19 = .ok (.if_icmp .ne 7, 3) := by decide +kernel
theorem dX5_restore_22 : decode cX5_restore 22 = .ok (.iconst 0, 1) := by decide +kernel
theorem dX5_restore_23 : decode cX5_restore 23 = .ok (.goto 4, 3) := by decide +kernel
theorem dX5_restore_26 : decode cX5_restore 26 = .ok (.iconst 2, 1) := by decide +kernel
theorem dX5_restore_27 : decode cX5_restore 27 = .ok (.putfield 37, 3) := by decide +kernel
theorem dX5_restore_30 : decode cX5_restore 30 = .ok (.aload_n 0, 1) := by decide +kernel
theorem dX5_restore_31 : decode cX5_restore 31 = .ok (.getfield 37, 3) := by decide +kernel
theorem dX5_restore_34 : decode cX5_restore 34 = .ok (.ifCond .le 5, 3) := by decide +kernel
theorem dX5_restore_37 : decode cX5_restore 37 = .ok (.iconst 0, 1) := by decide +kernel
theorem dX5_restore_38 : decode cX5_restore 38 = .ok (.ireturn, 1) := by decide +kernel
theorem dX5_restore_39 : decode cX5_restore 39 = .ok (.aload_n 0, 1) := by decide +kernel
theorem dX5_restore_40 : decode cX5_restore 40 = .ok (.getfield 25, 3) := by decide +kernel
theorem dX5_restore_43 : decode cX5_restore 43 = .ok (.sipush 925, 3) := by decide +kernel
theorem dX5_restore_46 : decode cX5_restore 46 = .ok (.iload_n 1, 1) := by decide +kernel
theorem dX5_restore_47 : decode cX5_restore 47 = .ok (.imul, 1) := by decide +kernel
theorem dX5_restore_48 : decode cX5_restore 48 = .ok (.aload_n 0, 1) := by decide +kernel
theorem dX5_restore_49 : decode cX5_restore 49 = .ok (.getfield 7, 3) := by decide +kernel
theorem dX5_restore_52 : decode cX5_restore 52 = .ok (.iconst 0, 1) := by decide +kernel
theorem dX5_restore_53 : decode cX5_restore 53 = .ok (.invokestatic 69, 3) := by decide +kernel
theorem dX5_restore_56 : decode cX5_restore 56 = .ok (.aload_n 0, 1) := by decide +kernel
theorem dX5_restore_57 : decode cX5_restore 57 = .ok (.iconst 0, 1) := by decide +kernel
theorem dX5_restore_58 : decode cX5_restore 58 = .ok (.putfield 73, 3) := by decide +kernel
theorem dX5_restore_61 : decode cX5_restore 61 = .ok (.aload_n 0, 1) := by decide +kernel
theorem dX5_restore_62 : decode cX5_restore 62 = .ok (.getfield 7, 3) := by decide +kernel
theorem dX5_restore_65 : decode cX5_restore 65 = .ok (.iconst 2, 1) := by decide +kernel
theorem dX5_restore_66 : decode cX5_restore 66 = .ok (.iaload, 1) := by decide +kernel
theorem dX5_restore_67 : decode cX5_restore 67 = .ok (.ireturn, 1) := by decide +kernel
