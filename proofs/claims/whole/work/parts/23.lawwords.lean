theorem wl_mem {big ws : List Cond} (ps : List Nat) (hp : ws = ps.filterMap (fun i => big[i]?)) : ∀ w ∈ ws, w ∈ big := by
  intro w hw
  rw [hp] at hw
  obtain ⟨i, -, hi⟩ := List.mem_filterMap.mp hw
  exact List.mem_of_getElem? hi
set_option maxRecDepth 20000 in
theorem wsL_law0_r1_in : ∀ w ∈ wsL_law0_r1, w ∈ lw_tbl := wl_mem [71, 72, 58, 797, 798, 63, 1116, 1115, 73, 74, 75, 76, 77, 78, 79, 80, 59, 205, 93, 94, 60, 206, 207, 208] (by decide +kernel)
set_option maxRecDepth 20000 in
theorem wsL_law0_r2_in : ∀ w ∈ wsL_law0_r2, w ∈ lw_tbl := wl_mem [185, 186, 62, 209, 210, 227, 211, 82, 83, 84, 92, 85, 96, 97, 98, 120, 126, 128, 130, 132, 134, 136, 138, 140] (by decide +kernel)
set_option maxRecDepth 20000 in
theorem wsL_law0_r3_in : ∀ w ∈ wsL_law0_r3, w ∈ lw_tbl := wl_mem [142, 144, 146, 148, 99, 100, 61, 150, 102, 103, 104, 105, 106, 107, 187, 188, 189, 190, 191, 194, 799, 800, 801, 802] (by decide +kernel)
set_option maxRecDepth 20000 in
theorem wsL_law0_r4_in : ∀ w ∈ wsL_law0_r4, w ∈ lw_tbl := wl_mem [804, 805, 806, 807, 808, 810, 811, 812, 814, 331, 332, 57, 333, 334, 335, 336, 337, 338, 339, 340, 67, 412, 68, 408] (by decide +kernel)
set_option maxRecDepth 20000 in
theorem wsL_law0_r5_in : ∀ w ∈ wsL_law0_r5, w ∈ lw_tbl := wl_mem [409, 410, 411, 86, 428, 429, 430, 431, 847, 848, 849, 850, 813, 803, 851, 852, 853, 843, 844, 845, 846, 228, 229, 230] (by decide +kernel)
set_option maxRecDepth 20000 in
theorem wsL_law0_r6_in : ∀ w ∈ wsL_law0_r6, w ∈ lw_tbl := wl_mem [231, 232, 233, 234, 235, 854, 855, 856, 857, 236, 237, 238, 239, 240, 241, 242, 243, 244, 246, 0, 247, 248, 250, 1] (by decide +kernel)
set_option maxRecDepth 20000 in
theorem wsL_law0_r7_in : ∀ w ∈ wsL_law0_r7, w ∈ lw_tbl := wl_mem [251, 252, 254, 2, 255, 256, 257, 258, 259, 260, 261, 858, 859, 860, 861, 862, 864, 23, 865, 866, 868, 24, 869, 870] (by decide +kernel)
set_option maxRecDepth 20000 in
theorem wsL_law0_r8_in : ∀ w ∈ wsL_law0_r8, w ∈ lw_tbl := wl_mem [872, 25, 873, 874, 876, 26, 877, 878, 880, 27, 881, 882, 884, 28, 885, 432, 433, 434, 435, 436, 437, 438, 440, 441] (by decide +kernel)
set_option maxRecDepth 20000 in
theorem wsL_law0_r9_in : ∀ w ∈ wsL_law0_r9, w ∈ lw_tbl := wl_mem [442, 443, 444, 446, 8, 447, 448, 450, 9, 451, 452, 453, 454, 455, 122, 124, 456, 457, 458, 459, 460, 461, 462, 463] (by decide +kernel)
set_option maxRecDepth 20000 in
theorem wsL_law0_r10_in : ∀ w ∈ wsL_law0_r10, w ∈ lw_tbl := wl_mem [195, 196, 886, 887, 888, 889, 809, 890, 891, 892, 464, 465, 466, 467, 468, 469, 470, 471, 317, 318, 319, 320, 321, 69] (by decide +kernel)
set_option maxRecDepth 20000 in
theorem wsL_law0_r11_in : ∀ w ∈ wsL_law0_r11, w ∈ lw_tbl := wl_mem [322, 472, 473, 474, 475, 289, 290, 291, 292, 476, 477, 478, 893, 894, 895, 896, 897, 899, 29, 900, 901, 903, 30, 904] (by decide +kernel)
set_option maxRecDepth 20000 in
theorem wsL_law0_r12_in : ∀ w ∈ wsL_law0_r12, w ∈ lw_tbl := wl_mem [905, 907, 31, 908, 480, 481, 482, 483, 484, 485, 486, 487, 489, 70, 488, 909, 910, 911, 912, 913, 915, 32, 916, 506] (by decide +kernel)
set_option maxRecDepth 20000 in
theorem wsL_law0_r13_in : ∀ w ∈ wsL_law0_r13, w ∈ lw_tbl := wl_mem [507, 508, 509, 510, 511, 512, 513, 302, 303, 515, 516, 517, 518, 917, 918, 919, 920, 921, 922, 923, 520, 521, 522, 523] (by decide +kernel)
set_option maxRecDepth 20000 in
theorem wsL_law0_r14_in : ∀ w ∈ wsL_law0_r14, w ∈ lw_tbl := wl_mem [524, 525, 526, 527, 528, 529, 530, 532, 328, 329, 330, 924, 925, 926, 927, 928, 930, 33, 931, 932, 934, 34, 935, 533] (by decide +kernel)
set_option maxRecDepth 20000 in
theorem wsL_law0_r15_in : ∀ w ∈ wsL_law0_r15, w ∈ lw_tbl := wl_mem [534, 535, 536, 537, 538, 539, 541, 542, 543, 544, 108, 936, 937, 938, 939, 545, 546, 547, 548, 549, 550, 551, 552, 553] (by decide +kernel)
set_option maxRecDepth 20000 in
theorem wsL_law0_r16_in : ∀ w ∈ wsL_law0_r16, w ∈ lw_tbl := wl_mem [554, 555, 940, 941, 942, 943, 944, 946, 35, 947, 556, 557, 558, 559, 560, 561, 562, 563, 564, 565, 566, 567, 948, 949] (by decide +kernel)
set_option maxRecDepth 20000 in
theorem wsL_law0_r17_in : ∀ w ∈ wsL_law0_r17, w ∈ lw_tbl := wl_mem [950, 951, 568, 569, 570, 571, 572, 573, 574, 266, 267, 268, 269, 270, 271, 272, 273, 274, 275, 276, 277, 278, 279, 280] (by decide +kernel)
set_option maxRecDepth 20000 in
theorem wsL_law0_r18_in : ∀ w ∈ wsL_law0_r18, w ∈ lw_tbl := wl_mem [576, 286, 287, 288, 293, 294, 295, 296, 297, 299, 3, 300, 952, 953, 954, 955, 956, 958, 36, 959, 960, 962, 37, 963] (by decide +kernel)
set_option maxRecDepth 20000 in
theorem wsL_law0_r19_in : ∀ w ∈ wsL_law0_r19, w ∈ lw_tbl := wl_mem [964, 966, 38, 967, 968, 970, 39, 971, 577, 578, 579, 580, 581, 582, 583, 584, 585, 586, 587, 588, 589, 590, 591, 592] (by decide +kernel)
set_option maxRecDepth 20000 in
theorem wsL_law0_r20_in : ∀ w ∈ wsL_law0_r20, w ∈ lw_tbl := wl_mem [595, 972, 973, 974, 975, 976, 977, 978, 596, 597, 598, 599, 600, 601, 602, 603, 604, 605, 607, 608, 609, 610, 611, 613] (by decide +kernel)
set_option maxRecDepth 20000 in
theorem wsL_law0_r21_in : ∀ w ∈ wsL_law0_r21, w ∈ lw_tbl := wl_mem [10, 614, 979, 980, 981, 982, 615, 616, 617, 618, 619, 620, 621, 623, 624, 625, 626, 327, 628, 983, 984, 985, 986, 987] (by decide +kernel)
set_option maxRecDepth 20000 in
theorem wsL_law0_r22_in : ∀ w ∈ wsL_law0_r22, w ∈ lw_tbl := wl_mem [989, 40, 990, 991, 993, 41, 994, 262, 263, 264, 265, 281, 282, 283, 284, 285, 304, 306, 4, 307, 308, 310, 5, 311] (by decide +kernel)
set_option maxRecDepth 20000 in
theorem wsL_law0_r23_in : ∀ w ∈ wsL_law0_r23, w ∈ lw_tbl := wl_mem [312, 314, 6, 315, 316, 323, 324, 325, 326, 995, 996, 997, 998, 999, 1001, 42, 1002, 1003, 1005, 43, 1006, 629, 630, 631] (by decide +kernel)
set_option maxRecDepth 20000 in
theorem wsL_law0_r24_in : ∀ w ∈ wsL_law0_r24, w ∈ lw_tbl := wl_mem [632, 633, 634, 635, 636, 637, 638, 639, 640, 642, 11, 643, 644, 645, 646, 647, 1007, 1008, 1009, 1010, 1011, 1013, 44, 1014] (by decide +kernel)
set_option maxRecDepth 20000 in
theorem wsL_law0_r25_in : ∀ w ∈ wsL_law0_r25, w ∈ lw_tbl := wl_mem [1015, 1017, 45, 1018, 1019, 1021, 46, 1022, 1023, 1025, 47, 1026, 648, 649, 650, 651, 652, 653, 654, 655, 656, 657, 1027, 1028] (by decide +kernel)
set_option maxRecDepth 20000 in
theorem wsL_law0_r26_in : ∀ w ∈ wsL_law0_r26, w ∈ lw_tbl := wl_mem [1029, 1030, 659, 660, 661, 662, 663, 664, 665, 667, 668, 669, 670, 1031, 1032, 1033, 1034, 671, 672, 673, 674, 675, 676, 677] (by decide +kernel)
set_option maxRecDepth 20000 in
theorem wsL_law0_r27_in : ∀ w ∈ wsL_law0_r27, w ∈ lw_tbl := wl_mem [678, 679, 680, 681, 1035, 1036, 1037, 1038, 682, 683, 684, 685, 686, 687, 688, 689, 691, 12, 692, 693, 1039, 1040, 1041, 1042] (by decide +kernel)
set_option maxRecDepth 20000 in
theorem wsL_law0_r28_in : ∀ w ∈ wsL_law0_r28, w ∈ lw_tbl := wl_mem [1043, 1045, 48, 1046, 815, 694, 695, 696, 697, 698, 699, 700, 1047, 1048, 1049, 1050, 701, 702, 703, 704, 705, 706, 707, 1051] (by decide +kernel)
set_option maxRecDepth 20000 in
theorem wsL_law0_r29_in : ∀ w ∈ wsL_law0_r29, w ∈ lw_tbl := wl_mem [1052, 1053, 1054, 708, 709, 710, 711, 712, 713, 714, 1055, 1056, 1057, 1058, 715, 716, 717, 718, 719, 720, 721, 725, 722, 723] (by decide +kernel)
set_option maxRecDepth 20000 in
theorem wsL_law0_r30_in : ∀ w ∈ wsL_law0_r30, w ∈ lw_tbl := wl_mem [724, 727, 729, 13, 730, 731, 733, 14, 734, 735, 737, 15, 738, 739, 741, 16, 742, 743, 745, 17, 746, 747, 749, 18] (by decide +kernel)
set_option maxRecDepth 20000 in
theorem wsL_law0_r31_in : ∀ w ∈ wsL_law0_r31, w ∈ lw_tbl := wl_mem [750, 751, 752, 754, 19, 755, 756, 758, 20, 759, 1059, 1060, 1061, 1062, 1063, 1064, 1065, 1066, 1068, 49, 1069, 1070, 1072, 50] (by decide +kernel)
set_option maxRecDepth 20000 in
theorem wsL_law0_r32_in : ∀ w ∈ wsL_law0_r32, w ∈ lw_tbl := wl_mem [1073, 1074, 1076, 51, 1077, 1078, 1080, 52, 1081, 1082, 1084, 53, 1085, 1086, 1088, 54, 1089, 1090, 1092, 55, 1093, 1094, 1096, 56] (by decide +kernel)
set_option maxRecDepth 20000 in
theorem wsL_law0_r33_in : ∀ w ∈ wsL_law0_r33, w ∈ lw_tbl := wl_mem [1097, 760, 761, 762, 763, 764, 765, 766, 768, 769, 774, 775, 69, 776, 770, 772, 21, 773, 1098, 1099, 1100, 1101, 1102, 1103] (by decide +kernel)
set_option maxRecDepth 20000 in
theorem wsL_law0_r34_in : ∀ w ∈ wsL_law0_r34, w ∈ lw_tbl := wl_mem [777, 778, 779, 780, 781, 782, 783, 784, 786, 22, 787, 1104, 1105, 1106, 1107, 1108, 1109, 1110, 789, 790, 791, 792, 793, 794] (by decide +kernel)
set_option maxRecDepth 20000 in
theorem wsL_law0_r35_in : ∀ w ∈ wsL_law0_r35, w ∈ lw_tbl := wl_mem [795, 1111, 1112, 1113, 1114] (by decide +kernel)
theorem wsX40_in : ∀ w ∈ wsX40, w ∈ lw_tbl := by decide +kernel
theorem wsX50_in : ∀ w ∈ wsX50, w ∈ lw_tbl := by decide +kernel
theorem wsX30_in : ∀ w ∈ wsX30, w ∈ lw_tbl := by decide +kernel
theorem wsX20_in : ∀ w ∈ wsX20, w ∈ lw_tbl := by decide +kernel
theorem wsX10_in : ∀ w ∈ wsX10, w ∈ lw_tbl := by decide +kernel
theorem wsX00_in : ∀ w ∈ wsX00, w ∈ lw_tbl := by decide +kernel
theorem wsJ90_in : ∀ w ∈ wsJ90, w ∈ lw_tbl := by decide +kernel
theorem wsJ00_in : ∀ w ∈ wsJ00, w ∈ lw_tbl := by decide +kernel
theorem wsL_law_in0 : ∀ w ∈ wsL_law0, w ∈ lw_tbl := List.forall_mem_append.mpr ⟨List.forall_mem_append.mpr ⟨List.forall_mem_append.mpr ⟨List.forall_mem_append.mpr ⟨List.forall_mem_append.mpr ⟨List.forall_mem_append.mpr ⟨List.forall_mem_append.mpr ⟨List.forall_mem_append.mpr ⟨wsL_law0_r1_in, List.forall_mem_append.mpr ⟨wsL_law0_r2_in, List.forall_mem_append.mpr ⟨wsL_law0_r3_in, List.forall_mem_append.mpr ⟨wsL_law0_r4_in, List.forall_mem_append.mpr ⟨wsL_law0_r5_in, List.forall_mem_append.mpr ⟨wsL_law0_r6_in, List.forall_mem_append.mpr ⟨wsL_law0_r7_in, List.forall_mem_append.mpr ⟨wsL_law0_r8_in, List.forall_mem_append.mpr ⟨wsL_law0_r9_in, List.forall_mem_append.mpr ⟨wsL_law0_r10_in, List.forall_mem_append.mpr ⟨wsL_law0_r11_in, List.forall_mem_append.mpr ⟨wsL_law0_r12_in, List.forall_mem_append.mpr ⟨wsL_law0_r13_in, List.forall_mem_append.mpr ⟨wsL_law0_r14_in, List.forall_mem_append.mpr ⟨wsL_law0_r15_in, List.forall_mem_append.mpr ⟨wsL_law0_r16_in, List.forall_mem_append.mpr ⟨wsL_law0_r17_in, List.forall_mem_append.mpr ⟨wsL_law0_r18_in, List.forall_mem_append.mpr ⟨wsL_law0_r19_in, List.forall_mem_append.mpr ⟨wsL_law0_r20_in, List.forall_mem_append.mpr ⟨wsL_law0_r21_in, List.forall_mem_append.mpr ⟨wsL_law0_r22_in, List.forall_mem_append.mpr ⟨wsL_law0_r23_in, List.forall_mem_append.mpr ⟨wsL_law0_r24_in, List.forall_mem_append.mpr ⟨wsL_law0_r25_in, List.forall_mem_append.mpr ⟨wsL_law0_r26_in, List.forall_mem_append.mpr ⟨wsL_law0_r27_in, List.forall_mem_append.mpr ⟨wsL_law0_r28_in, List.forall_mem_append.mpr ⟨wsL_law0_r29_in, List.forall_mem_append.mpr ⟨wsL_law0_r30_in, List.forall_mem_append.mpr ⟨wsL_law0_r31_in, List.forall_mem_append.mpr ⟨wsL_law0_r32_in, List.forall_mem_append.mpr ⟨wsL_law0_r33_in, List.forall_mem_append.mpr ⟨wsL_law0_r34_in, wsL_law0_r35_in⟩⟩⟩⟩⟩⟩⟩⟩⟩⟩⟩⟩⟩⟩⟩⟩⟩⟩⟩⟩⟩⟩⟩⟩⟩⟩⟩⟩⟩⟩⟩⟩⟩⟩, wsX40_in⟩, wsX50_in⟩, wsX30_in⟩, wsX20_in⟩, wsX10_in⟩, wsX00_in⟩, fun _ h => absurd h List.not_mem_nil⟩
theorem wsL_law_x0 : ∀ w ∈ (vx_atS RX4 48 "java/lang/IllegalArgumentException" ["java/lang/RuntimeException", "java/lang/Exception"]).filter goodWord, w ∈ lw_tbl := by decide +kernel
theorem wsL_law_x1 : ∀ w ∈ (vx_atS RX4 59 "java/lang/IllegalStateException" ["java/lang/RuntimeException", "java/lang/Exception"]).filter goodWord, w ∈ lw_tbl := by decide +kernel
theorem wsL_law_x2 : ∀ w ∈ (vx_atS RX4 132 "java/lang/IndexOutOfBoundsException" ["java/lang/RuntimeException", "java/lang/Exception"]).filter goodWord, w ∈ lw_tbl := by decide +kernel
theorem wsL_law_in : ∀ w ∈ wsL_law, w ∈ lw_tbl := fun w h => (List.mem_append.mp h).elim (fun h => (List.mem_append.mp h).elim (fun h => (List.mem_append.mp h).elim (fun h => wsL_law_in0 w h) (fun h => wsL_law_x0 w h)) (fun h => wsL_law_x1 w h)) (fun h => wsL_law_x2 w h)
theorem inlX0 : ∀ w ∈ wsX00, w ∈ wsL_law := fun _ h => List.mem_append_left _ (List.mem_append_left _ (List.mem_append_left _ (List.mem_append_left _ (List.mem_append_right _ h))))
theorem inX0 : ∀ w ∈ wsX00, w ∈ lw_tbl := fun w h => wsL_law_in w (inlX0 w h)
theorem inlX1 : ∀ w ∈ wsX10, w ∈ wsL_law := fun _ h => List.mem_append_left _ (List.mem_append_left _ (List.mem_append_left _ (List.mem_append_left _ (List.mem_append_left _ (List.mem_append_right _ h)))))
theorem inX1 : ∀ w ∈ wsX10, w ∈ lw_tbl := fun w h => wsL_law_in w (inlX1 w h)
theorem inlX2 : ∀ w ∈ wsX20, w ∈ wsL_law := fun _ h => List.mem_append_left _ (List.mem_append_left _ (List.mem_append_left _ (List.mem_append_left _ (List.mem_append_left _ (List.mem_append_left _ (List.mem_append_right _ h))))))
theorem inX2 : ∀ w ∈ wsX20, w ∈ lw_tbl := fun w h => wsL_law_in w (inlX2 w h)
theorem inlX3 : ∀ w ∈ wsX30, w ∈ wsL_law := fun _ h => List.mem_append_left _ (List.mem_append_left _ (List.mem_append_left _ (List.mem_append_left _ (List.mem_append_left _ (List.mem_append_left _ (List.mem_append_left _ (List.mem_append_right _ h)))))))
theorem inX3 : ∀ w ∈ wsX30, w ∈ lw_tbl := fun w h => wsL_law_in w (inlX3 w h)
theorem inlX4 : ∀ w ∈ wsX40, w ∈ wsL_law := fun _ h => List.mem_append_left _ (List.mem_append_left _ (List.mem_append_left _ (List.mem_append_left _ (List.mem_append_left _ (List.mem_append_left _ (List.mem_append_left _ (List.mem_append_left _ (List.mem_append_left _ (List.mem_append_right _ h)))))))))
theorem inX4 : ∀ w ∈ wsX40, w ∈ lw_tbl := fun w h => wsL_law_in w (inlX4 w h)
theorem inlX5 : ∀ w ∈ wsX50, w ∈ wsL_law := fun _ h => List.mem_append_left _ (List.mem_append_left _ (List.mem_append_left _ (List.mem_append_left _ (List.mem_append_left _ (List.mem_append_left _ (List.mem_append_left _ (List.mem_append_left _ (List.mem_append_right _ h))))))))
theorem inX5 : ∀ w ∈ wsX50, w ∈ lw_tbl := fun w h => wsL_law_in w (inlX5 w h)
theorem inJ9 : ∀ w ∈ wsJ90, w ∈ lw_tbl := by decide +kernel
theorem inJ0 : ∀ w ∈ wsJ00, w ∈ lw_tbl := by decide +kernel
