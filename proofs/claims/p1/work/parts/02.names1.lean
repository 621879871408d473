set_option maxRecDepth 20000 in
theorem wsL_law_in : ∀ w ∈ wsL_law, w ∈ lw_tbl := fun w h => (goodIn_p wsL_law [60, 63, 68, 73, 76, 160, 236, 241, 253, 274, 300, 749, 355, 358, 367, 372, 881, 885, 376, 379, 889, 892, 897, 383, 901, 387, 391, 394, 909, 398, 402, 406, 410, 417, 414, 421, 425, 429, 433, 437, 917, 921, 925, 929, 441, 445, 449, 456, 460, 463, 472, 476, 479, 483, 495, 487, 491, 940, 944, 948, 952, 956, 959, 962, 965, 969, 499, 973, 977, 503, 507, 981, 986, 511, 990, 515, 519, 935, 524, 994, 528, 998, 532, 1002, 536, 540, 544, 547, 1007, 1011, 1015, 552, 556, 560, 564, 567, 571, 1019, 1023, 575, 1027, 579, 584, 588, 592, 597, 601, 1035, 1039, 1043, 1047, 605, 1051, 609, 612, 615, 1055, 619, 1031, 623, 627, 631, 635, 641, 1060, 1064, 1069, 1073, 645, 1078, 649, 653, 1082, 657, 1086, 661, 665, 668, 671, 675, 679, 683, 688, 692, 697, 1090, 1093, 1097, 1101, 1105, 702, 706, 1109, 1112, 711, 1116, 1119, 715, 719, 1123, 723, 727, 1127, 731, 735, 1131, 739, 1135, 743, 1139] (by decide +kernel) (by decide +kernel) w h).1
theorem inlX0 : ∀ w ∈ wsX00, w ∈ wsL_law := fun _ h => List.mem_append_left _ (List.mem_append_left _ (List.mem_append_left _ (List.mem_append_right _ h)))
theorem inX0 : ∀ w ∈ wsX00, w ∈ lw_tbl := fun w h => wsL_law_in w (inlX0 w h)
theorem inlX1 : ∀ w ∈ wsX10, w ∈ wsL_law := fun _ h => List.mem_append_left _ (List.mem_append_left _ (List.mem_append_left _ (List.mem_append_left _ (List.mem_append_right _ h))))
theorem inX1 : ∀ w ∈ wsX10, w ∈ lw_tbl := fun w h => wsL_law_in w (inlX1 w h)
theorem inlX2 : ∀ w ∈ wsX20, w ∈ wsL_law := fun _ h => List.mem_append_left _ (List.mem_append_right _ h)
theorem inX2 : ∀ w ∈ wsX20, w ∈ lw_tbl := fun w h => wsL_law_in w (inlX2 w h)
theorem inlX3 : ∀ w ∈ wsX30, w ∈ wsL_law := fun _ h => List.mem_append_left _ (List.mem_append_left _ (List.mem_append_right _ h))
theorem inX3 : ∀ w ∈ wsX30, w ∈ lw_tbl := fun w h => wsL_law_in w (inlX3 w h)
theorem inlX4 : ∀ w ∈ wsX40, w ∈ wsL_law := fun _ h => List.mem_append_left _ (List.mem_append_left _ (List.mem_append_left _ (List.mem_append_left _ (List.mem_append_left _ (List.mem_append_left _ (List.mem_append_right _ h))))))
theorem inX4 : ∀ w ∈ wsX40, w ∈ lw_tbl := fun w h => wsL_law_in w (inlX4 w h)
theorem inlX5 : ∀ w ∈ wsX50, w ∈ wsL_law := fun _ h => List.mem_append_left _ (List.mem_append_left _ (List.mem_append_left _ (List.mem_append_left _ (List.mem_append_left _ (List.mem_append_right _ h)))))
theorem inX5 : ∀ w ∈ wsX50, w ∈ lw_tbl := fun w h => wsL_law_in w (inlX5 w h)
theorem inlX6 : ∀ w ∈ wsX60, w ∈ wsL_law := fun _ h => List.mem_append_left _ (List.mem_append_left _ (List.mem_append_left _ (List.mem_append_left _ (List.mem_append_left _ (List.mem_append_left _ (List.mem_append_left _ (List.mem_append_left _ (List.mem_append_right _ h))))))))
theorem inX6 : ∀ w ∈ wsX60, w ∈ lw_tbl := fun w h => wsL_law_in w (inlX6 w h)
theorem inlX7 : ∀ w ∈ wsX70, w ∈ wsL_law := fun _ h => List.mem_append_left _ (List.mem_append_left _ (List.mem_append_left _ (List.mem_append_left _ (List.mem_append_left _ (List.mem_append_left _ (List.mem_append_left _ (List.mem_append_right _ h)))))))
theorem inX7 : ∀ w ∈ wsX70, w ∈ lw_tbl := fun w h => wsL_law_in w (inlX7 w h)
theorem inJ9 : ∀ w ∈ wsJ90, w ∈ lw_tbl := by decide +kernel
theorem inJ10 : ∀ w ∈ wsJ100, w ∈ lw_tbl := by decide +kernel
theorem dX0_init_0 : decode cX0_init 0 = .ok (.aload_n 0, 1) := by decide +kernel
theorem dX0_init_1 : decode cX0_init 1 = .ok (.invokespecial 3, 3) := by decide +kernel
theorem dX0_init_4 : decode cX0_init 4 = .ok (.aload_n 0, 1) := by decide +kernel
theorem dX0_init_5 : decode cX0_init 5 = .ok (.bipush 100, 2) := by decide +kernel
theorem dX0_init_7 : decode cX0_init 7 = .ok (.newarray .long, 2) := by decide +kernel
theorem dX0_init_9 : decode cX0_init 9 = .ok (.putfield 9, 3) := by decide +kernel
theorem dX0_init_12 : decode cX0_init 12 = .ok (.aload_n 0, 1) := by decide +kernel
theorem dX0_init_13 : decode cX0_init 13 = .ok (.lconst 0, 1) := by decide +kernel
theorem dX0_init_14 : decode cX0_init 14 = .ok (.putfield 15, 3) := by decide +kernel
theorem dX0_init_17 : decode cX0_init 17 = .ok (.aload_n 0, 1) := by decide +kernel
theorem dX0_init_18 : decode cX0_init 18 = .ok (.aload_n 1, 1) := by decide +kernel
theorem dX0_init_19 : decode cX0_init 19 = .ok (.putfield 19, 3) := by decide +kernel
theorem dX0_init_22 : decode cX0_init 22 = .ok (.aload_n 0, 1) := by decide +kernel
theorem dX0_init_23 : decode cX0_init 23 = .ok (.aload_n 2, 1) := by decide +kernel
theorem dX0_init_24 : decode cX0_init 24 = .ok (.putfield 23, 3) := by decide +kernel
theorem dX0_init_27 : decode cX0_init 27 = .ok (.return_, 1) := by decide +kernel
set_option maxRecDepth 20000 in
theorem ggX0_weigh_X4_missed : GoodIn wsX0_weigh wsX4_missed := goodIn_r _ [10, 11, 12, 13, 14, 60, 61, 62, 63, 64, 65, 66, 67, 68, 69, 70, 71, 72, 73, 74, 75] (by decide +kernel) (by decide +kernel)
set_option maxRecDepth 20000 in
theorem gX0_weigh_X4_missed : GoodIn wsX0_weigh (wsV RX0 27 RX4 yX4_missed wsX4_missed) := goodIn_app (goodIn_of _ (by decide +kernel)) ggX0_weigh_X4_missed
set_option maxRecDepth 20000 in
theorem ggX0_weigh_X1_fit : GoodIn wsX0_weigh wsX1_fit := goodIn_r _ [19, 20, 21, 22, 23, 18, 24, 25, 26, 27, 28, 29, 30, 31, 32, 33, 34, 35, 36, 37, 38, 39, 40, 41, 42, 43, 44, 45, 46, 47, 48, 49, 50, 51, 52, 53, 54, 55, 76, 77, 60, 61, 62, 63, 64, 65, 66, 67, 68, 69, 70, 71, 72, 73, 74, 75] (by decide +kernel) (by decide +kernel)
set_option maxRecDepth 20000 in
theorem gX0_weigh_X1_fit : GoodIn wsX0_weigh (wsV RX0 37 RX1 yX1_fit wsX1_fit) := goodIn_app (goodIn_of _ (by decide +kernel)) ggX0_weigh_X1_fit
theorem dX0_weigh_0 : decode cX0_weigh 0 = .ok (.aload_n 0, 1) := by decide +kernel
theorem dX0_weigh_1 : decode cX0_weigh 1 = .ok (.lconst 0, 1) := by decide +kernel
theorem dX0_weigh_2 : decode cX0_weigh 2 = .ok (.putfield 15, 3) := by decide +kernel
theorem dX0_weigh_5 : decode cX0_weigh 5 = .ok (.iconst 0, 1) := by decide +kernel
theorem dX0_weigh_6 : decode cX0_weigh 6 = .ok (.istore_n 3, 1) := by decide +kernel
theorem dX0_weigh_7 : decode cX0_weigh 7 = .ok (.iload_n 3, 1) := by decide +kernel
theorem dX0_weigh_8 : decode cX0_weigh 8 = .ok (.bipush 100, 2) := by decide +kernel
theorem dX0_weigh_10 : decode cX0_weigh 10 = .ok (.if_icmp .ge 122, 3) := by decide +kernel
theorem dX0_weigh_13 : decode cX0_weigh 13 = .ok (.iload_n 3, 1) := by decide +kernel
theorem dX0_weigh_14 : decode cX0_weigh 14 = .ok (.aload_n 1, 1) := by decide +kernel
theorem dX0_weigh_15 : decode cX0_weigh 15 = .ok (.arraylength, 1) := by decide +kernel
theorem dX0_weigh_16 : decode cX0_weigh 16 = .ok (.if_icmp .ge 116, 3) := by decide +kernel
theorem dX0_weigh_19 : decode cX0_weigh 19 = .ok (.aload_n 1, 1) := by decide +kernel
theorem dX0_weigh_20 : decode cX0_weigh 20 = .ok (.iload_n 3, 1) := by decide +kernel
theorem dX0_weigh_21 : decode cX0_weigh 21 = .ok (.laload, 1) := by decide +kernel
theorem dX0_weigh_22 : decode cX0_weigh 22 = .ok (.lstore 4, 2) := by decide +kernel
theorem dX0_weigh_24 : decode cX0_weigh 24 = .ok (.lload 4, 2) := by decide +kernel
theorem dX0_weigh_26 : decode cX0_weigh 26 = .ok (.lconst 0, 1) := by decide +kernel
theorem dX0_weigh_27 : decode cX0_weigh 27 = .ok (.lcmp, 1) := by decide +kernel
theorem dX0_weigh_28 : decode cX0_weigh 28 = .ok (.ifCond .eq 22, 3) := by decide +kernel
theorem dX0_weigh_31 : decode cX0_weigh 31 = .ok (.iload_n 2, 1) := by decide +kernel
theorem dX0_weigh_32 : decode cX0_weigh 32 = .ok (.bipush 12, 2) := by decide +kernel
theorem dX0_weigh_34 : decode cX0_weigh 34 = .ok (.if_icmp .eq 16, 3) := by decide +kernel
theorem dX0_weigh_37 : decode cX0_weigh 37 = .ok (.lload 4, 2) := by decide +kernel
theorem dX0_weigh_39 : decode cX0_weigh 39 = .ok (.aload_n 0, 1) := by decide +kernel
theorem dX0_weigh_40 : decode cX0_weigh 40 = .ok (.getfield 19, 3) := by decide +kernel
theorem dX0_weigh_43 : decode cX0_weigh 43 = .ok (.iload_n 3, 1) := by decide +kernel
theorem dX0_weigh_44 : decode cX0_weigh 44 = .ok (.invokevirtual 27, 3) := by decide +kernel
theorem dX0_weigh_47 : decode cX0_weigh 47 = .ok (.lmul, 1) := by decide +kernel
theorem dX0_weigh_48 : decode cX0_weigh 48 = .ok (.lstore 4, 2) := by decide +kernel
theorem dX0_weigh_50 : decode cX0_weigh 50 = .ok (.iconst 0, 1) := by decide +kernel
theorem dX0_weigh_51 : decode cX0_weigh 51 = .ok (.istore 6, 2) := by decide +kernel
theorem dX0_weigh_53 : decode cX0_weigh 53 = .ok (.iload 6, 2) := by decide +kernel
theorem dX0_weigh_55 : decode cX0_weigh 55 = .ok (.aload_n 0, 1) := by decide +kernel
theorem dX0_weigh_56 : decode cX0_weigh 56 = .ok (.getfield 19, 3) := by decide +kernel
theorem dX0_weigh_59 : decode cX0_weigh 59 = .ok (.getfield 33, 3) := by decide +kernel
theorem dX0_weigh_62 : decode cX0_weigh 62 = .ok (.if_icmp .ge 45, 3) := by decide +kernel
theorem dX0_weigh_65 : decode cX0_weigh 65 = .ok (.lload 4, 2) := by decide +kernel
theorem dX0_weigh_67 : decode cX0_weigh 67 = .ok (.lconst 0, 1) := by decide +kernel
theorem dX0_weigh_68 : decode cX0_weigh 68 = .ok (.lcmp, 1) := by decide +kernel
theorem dX0_weigh_69 : decode cX0_weigh 69 = .ok (.ifCond .eq 38, 3) := by decide +kernel
theorem dX0_weigh_72 : decode cX0_weigh 72 = .ok (.lload 4, 2) := by decide +kernel
theorem dX0_weigh_74 : decode cX0_weigh 74 = .ok (.iload 6, 2) := by decide +kernel
theorem dX0_weigh_76 : decode cX0_weigh 76 = .ok (.iload_n 2, 1) := by decide +kernel
theorem dX0_weigh_77 : decode cX0_weigh 77 = .ok (.bipush 8, 2) := by decide +kernel
theorem dX0_weigh_79 : decode cX0_weigh 79 = .ok (.isub, 1) := by decide +kernel
theorem dX0_weigh_80 : decode cX0_weigh 80 = .ok (.if_icmp .ne 7, 3) := by decide +kernel
theorem dX0_weigh_83 : decode cX0_weigh 83 = .ok (.lconst 1, 1) := by decide +kernel
theorem dX0_weigh_84 : decode cX0_weigh 84 = .ok (.goto 14, 3) := by decide +kernel
theorem dX0_weigh_87 : decode cX0_weigh 87 = .ok (.aload_n 0, 1) := by decide +kernel
theorem dX0_weigh_88 : decode cX0_weigh 88 = .ok (.getfield 23, 3) := by decide +kernel
theorem dX0_weigh_91 : decode cX0_weigh 91 = .ok (.iload 6, 2) := by decide +kernel
theorem dX0_weigh_93 : decode cX0_weigh 93 = .ok (.iload_n 3, 1) := by decide +kernel
theorem dX0_weigh_94 : decode cX0_weigh 94 = .ok (.invokevirtual 37, 3) := by decide +kernel
theorem dX0_weigh_97 : decode cX0_weigh 97 = .ok (.i2l, 1) := by decide +kernel
theorem dX0_weigh_98 : decode cX0_weigh 98 = .ok (.lmul, 1) := by decide +kernel
theorem dX0_weigh_99 : decode cX0_weigh 99 = .ok (.lstore 4, 2) := by decide +kernel
theorem dX0_weigh_101 : decode cX0_weigh 101 = .ok (.iinc 6 1, 3) := by decide +kernel
theorem dX0_weigh_104 : decode cX0_weigh 104 = .ok (.goto (-51), 3) := by decide +kernel
theorem dX0_weigh_107 : decode cX0_weigh 107 = .ok (.aload_n 0, 1) := by decide +kernel
theorem dX0_weigh_108 : decode cX0_weigh 108 = .ok (.getfield 9, 3) := by decide +kernel
theorem dX0_weigh_111 : decode cX0_weigh 111 = .ok (.iload_n 3, 1) := by decide +kernel
theorem dX0_weigh_112 : decode cX0_weigh 112 = .ok (.lload 4, 2) := by decide +kernel
theorem dX0_weigh_114 : decode cX0_weigh 114 = .ok (.lastore, 1) := by decide +kernel
theorem dX0_weigh_115 : decode cX0_weigh 115 = .ok (.aload_n 0, 1) := by decide +kernel
theorem dX0_weigh_116 : decode cX0_weigh 116 = .ok (.dup, 1) := by decide +kernel
theorem dX0_weigh_117 : decode cX0_weigh 117 = .ok (.getfield 15, 3) := by decide +kernel
theorem dX0_weigh_120 : decode cX0_weigh 120 = .ok (.lload 4, 2) := by decide +kernel
theorem dX0_weigh_122 : decode cX0_weigh 122 = .ok (.ladd, 1) := by decide +kernel
theorem dX0_weigh_123 : decode cX0_weigh 123 = .ok (.putfield 15, 3) := by decide +kernel
theorem dX0_weigh_126 : decode cX0_weigh 126 = .ok (.iinc 3 1, 3) := by decide +kernel
theorem dX0_weigh_129 : decode cX0_weigh 129 = .ok (.goto (-122), 3) := by decide +kernel
theorem dX0_weigh_132 : decode cX0_weigh 132 = .ok (.return_, 1) := by decide +kernel
set_option maxRecDepth 20000 in
theorem ggX0_apart_X0_thousandths : GoodIn wsX0_apart wsX0_thousandths := goodIn_r _ [10, 1, 11, 12, 13, 14, 15, 16] (by decide +kernel) (by decide +kernel)
set_option maxRecDepth 20000 in
theorem gX0_apart_X0_thousandths : GoodIn wsX0_apart (wsV RX0 43 RX0 yX0_thousandths wsX0_thousandths) := goodIn_app (goodIn_of _ (by decide +kernel)) ggX0_apart_X0_thousandths
theorem dX0_apart_0 : decode cX0_apart 0 = .ok (.aload_n 0, 1) := by decide +kernel
theorem dX0_apart_1 : decode cX0_apart 1 = .ok (.getfield 15, 3) := by decide +kernel
theorem dX0_apart_4 : decode cX0_apart 4 = .ok (.lconst 0, 1) := by decide +kernel
theorem dX0_apart_5 : decode cX0_apart 5 = .ok (.lcmp, 1) := by decide +kernel
theorem dX0_apart_6 : decode cX0_apart 6 = .ok (.ifCond .eq 12, 3) := by decide +kernel
theorem dX0_apart_9 : decode cX0_apart 9 = .ok (.aload_n 1, 1) := by decide +kernel
theorem dX0_apart_10 : decode cX0_apart 10 = .ok (.getfield 15, 3) := by decide +kernel
theorem dX0_apart_13 : decode cX0_apart 13 = .ok (.lconst 0, 1) := by decide +kernel
theorem dX0_apart_14 : decode cX0_apart 14 = .ok (.lcmp, 1) := by decide +kernel
theorem dX0_apart_15 : decode cX0_apart 15 = .ok (.ifCond .ne 23, 3) := by decide +kernel
theorem dX0_apart_18 : decode cX0_apart 18 = .ok (.aload_n 0, 1) := by decide +kernel
theorem dX0_apart_19 : decode cX0_apart 19 = .ok (.getfield 15, 3) := by decide +kernel
theorem dX0_apart_22 : decode cX0_apart 22 = .ok (.aload_n 1, 1) := by decide +kernel
theorem dX0_apart_23 : decode cX0_apart 23 = .ok (.getfield 15, 3) := by decide +kernel
theorem dX0_apart_26 : decode cX0_apart 26 = .ok (.lcmp, 1) := by decide +kernel
theorem dX0_apart_27 : decode cX0_apart 27 = .ok (.ifCond .ne 7, 3) := by decide +kernel
theorem dX0_apart_30 : decode cX0_apart 30 = .ok (.iconst 0, 1) := by decide +kernel
theorem dX0_apart_31 : decode cX0_apart 31 = .ok (.goto 6, 3) := by decide +kernel
theorem dX0_apart_34 : decode cX0_apart 34 = .ok (.sipush 1000, 3) := by decide +kernel
theorem dX0_apart_37 : decode cX0_apart 37 = .ok (.ireturn, 1) := by decide +kernel
theorem dX0_apart_38 : decode cX0_apart 38 = .ok (.iconst 0, 1) := by decide +kernel
theorem dX0_apart_39 : decode cX0_apart 39 = .ok (.istore_n 2, 1) := by decide +kernel
theorem dX0_apart_40 : decode cX0_apart 40 = .ok (.iconst 0, 1) := by decide +kernel
theorem dX0_apart_41 : decode cX0_apart 41 = .ok (.istore_n 3, 1) := by decide +kernel
theorem dX0_apart_42 : decode cX0_apart 42 = .ok (.iload_n 3, 1) := by decide +kernel
theorem dX0_apart_43 : decode cX0_apart 43 = .ok (.bipush 100, 2) := by decide +kernel
theorem dX0_apart_45 : decode cX0_apart 45 = .ok (.if_icmp .ge 26, 3) := by decide +kernel
theorem dX0_apart_48 : decode cX0_apart 48 = .ok (.iload_n 2, 1) := by decide +kernel
theorem dX0_apart_49 : decode cX0_apart 49 = .ok (.aload_n 0, 1) := by decide +kernel
theorem dX0_apart_50 : decode cX0_apart 50 = .ok (.iload_n 3, 1) := by decide +kernel
theorem dX0_apart_51 : decode cX0_apart 51 = .ok (.invokevirtual 43, 3) := by decide +kernel
theorem dX0_apart_54 : decode cX0_apart 54 = .ok (.aload_n 1, 1) := by decide +kernel
theorem dX0_apart_55 : decode cX0_apart 55 = .ok (.iload_n 3, 1) := by decide +kernel
theorem dX0_apart_56 : decode cX0_apart 56 = .ok (.invokevirtual 43, 3) := by decide +kernel
theorem dX0_apart_59 : decode cX0_apart 59 = .ok (.isub, 1) := by decide +kernel
theorem dX0_apart_60 : decode cX0_apart 60 = .ok (.invokestatic 47, 3) := by decide +kernel
theorem dX0_apart_63 : decode cX0_apart 63 = .ok (.iadd, 1) := by decide +kernel
theorem dX0_apart_64 : decode cX0_apart 64 = .ok (.istore_n 2, 1) := by decide +kernel
theorem dX0_apart_65 : decode cX0_apart 65 = .ok (.iinc 3 1, 3) := by decide +kernel
theorem dX0_apart_68 : decode cX0_apart 68 = .ok (.goto (-26), 3) := by decide +kernel
theorem dX0_apart_71 : decode cX0_apart 71 = .ok (.iload_n 2, 1) := by decide +kernel
theorem dX0_apart_72 : decode cX0_apart 72 = .ok (.ireturn, 1) := by decide +kernel
theorem dX0_thousandths_0 : decode cX0_thousandths 0 = .ok (.aload_n 0, 1) := by decide +kernel
theorem dX0_thousandths_1 : decode cX0_thousandths 1 = .ok (.getfield 15, 3) := by decide +kernel
theorem dX0_thousandths_4 : decode cX0_thousandths 4 = .ok (.lconst 0, 1) := by decide +kernel
theorem dX0_thousandths_5 : decode cX0_thousandths 5 = .ok (.lcmp, 1) := by decide +kernel
theorem dX0_thousandths_6 : decode cX0_thousandths 6 = .ok (.ifCond .ne 7, 3) := by decide +kernel
theorem dX0_thousandths_9 : decode cX0_thousandths 9 = .ok (.iconst 0, 1) := by decide +kernel
theorem dX0_thousandths_10 : decode cX0_thousandths 10 = .ok (.goto 19, 3) := by decide +kernel
theorem dX0_thousandths_13 : decode cX0_thousandths 13 = .ok (.ldc2_w 52, 3) := by decide +kernel
theorem dX0_thousandths_16 : decode cX0_thousandths 16 = .ok (.aload_n 0, 1) := by decide +kernel
theorem dX0_thousandths_17 : decode cX0_thousandths 17 = .ok (.getfield 9, 3) := by decide +kernel
theorem dX0_thousandths_20 : decode cX0_thousandths 20 = .ok (.iload_n 1, 1) := by decide +kernel
theorem dX0_thousandths_21 : decode cX0_thousandths 21 = .ok (.laload, 1) := by decide +kernel
theorem dX0_thousandths_22 : decode cX0_thousandths 22 = .ok (.lmul, 1) := by decide +kernel
theorem dX0_thousandths_23 : decode cX0_thousandths 23 = .ok (.aload_n 0, 1) := by decide +kernel
theorem dX0_thousandths_24 : decode cX0_thousandths 24 = .ok (.getfield 15, 3) := by decide +kernel
theorem dX0_thousandths_27 : decode cX0_thousandths 27 = .ok (.ldiv, 1) := by decide +kernel
theorem dX0_thousandths_28 : decode cX0_thousandths 28 = .ok (.l2i, 1) := by decide +kernel
theorem dX0_thousandths_29 : decode cX0_thousandths 29 = .ok (.ireturn, 1) := by decide +kernel
set_option maxRecDepth 20000 in
theorem ggX1_init_X1_forget : GoodIn wsX1_init wsX1_forget := goodIn_r _ [11, 5, 12, 13] (by decide +kernel) (by decide +kernel)
set_option maxRecDepth 20000 in
theorem gX1_init_X1_forget : GoodIn wsX1_init (wsV RX1 19 RX1 yX1_forget wsX1_forget) := goodIn_app (goodIn_of _ (by decide +kernel)) ggX1_init_X1_forget
theorem dX1_init_0 : decode cX1_init 0 = .ok (.aload_n 0, 1) := by decide +kernel
theorem dX1_init_1 : decode cX1_init 1 = .ok (.invokespecial 3, 3) := by decide +kernel
theorem dX1_init_4 : decode cX1_init 4 = .ok (.aload_n 0, 1) := by decide +kernel
theorem dX1_init_5 : decode cX1_init 5 = .ok (.sipush 400, 3) := by decide +kernel
theorem dX1_init_8 : decode cX1_init 8 = .ok (.newarray .int, 2) := by decide +kernel
theorem dX1_init_10 : decode cX1_init 10 = .ok (.putfield 9, 3) := by decide +kernel
theorem dX1_init_13 : decode cX1_init 13 = .ok (.aload_n 0, 1) := by decide +kernel
theorem dX1_init_14 : decode cX1_init 14 = .ok (.aload_n 1, 1) := by decide +kernel
theorem dX1_init_15 : decode cX1_init 15 = .ok (.putfield 15, 3) := by decide +kernel
theorem dX1_init_18 : decode cX1_init 18 = .ok (.aload_n 0, 1) := by decide +kernel
theorem dX1_init_19 : decode cX1_init 19 = .ok (.invokevirtual 19, 3) := by decide +kernel
theorem dX1_init_22 : decode cX1_init 22 = .ok (.return_, 1) := by decide +kernel
theorem dX1_forget_0 : decode cX1_forget 0 = .ok (.iconst 0, 1) := by decide +kernel
theorem dX1_forget_1 : decode cX1_forget 1 = .ok (.istore_n 1, 1) := by decide +kernel
theorem dX1_forget_2 : decode cX1_forget 2 = .ok (.iload_n 1, 1) := by decide +kernel
theorem dX1_forget_3 : decode cX1_forget 3 = .ok (.sipush 400, 3) := by decide +kernel
theorem dX1_forget_6 : decode cX1_forget 6 = .ok (.if_icmp .ge 16, 3) := by decide +kernel
theorem dX1_forget_9 : decode cX1_forget 9 = .ok (.aload_n 0, 1) := by decide +kernel
theorem dX1_forget_10 : decode cX1_forget 10 = .ok (.getfield 9, 3) := by decide +kernel
theorem dX1_forget_13 : decode cX1_forget 13 = .ok (.iload_n 1, 1) := by decide +kernel
theorem dX1_forget_14 : decode cX1_forget 14 = .ok (.iconst (-1), 1) := by decide +kernel
theorem dX1_forget_15 : decode cX1_forget 15 = .ok (.iastore, 1) := by decide +kernel
theorem dX1_forget_16 : decode cX1_forget 16 = .ok (.iinc 1 1, 3) := by decide +kernel
theorem dX1_forget_19 : decode cX1_forget 19 = .ok (.goto (-17), 3) := by decide +kernel
theorem dX1_forget_22 : decode cX1_forget 22 = .ok (.return_, 1) := by decide +kernel
set_option maxRecDepth 20000 in
theorem ggX1_behind_X1_monthOn : GoodIn wsX1_behind wsX1_monthOn := goodIn_r _ [5, 6, 7, 8, 9, 10, 4, 11, 12, 13, 14, 15, 16, 17, 18, 19, 20, 21, 22, 23, 24, 25, 26, 27, 28, 29, 30, 31, 32, 33, 34] (by decide +kernel) (by decide +kernel)
set_option maxRecDepth 20000 in
theorem gX1_behind_X1_monthOn : GoodIn wsX1_behind (wsV RX1 22 RX1 yX1_monthOn wsX1_monthOn) := goodIn_app (goodIn_of _ (by decide +kernel)) ggX1_behind_X1_monthOn
theorem dX1_behind_0 : decode cX1_behind 0 = .ok (.iload_n 1, 1) := by decide +kernel
theorem dX1_behind_1 : decode cX1_behind 1 = .ok (.istore 4, 2) := by decide +kernel
theorem dX1_behind_3 : decode cX1_behind 3 = .ok (.iconst 0, 1) := by decide +kernel
theorem dX1_behind_4 : decode cX1_behind 4 = .ok (.istore 5, 2) := by decide +kernel
theorem dX1_behind_6 : decode cX1_behind 6 = .ok (.iload 5, 2) := by decide +kernel
theorem dX1_behind_8 : decode cX1_behind 8 = .ok (.iload_n 2, 1) := by decide +kernel
theorem dX1_behind_9 : decode cX1_behind 9 = .ok (.if_icmp .ge 20, 3) := by decide +kernel
theorem dX1_behind_12 : decode cX1_behind 12 = .ok (.aload_n 0, 1) := by decide +kernel
theorem dX1_behind_13 : decode cX1_behind 13 = .ok (.iload 4, 2) := by decide +kernel
theorem dX1_behind_15 : decode cX1_behind 15 = .ok (.iload 5, 2) := by decide +kernel
theorem dX1_behind_17 : decode cX1_behind 17 = .ok (.iload_n 3, 1) := by decide +kernel
theorem dX1_behind_18 : decode cX1_behind 18 = .ok (.invokevirtual 22, 3) := by decide +kernel
theorem dX1_behind_21 : decode cX1_behind 21 = .ok (.istore 4, 2) := by decide +kernel
theorem dX1_behind_23 : decode cX1_behind 23 = .ok (.iinc 5 1, 3) := by decide +kernel
theorem dX1_behind_26 : decode cX1_behind 26 = .ok (.goto (-20), 3) := by decide +kernel
theorem dX1_behind_29 : decode cX1_behind 29 = .ok (.iload 4, 2) := by decide +kernel
theorem dX1_behind_31 : decode cX1_behind 31 = .ok (.ireturn, 1) := by decide +kernel
set_option maxRecDepth 20000 in
theorem ggX1_fit_X1_reckon : GoodIn wsX1_fit wsX1_reckon := goodIn_r _ [6, 7, 8, 9, 10, 11, 12, 13, 14, 15, 5, 16, 17, 18, 19, 20, 21, 22, 23, 24, 25, 26, 27, 28, 29, 30, 31, 32, 33, 34, 35, 36, 37, 38, 39, 40, 41, 42, 43, 44, 45, 46, 47, 48, 49, 50, 51, 52, 53, 54, 55] (by decide +kernel) (by decide +kernel)
set_option maxRecDepth 20000 in
theorem gX1_fit_X1_reckon : GoodIn wsX1_fit (wsV RX1 26 RX1 yX1_reckon wsX1_reckon) := goodIn_app (goodIn_of _ (by decide +kernel)) ggX1_fit_X1_reckon
theorem dX1_fit_0 : decode cX1_fit 0 = .ok (.bipush 100, 2) := by decide +kernel
theorem dX1_fit_2 : decode cX1_fit 2 = .ok (.iload_n 1, 1) := by decide +kernel
theorem dX1_fit_3 : decode cX1_fit 3 = .ok (.imul, 1) := by decide +kernel
theorem dX1_fit_4 : decode cX1_fit 4 = .ok (.iload_n 2, 1) := by decide +kernel
theorem dX1_fit_5 : decode cX1_fit 5 = .ok (.iadd, 1) := by decide +kernel
theorem dX1_fit_6 : decode cX1_fit 6 = .ok (.istore_n 3, 1) := by decide +kernel
theorem dX1_fit_7 : decode cX1_fit 7 = .ok (.aload_n 0, 1) := by decide +kernel
theorem dX1_fit_8 : decode cX1_fit 8 = .ok (.getfield 9, 3) := by decide +kernel
theorem dX1_fit_11 : decode cX1_fit 11 = .ok (.iload_n 3, 1) := by decide +kernel
theorem dX1_fit_12 : decode cX1_fit 12 = .ok (.iaload, 1) := by decide +kernel
theorem dX1_fit_13 : decode cX1_fit 13 = .ok (.iconst (-1), 1) := by decide +kernel
theorem dX1_fit_14 : decode cX1_fit 14 = .ok (.if_icmp .ne 15, 3) := by decide +kernel
theorem dX1_fit_17 : decode cX1_fit 17 = .ok (.aload_n 0, 1) := by decide +kernel
theorem dX1_fit_18 : decode cX1_fit 18 = .ok (.getfield 9, 3) := by decide +kernel
theorem dX1_fit_21 : decode cX1_fit 21 = .ok (.iload_n 3, 1) := by decide +kernel
theorem dX1_fit_22 : decode cX1_fit 22 = .ok (.aload_n 0, 1) := by decide +kernel
theorem dX1_fit_23 : decode cX1_fit 23 = .ok (.iload_n 1, 1) := by decide +kernel
theorem dX1_fit_24 : decode cX1_fit 24 = .ok (.iload_n 2, 1) := by decide +kernel
theorem dX1_fit_25 : decode cX1_fit 25 = .ok (.invokevirtual 26, 3) := by decide +kernel
theorem dX1_fit_28 : decode cX1_fit 28 = .ok (.iastore, 1) := by decide +kernel
theorem dX1_fit_29 : decode cX1_fit 29 = .ok (.aload_n 0, 1) := by decide +kernel
theorem dX1_fit_30 : decode cX1_fit 30 = .ok (.getfield 9, 3) := by decide +kernel
theorem dX1_fit_33 : decode cX1_fit 33 = .ok (.iload_n 3, 1) := by decide +kernel
theorem dX1_fit_34 : decode cX1_fit 34 = .ok (.iaload, 1) := by decide +kernel
theorem dX1_fit_35 : decode cX1_fit 35 = .ok (.ireturn, 1) := by decide +kernel
set_option maxRecDepth 20000 in
theorem ggX1_reckon_X1_inSeason : GoodIn wsX1_reckon wsX1_inSeason := goodIn_r _ [11] (by decide +kernel) (by decide +kernel)
set_option maxRecDepth 20000 in
theorem gX1_reckon_X1_inSeason : GoodIn wsX1_reckon (va_wsS RX1 41 yX1_inSeason wsX1_inSeason) := goodIn_app (goodIn_of _ (by decide +kernel)) ggX1_reckon_X1_inSeason
set_option maxRecDepth 20000 in
theorem ggX1_reckon_X1_monthOn : GoodIn wsX1_reckon wsX1_monthOn := goodIn_r _ [15, 1, 16, 17, 8, 9, 10, 11, 18, 19, 20, 21, 22, 33, 34, 35, 36, 37, 38, 39, 40, 41, 42, 43, 44, 45, 46, 47, 48, 49, 50] (by decide +kernel) (by decide +kernel)
set_option maxRecDepth 20000 in
theorem gX1_reckon_X1_monthOn : GoodIn wsX1_reckon (wsV RX1 22 RX1 yX1_monthOn wsX1_monthOn) := goodIn_app (goodIn_of _ (by decide +kernel)) ggX1_reckon_X1_monthOn
set_option maxRecDepth 20000 in
theorem ggX1_reckon_X1_isBeside : GoodIn wsX1_reckon wsX1_isBeside := goodIn_r _ [25, 26, 27, 28, 29, 30, 31, 32] (by decide +kernel) (by decide +kernel)
set_option maxRecDepth 20000 in
theorem gX1_reckon_X1_isBeside : GoodIn wsX1_reckon (va_wsS RX1 53 yX1_isBeside wsX1_isBeside) := goodIn_app (goodIn_of _ (by decide +kernel)) ggX1_reckon_X1_isBeside
theorem dX1_reckon_0 : decode cX1_reckon 0 = .ok (.aload_n 0, 1) := by decide +kernel
theorem dX1_reckon_1 : decode cX1_reckon 1 = .ok (.getfield 15, 3) := by decide +kernel
theorem dX1_reckon_4 : decode cX1_reckon 4 = .ok (.getfield 30, 3) := by decide +kernel
theorem dX1_reckon_7 : decode cX1_reckon 7 = .ok (.iload_n 1, 1) := by decide +kernel
theorem dX1_reckon_8 : decode cX1_reckon 8 = .ok (.iaload, 1) := by decide +kernel
theorem dX1_reckon_9 : decode cX1_reckon 9 = .ok (.istore_n 3, 1) := by decide +kernel
theorem dX1_reckon_10 : decode cX1_reckon 10 = .ok (.iload_n 3, 1) := by decide +kernel
theorem dX1_reckon_11 : decode cX1_reckon 11 = .ok (.aload_n 0, 1) := by decide +kernel
theorem dX1_reckon_12 : decode cX1_reckon 12 = .ok (.getfield 15, 3) := by decide +kernel
theorem dX1_reckon_15 : decode cX1_reckon 15 = .ok (.getfield 35, 3) := by decide +kernel
theorem dX1_reckon_18 : decode cX1_reckon 18 = .ok (.iload_n 1, 1) := by decide +kernel
theorem dX1_reckon_19 : decode cX1_reckon 19 = .ok (.iaload, 1) := by decide +kernel
theorem dX1_reckon_20 : decode cX1_reckon 20 = .ok (.isub, 1) := by decide +kernel
theorem dX1_reckon_21 : decode cX1_reckon 21 = .ok (.istore 4, 2) := by decide +kernel
theorem dX1_reckon_23 : decode cX1_reckon 23 = .ok (.iload_n 2, 1) := by decide +kernel
theorem dX1_reckon_24 : decode cX1_reckon 24 = .ok (.istore 5, 2) := by decide +kernel
theorem dX1_reckon_26 : decode cX1_reckon 26 = .ok (.iconst 0, 1) := by decide +kernel
theorem dX1_reckon_27 : decode cX1_reckon 27 = .ok (.istore 6, 2) := by decide +kernel
theorem dX1_reckon_29 : decode cX1_reckon 29 = .ok (.iload 6, 2) := by decide +kernel
theorem dX1_reckon_31 : decode cX1_reckon 31 = .ok (.iload_n 3, 1) := by decide +kernel
theorem dX1_reckon_32 : decode cX1_reckon 32 = .ok (.if_icmp .ge 64, 3) := by decide +kernel
theorem dX1_reckon_35 : decode cX1_reckon 35 = .ok (.iload 6, 2) := by decide +kernel
theorem dX1_reckon_37 : decode cX1_reckon 37 = .ok (.iload 4, 2) := by decide +kernel
theorem dX1_reckon_39 : decode cX1_reckon 39 = .ok (.if_icmp .lt 32, 3) := by decide +kernel
theorem dX1_reckon_42 : decode cX1_reckon 42 = .ok (.aload_n 0, 1) := by decide +kernel
theorem dX1_reckon_43 : decode cX1_reckon 43 = .ok (.getfield 15, 3) := by decide +kernel
theorem dX1_reckon_46 : decode cX1_reckon 46 = .ok (.getfield 38, 3) := by decide +kernel
theorem dX1_reckon_49 : decode cX1_reckon 49 = .ok (.iload 6, 2) := by decide +kernel
theorem dX1_reckon_51 : decode cX1_reckon 51 = .ok (.iload 5, 2) := by decide +kernel
theorem dX1_reckon_53 : decode cX1_reckon 53 = .ok (.invokestatic 41, 3) := by decide +kernel
theorem dX1_reckon_56 : decode cX1_reckon 56 = .ok (.iaload, 1) := by decide +kernel
theorem dX1_reckon_57 : decode cX1_reckon 57 = .ok (.aload_n 0, 1) := by decide +kernel
theorem dX1_reckon_58 : decode cX1_reckon 58 = .ok (.getfield 15, 3) := by decide +kernel
theorem dX1_reckon_61 : decode cX1_reckon 61 = .ok (.getfield 44, 3) := by decide +kernel
theorem dX1_reckon_64 : decode cX1_reckon 64 = .ok (.iload_n 1, 1) := by decide +kernel
theorem dX1_reckon_65 : decode cX1_reckon 65 = .ok (.iaload, 1) := by decide +kernel
theorem dX1_reckon_66 : decode cX1_reckon 66 = .ok (.if_icmp .ge 5, 3) := by decide +kernel
theorem dX1_reckon_69 : decode cX1_reckon 69 = .ok (.iconst 0, 1) := by decide +kernel
theorem dX1_reckon_70 : decode cX1_reckon 70 = .ok (.ireturn, 1) := by decide +kernel
theorem dX1_reckon_71 : decode cX1_reckon 71 = .ok (.aload_n 0, 1) := by decide +kernel
theorem dX1_reckon_72 : decode cX1_reckon 72 = .ok (.iload 5, 2) := by decide +kernel
theorem dX1_reckon_74 : decode cX1_reckon 74 = .ok (.iload 6, 2) := by decide +kernel
theorem dX1_reckon_76 : decode cX1_reckon 76 = .ok (.aload_n 0, 1) := by decide +kernel
theorem dX1_reckon_77 : decode cX1_reckon 77 = .ok (.getfield 15, 3) := by decide +kernel
theorem dX1_reckon_80 : decode cX1_reckon 80 = .ok (.getfield 47, 3) := by decide +kernel
theorem dX1_reckon_83 : decode cX1_reckon 83 = .ok (.iload_n 1, 1) := by decide +kernel
theorem dX1_reckon_84 : decode cX1_reckon 84 = .ok (.iaload, 1) := by decide +kernel
theorem dX1_reckon_85 : decode cX1_reckon 85 = .ok (.invokevirtual 22, 3) := by decide +kernel
theorem dX1_reckon_88 : decode cX1_reckon 88 = .ok (.istore 5, 2) := by decide +kernel
theorem dX1_reckon_90 : decode cX1_reckon 90 = .ok (.iinc 6 1, 3) := by decide +kernel
theorem dX1_reckon_93 : decode cX1_reckon 93 = .ok (.goto (-64), 3) := by decide +kernel
theorem dX1_reckon_96 : decode cX1_reckon 96 = .ok (.aload_n 0, 1) := by decide +kernel
theorem dX1_reckon_97 : decode cX1_reckon 97 = .ok (.getfield 15, 3) := by decide +kernel
theorem dX1_reckon_100 : decode cX1_reckon 100 = .ok (.getfield 50, 3) := by decide +kernel
theorem dX1_reckon_103 : decode cX1_reckon 103 = .ok (.iload_n 1, 1) := by decide +kernel
theorem dX1_reckon_104 : decode cX1_reckon 104 = .ok (.iaload, 1) := by decide +kernel
theorem dX1_reckon_105 : decode cX1_reckon 105 = .ok (.istore 6, 2) := by decide +kernel
theorem dX1_reckon_107 : decode cX1_reckon 107 = .ok (.iload 5, 2) := by decide +kernel
theorem dX1_reckon_109 : decode cX1_reckon 109 = .ok (.iload 6, 2) := by decide +kernel
theorem dX1_reckon_111 : decode cX1_reckon 111 = .ok (.if_icmp .ne 7, 3) := by decide +kernel
theorem dX1_reckon_114 : decode cX1_reckon 114 = .ok (.iconst 4, 1) := by decide +kernel
theorem dX1_reckon_115 : decode cX1_reckon 115 = .ok (.goto 18, 3) := by decide +kernel
theorem dX1_reckon_118 : decode cX1_reckon 118 = .ok (.iload 5, 2) := by decide +kernel
theorem dX1_reckon_120 : decode cX1_reckon 120 = .ok (.iload 6, 2) := by decide +kernel
theorem dX1_reckon_122 : decode cX1_reckon 122 = .ok (.invokestatic 53, 3) := by decide +kernel
theorem dX1_reckon_125 : decode cX1_reckon 125 = .ok (.ifCond .eq 7, 3) := by decide +kernel
theorem dX1_reckon_128 : decode cX1_reckon 128 = .ok (.iconst 1, 1) := by decide +kernel
theorem dX1_reckon_129 : decode cX1_reckon 129 = .ok (.goto 4, 3) := by decide +kernel
theorem dX1_reckon_132 : decode cX1_reckon 132 = .ok (.iconst 0, 1) := by decide +kernel
theorem dX1_reckon_133 : decode cX1_reckon 133 = .ok (.ireturn, 1) := by decide +kernel
set_option maxRecDepth 20000 in
theorem ggX1_monthOn_X1_inSeason : GoodIn wsX1_monthOn wsX1_inSeason := goodIn_r _ [7] (by decide +kernel) (by decide +kernel)
set_option maxRecDepth 20000 in
theorem gX1_monthOn_X1_inSeason : GoodIn wsX1_monthOn (va_wsS RX1 41 yX1_inSeason wsX1_inSeason) := goodIn_app (goodIn_of _ (by decide +kernel)) ggX1_monthOn_X1_inSeason
set_option maxRecDepth 20000 in
theorem ggX1_monthOn_X6_ahead : GoodIn wsX1_monthOn wsX6_ahead := goodIn_r _ [10, 11, 12] (by decide +kernel) (by decide +kernel)
set_option maxRecDepth 20000 in
theorem gX1_monthOn_X6_ahead_n60 : GoodIn wsX1_monthOn (wsX6_ahead) := ggX1_monthOn_X6_ahead
theorem dX1_monthOn_0 : decode cX1_monthOn 0 = .ok (.iload_n 1, 1) := by decide +kernel
theorem dX1_monthOn_1 : decode cX1_monthOn 1 = .ok (.aload_n 0, 1) := by decide +kernel
theorem dX1_monthOn_2 : decode cX1_monthOn 2 = .ok (.getfield 15, 3) := by decide +kernel
theorem dX1_monthOn_5 : decode cX1_monthOn 5 = .ok (.getfield 57, 3) := by decide +kernel
theorem dX1_monthOn_8 : decode cX1_monthOn 8 = .ok (.iload_n 2, 1) := by decide +kernel
theorem dX1_monthOn_9 : decode cX1_monthOn 9 = .ok (.iload_n 1, 1) := by decide +kernel
theorem dX1_monthOn_10 : decode cX1_monthOn 10 = .ok (.invokestatic 41, 3) := by decide +kernel
theorem dX1_monthOn_13 : decode cX1_monthOn 13 = .ok (.iaload, 1) := by decide +kernel
theorem dX1_monthOn_14 : decode cX1_monthOn 14 = .ok (.iconst 1, 1) := by decide +kernel
theorem dX1_monthOn_15 : decode cX1_monthOn 15 = .ok (.invokestatic 60, 3) := by decide +kernel
theorem dX1_monthOn_18 : decode cX1_monthOn 18 = .ok (.istore 4, 2) := by decide +kernel
theorem dX1_monthOn_20 : decode cX1_monthOn 20 = .ok (.iload 4, 2) := by decide +kernel
theorem dX1_monthOn_22 : decode cX1_monthOn 22 = .ok (.iconst (-1), 1) := by decide +kernel
theorem dX1_monthOn_23 : decode cX1_monthOn 23 = .ok (.if_icmp .ne 7, 3) := by decide +kernel
theorem dX1_monthOn_26 : decode cX1_monthOn 26 = .ok (.iload_n 1, 1) := by decide +kernel
theorem dX1_monthOn_27 : decode cX1_monthOn 27 = .ok (.goto 5, 3) := by decide +kernel
theorem dX1_monthOn_30 : decode cX1_monthOn 30 = .ok (.iload 4, 2) := by decide +kernel
theorem dX1_monthOn_32 : decode cX1_monthOn 32 = .ok (.istore 5, 2) := by decide +kernel
theorem dX1_monthOn_34 : decode cX1_monthOn 34 = .ok (.iload_n 3, 1) := by decide +kernel
theorem dX1_monthOn_35 : decode cX1_monthOn 35 = .ok (.iconst 1, 1) := by decide +kernel
theorem dX1_monthOn_36 : decode cX1_monthOn 36 = .ok (.if_icmp .ne 22, 3) := by decide +kernel
theorem dX1_monthOn_39 : decode cX1_monthOn 39 = .ok (.iload 5, 2) := by decide +kernel
theorem dX1_monthOn_41 : decode cX1_monthOn 41 = .ok (.aload_n 0, 1) := by decide +kernel
theorem dX1_monthOn_42 : decode cX1_monthOn 42 = .ok (.getfield 15, 3) := by decide +kernel
theorem dX1_monthOn_45 : decode cX1_monthOn 45 = .ok (.getfield 63, 3) := by decide +kernel
theorem dX1_monthOn_48 : decode cX1_monthOn 48 = .ok (.bipush 7, 2) := by decide +kernel
theorem dX1_monthOn_50 : decode cX1_monthOn 50 = .ok (.iaload, 1) := by decide +kernel
theorem dX1_monthOn_51 : decode cX1_monthOn 51 = .ok (.iconst 1, 1) := by decide +kernel
theorem dX1_monthOn_52 : decode cX1_monthOn 52 = .ok (.invokestatic 60, 3) := by decide +kernel
theorem dX1_monthOn_55 : decode cX1_monthOn 55 = .ok (.goto 4, 3) := by decide +kernel
theorem dX1_monthOn_58 : decode cX1_monthOn 58 = .ok (.iconst (-1), 1) := by decide +kernel
theorem dX1_monthOn_59 : decode cX1_monthOn 59 = .ok (.istore 6, 2) := by decide +kernel
theorem dX1_monthOn_61 : decode cX1_monthOn 61 = .ok (.iload 6, 2) := by decide +kernel
theorem dX1_monthOn_63 : decode cX1_monthOn 63 = .ok (.iconst (-1), 1) := by decide +kernel
theorem dX1_monthOn_64 : decode cX1_monthOn 64 = .ok (.if_icmp .ne 8, 3) := by decide +kernel
theorem dX1_monthOn_67 : decode cX1_monthOn 67 = .ok (.iload 5, 2) := by decide +kernel
theorem dX1_monthOn_69 : decode cX1_monthOn 69 = .ok (.goto 5, 3) := by decide +kernel
theorem dX1_monthOn_72 : decode cX1_monthOn 72 = .ok (.iload 6, 2) := by decide +kernel
theorem dX1_monthOn_74 : decode cX1_monthOn 74 = .ok (.ireturn, 1) := by decide +kernel
theorem dX1_inSeason_0 : decode cX1_inSeason 0 = .ok (.bipush 100, 2) := by decide +kernel
theorem dX1_inSeason_2 : decode cX1_inSeason 2 = .ok (.iload_n 0, 1) := by decide +kernel
theorem dX1_inSeason_3 : decode cX1_inSeason 3 = .ok (.iconst 2, 1) := by decide +kernel
theorem dX1_inSeason_4 : decode cX1_inSeason 4 = .ok (.irem, 1) := by decide +kernel
theorem dX1_inSeason_5 : decode cX1_inSeason 5 = .ok (.imul, 1) := by decide +kernel
theorem dX1_inSeason_6 : decode cX1_inSeason 6 = .ok (.iload_n 1, 1) := by decide +kernel
theorem dX1_inSeason_7 : decode cX1_inSeason 7 = .ok (.iadd, 1) := by decide +kernel
theorem dX1_inSeason_8 : decode cX1_inSeason 8 = .ok (.ireturn, 1) := by decide +kernel
theorem dX1_isBeside_0 : decode cX1_isBeside 0 = .ok (.iload_n 0, 1) := by decide +kernel
theorem dX1_isBeside_1 : decode cX1_isBeside 1 = .ok (.bipush 10, 2) := by decide +kernel
theorem dX1_isBeside_3 : decode cX1_isBeside 3 = .ok (.idiv, 1) := by decide +kernel
theorem dX1_isBeside_4 : decode cX1_isBeside 4 = .ok (.iload_n 1, 1) := by decide +kernel
theorem dX1_isBeside_5 : decode cX1_isBeside 5 = .ok (.bipush 10, 2) := by decide +kernel
theorem dX1_isBeside_7 : decode cX1_isBeside 7 = .ok (.idiv, 1) := by decide +kernel
theorem dX1_isBeside_8 : decode cX1_isBeside 8 = .ok (.isub, 1) := by decide +kernel
theorem dX1_isBeside_9 : decode cX1_isBeside 9 = .ok (.invokestatic 66, 3) := by decide +kernel
theorem dX1_isBeside_12 : decode cX1_isBeside 12 = .ok (.istore_n 2, 1) := by decide +kernel
theorem dX1_isBeside_13 : decode cX1_isBeside 13 = .ok (.iload_n 0, 1) := by decide +kernel
theorem dX1_isBeside_14 : decode cX1_isBeside 14 = .ok (.bipush 10, 2) := by decide +kernel
theorem dX1_isBeside_16 : decode cX1_isBeside 16 = .ok (.irem, 1) := by decide +kernel
theorem dX1_isBeside_17 : decode cX1_isBeside 17 = .ok (.iload_n 1, 1) := by decide +kernel
theorem dX1_isBeside_18 : decode cX1_isBeside 18 = .ok (.bipush 10, 2) := by decide +kernel
theorem dX1_isBeside_20 : decode cX1_isBeside 20 = .ok (.irem, 1) := by decide +kernel
theorem dX1_isBeside_21 : decode cX1_isBeside 21 = .ok (.isub, 1) := by decide +kernel
theorem dX1_isBeside_22 : decode cX1_isBeside 22 = .ok (.invokestatic 66, 3) := by decide +kernel
theorem dX1_isBeside_25 : decode cX1_isBeside 25 = .ok (.istore_n 3, 1) := by decide +kernel
theorem dX1_isBeside_26 : decode cX1_isBeside 26 = .ok (.iload_n 2, 1) := by decide +kernel
theorem dX1_isBeside_27 : decode cX1_isBeside 27 = .ok (.iload_n 3, 1) := by decide +kernel
theorem dX1_isBeside_28 : decode cX1_isBeside 28 = .ok (.invokestatic 72, 3) := by decide +kernel
theorem dX1_isBeside_31 : decode cX1_isBeside 31 = .ok (.iconst 1, 1) := by decide +kernel
theorem dX1_isBeside_32 : decode cX1_isBeside 32 = .ok (.if_icmp .ne 7, 3) := by decide +kernel
theorem dX1_isBeside_35 : decode cX1_isBeside 35 = .ok (.iconst 1, 1) := by decide +kernel
theorem dX1_isBeside_36 : decode cX1_isBeside 36 = .ok (.goto 4, 3) := by decide +kernel
theorem dX1_isBeside_39 : decode cX1_isBeside 39 = .ok (.iconst 0, 1) := by decide +kernel
theorem dX1_isBeside_40 : decode cX1_isBeside 40 = .ok (.ireturn, 1) := by decide +kernel
theorem dX2_init_0 : decode cX2_init 0 = .ok (.aload_n 0, 1) := by decide +kernel
theorem dX2_init_1 : decode cX2_init 1 = .ok (.invokespecial 3, 3) := by decide +kernel
theorem dX2_init_4 : decode cX2_init 4 = .ok (.aload_n 0, 1) := by decide +kernel
theorem dX2_init_5 : decode cX2_init 5 = .ok (.bipush 16, 2) := by decide +kernel
theorem dX2_init_7 : decode cX2_init 7 = .ok (.newarray .int, 2) := by decide +kernel
theorem dX2_init_9 : decode cX2_init 9 = .ok (.putfield 9, 3) := by decide +kernel
theorem dX2_init_12 : decode cX2_init 12 = .ok (.aload_n 0, 1) := by decide +kernel
theorem dX2_init_13 : decode cX2_init 13 = .ok (.iconst (-1), 1) := by decide +kernel
theorem dX2_init_14 : decode cX2_init 14 = .ok (.putfield 15, 3) := by decide +kernel
theorem dX2_init_17 : decode cX2_init 17 = .ok (.aload_n 0, 1) := by decide +kernel
theorem dX2_init_18 : decode cX2_init 18 = .ok (.iconst 0, 1) := by decide +kernel
theorem dX2_init_19 : decode cX2_init 19 = .ok (.putfield 19, 3) := by decide +kernel
theorem dX2_init_22 : decode cX2_init 22 = .ok (.return_, 1) := by decide +kernel
theorem dX2_hold_0 : decode cX2_hold 0 = .ok (.aload_n 0, 1) := by decide +kernel
theorem dX2_hold_1 : decode cX2_hold 1 = .ok (.iload_n 1, 1) := by decide +kernel
theorem dX2_hold_2 : decode cX2_hold 2 = .ok (.putfield 15, 3) := by decide +kernel
theorem dX2_hold_5 : decode cX2_hold 5 = .ok (.aload_n 0, 1) := by decide +kernel
theorem dX2_hold_6 : decode cX2_hold 6 = .ok (.iload_n 2, 1) := by decide +kernel
theorem dX2_hold_7 : decode cX2_hold 7 = .ok (.putfield 19, 3) := by decide +kernel
theorem dX2_hold_10 : decode cX2_hold 10 = .ok (.iconst 0, 1) := by decide +kernel
theorem dX2_hold_11 : decode cX2_hold 11 = .ok (.istore_n 3, 1) := by decide +kernel
theorem dX2_hold_12 : decode cX2_hold 12 = .ok (.iload_n 3, 1) := by decide +kernel
theorem dX2_hold_13 : decode cX2_hold 13 = .ok (.bipush 16, 2) := by decide +kernel
theorem dX2_hold_15 : decode cX2_hold 15 = .ok (.if_icmp .ge 16, 3) := by decide +kernel
theorem dX2_hold_18 : decode cX2_hold 18 = .ok (.aload_n 0, 1) := by decide +kernel
theorem dX2_hold_19 : decode cX2_hold 19 = .ok (.getfield 9, 3) := by decide +kernel
theorem dX2_hold_22 : decode cX2_hold 22 = .ok (.iload_n 3, 1) := by decide +kernel
theorem dX2_hold_23 : decode cX2_hold 23 = .ok (.iconst 0, 1) := by decide +kernel
theorem dX2_hold_24 : decode cX2_hold 24 = .ok (.iastore, 1) := by decide +kernel
theorem dX2_hold_25 : decode cX2_hold 25 = .ok (.iinc 3 1, 3) := by decide +kernel
theorem dX2_hold_28 : decode cX2_hold 28 = .ok (.goto (-16), 3) := by decide +kernel
theorem dX2_hold_31 : decode cX2_hold 31 = .ok (.return_, 1) := by decide +kernel
theorem dX2_holdNothing_0 : decode cX2_holdNothing 0 = .ok (.aload_n 0, 1) := by decide +kernel
theorem dX2_holdNothing_1 : decode cX2_holdNothing 1 = .ok (.iconst (-1), 1) := by decide +kernel
theorem dX2_holdNothing_2 : decode cX2_holdNothing 2 = .ok (.putfield 15, 3) := by decide +kernel
theorem dX2_holdNothing_5 : decode cX2_holdNothing 5 = .ok (.aload_n 0, 1) := by decide +kernel
theorem dX2_holdNothing_6 : decode cX2_holdNothing 6 = .ok (.iconst 0, 1) := by decide +kernel
theorem dX2_holdNothing_7 : decode cX2_holdNothing 7 = .ok (.putfield 19, 3) := by decide +kernel
theorem dX2_holdNothing_10 : decode cX2_holdNothing 10 = .ok (.return_, 1) := by decide +kernel
theorem dX2_isNothing_0 : decode cX2_isNothing 0 = .ok (.aload_n 0, 1) := by decide +kernel
theorem dX2_isNothing_1 : decode cX2_isNothing 1 = .ok (.getfield 15, 3) := by decide +kernel
theorem dX2_isNothing_4 : decode cX2_isNothing 4 = .ok (.iconst (-1), 1) := by decide +kernel
theorem dX2_isNothing_5 : decode cX2_isNothing 5 = .ok (.if_icmp .ne 7, 3) := by decide +kernel
theorem dX2_isNothing_8 : decode cX2_isNothing 8 = .ok (.iconst 1, 1) := by decide +kernel
theorem dX2_isNothing_9 : decode cX2_isNothing 9 = .ok (.goto 4, 3) := by decide +kernel
theorem dX2_isNothing_12 : decode cX2_isNothing 12 = .ok (.iconst 0, 1) := by decide +kernel
theorem dX2_isNothing_13 : decode cX2_isNothing 13 = .ok (.ireturn, 1) := by decide +kernel
theorem dX2_has_0 : decode cX2_has 0 = .ok (.iload_n 1, 1) := by decide +kernel
theorem dX2_has_1 : decode cX2_has 1 = .ok (.ifCond .lt 29, 3) := by decide +kernel
theorem dX2_has_4 : decode cX2_has 4 = .ok (.iload_n 2, 1) := by decide +kernel
theorem dX2_has_5 : decode cX2_has 5 = .ok (.ifCond .lt 25, 3) := by decide +kernel
theorem dX2_has_8 : decode cX2_has 8 = .ok (.iload_n 2, 1) := by decide +kernel
theorem dX2_has_9 : decode cX2_has 9 = .ok (.aload_n 0, 1) := by decide +kernel
theorem dX2_has_10 : decode cX2_has 10 = .ok (.getfield 19, 3) := by decide +kernel
theorem dX2_has_13 : decode cX2_has 13 = .ok (.if_icmp .gt 17, 3) := by decide +kernel
theorem dX2_has_16 : decode cX2_has 16 = .ok (.iload_n 1, 1) := by decide +kernel
theorem dX2_has_17 : decode cX2_has 17 = .ok (.aload_n 0, 1) := by decide +kernel
theorem dX2_has_18 : decode cX2_has 18 = .ok (.getfield 19, 3) := by decide +kernel
theorem dX2_has_21 : decode cX2_has 21 = .ok (.iload_n 2, 1) := by decide +kernel
theorem dX2_has_22 : decode cX2_has 22 = .ok (.isub, 1) := by decide +kernel
theorem dX2_has_23 : decode cX2_has 23 = .ok (.if_icmp .gt 7, 3) := by decide +kernel
theorem dX2_has_26 : decode cX2_has 26 = .ok (.iconst 1, 1) := by decide +kernel
theorem dX2_has_27 : decode cX2_has 27 = .ok (.goto 4, 3) := by decide +kernel
theorem dX2_has_30 : decode cX2_has 30 = .ok (.iconst 0, 1) := by decide +kernel
theorem dX2_has_31 : decode cX2_has 31 = .ok (.ireturn, 1) := by decide +kernel
set_option maxRecDepth 20000 in
theorem ggX2_put_X2_has : GoodIn wsX2_put wsX2_has := goodIn_r _ [7, 8, 9, 10, 11] (by decide +kernel) (by decide +kernel)
set_option maxRecDepth 20000 in
theorem gX2_put_X2_has : GoodIn wsX2_put (wsV RX2 22 RX2 yX2_has wsX2_has) := goodIn_app (goodIn_of _ (by decide +kernel)) ggX2_put_X2_has
theorem dX2_put_0 : decode cX2_put 0 = .ok (.aload_n 0, 1) := by decide +kernel
theorem dX2_put_1 : decode cX2_put 1 = .ok (.iload_n 1, 1) := by decide +kernel
theorem dX2_put_2 : decode cX2_put 2 = .ok (.iconst 1, 1) := by decide +kernel
theorem dX2_put_3 : decode cX2_put 3 = .ok (.invokevirtual 22, 3) := by decide +kernel
theorem dX2_put_6 : decode cX2_put 6 = .ok (.ifCond .eq 35, 3) := by decide +kernel
theorem dX2_put_9 : decode cX2_put 9 = .ok (.aload_n 0, 1) := by decide +kernel
theorem dX2_put_10 : decode cX2_put 10 = .ok (.getfield 9, 3) := by decide +kernel
theorem dX2_put_13 : decode cX2_put 13 = .ok (.iload_n 1, 1) := by decide +kernel
theorem dX2_put_14 : decode cX2_put 14 = .ok (.aload_n 0, 1) := by decide +kernel
theorem dX2_put_15 : decode cX2_put 15 = .ok (.getfield 15, 3) := by decide +kernel
theorem dX2_put_18 : decode cX2_put 18 = .ok (.ifCond .ne 8, 3) := by decide +kernel
theorem dX2_put_21 : decode cX2_put 21 = .ok (.iload_n 2, 1) := by decide +kernel
theorem dX2_put_22 : decode cX2_put 22 = .ok (.i2b, 1) := by decide +kernel
theorem dX2_put_23 : decode cX2_put 23 = .ok (.goto 17, 3) := by decide +kernel
theorem dX2_put_26 : decode cX2_put 26 = .ok (.aload_n 0, 1) := by decide +kernel
theorem dX2_put_27 : decode cX2_put 27 = .ok (.getfield 15, 3) := by decide +kernel
theorem dX2_put_30 : decode cX2_put 30 = .ok (.iconst 1, 1) := by decide +kernel
theorem dX2_put_31 : decode cX2_put 31 = .ok (.if_icmp .ne 8, 3) := by decide +kernel
theorem dX2_put_34 : decode cX2_put 34 = .ok (.iload_n 2, 1) := by decide +kernel
theorem dX2_put_35 : decode cX2_put 35 = .ok (.i2s, 1) := by decide +kernel
theorem dX2_put_36 : decode cX2_put 36 = .ok (.goto 4, 3) := by decide +kernel
theorem dX2_put_39 : decode cX2_put 39 = .ok (.iload_n 2, 1) := by decide +kernel
theorem dX2_put_40 : decode cX2_put 40 = .ok (.iastore, 1) := by decide +kernel
theorem dX2_put_41 : decode cX2_put 41 = .ok (.return_, 1) := by decide +kernel
set_option maxRecDepth 20000 in
theorem ggX2_at_X2_has : GoodIn wsX2_at wsX2_has := goodIn_r _ [6, 7, 8, 9, 10] (by decide +kernel) (by decide +kernel)
set_option maxRecDepth 20000 in
theorem gX2_at_X2_has : GoodIn wsX2_at (wsV RX2 22 RX2 yX2_has wsX2_has) := goodIn_app (goodIn_of _ (by decide +kernel)) ggX2_at_X2_has
theorem dX2_at_0 : decode cX2_at 0 = .ok (.aload_n 0, 1) := by decide +kernel
theorem dX2_at_1 : decode cX2_at 1 = .ok (.iload_n 1, 1) := by decide +kernel
theorem dX2_at_2 : decode cX2_at 2 = .ok (.iconst 1, 1) := by decide +kernel
theorem dX2_at_3 : decode cX2_at 3 = .ok (.invokevirtual 22, 3) := by decide +kernel
theorem dX2_at_6 : decode cX2_at 6 = .ok (.ifCond .eq 12, 3) := by decide +kernel
theorem dX2_at_9 : decode cX2_at 9 = .ok (.aload_n 0, 1) := by decide +kernel
theorem dX2_at_10 : decode cX2_at 10 = .ok (.getfield 9, 3) := by decide +kernel
theorem dX2_at_13 : decode cX2_at 13 = .ok (.iload_n 1, 1) := by decide +kernel
theorem dX2_at_14 : decode cX2_at 14 = .ok (.iaload, 1) := by decide +kernel
theorem dX2_at_15 : decode cX2_at 15 = .ok (.goto 4, 3) := by decide +kernel
theorem dX2_at_18 : decode cX2_at 18 = .ok (.iconst (-1), 1) := by decide +kernel
theorem dX2_at_19 : decode cX2_at 19 = .ok (.ireturn, 1) := by decide +kernel
theorem dX3_init_0 : decode cX3_init 0 = .ok (.aload_n 0, 1) := by decide +kernel
theorem dX3_init_1 : decode cX3_init 1 = .ok (.invokespecial 3, 3) := by decide +kernel
theorem dX3_init_4 : decode cX3_init 4 = .ok (.aload_n 0, 1) := by decide +kernel
theorem dX3_init_5 : decode cX3_init 5 = .ok (.bipush 60, 2) := by decide +kernel
theorem dX3_init_7 : decode cX3_init 7 = .ok (.newarray .int, 2) := by decide +kernel
theorem dX3_init_9 : decode cX3_init 9 = .ok (.putfield 11, 3) := by decide +kernel
theorem dX3_init_12 : decode cX3_init 12 = .ok (.aload_n 0, 1) := by decide +kernel
theorem dX3_init_13 : decode cX3_init 13 = .ok (.iconst 0, 1) := by decide +kernel
theorem dX3_init_14 : decode cX3_init 14 = .ok (.putfield 15, 3) := by decide +kernel
theorem dX3_init_17 : decode cX3_init 17 = .ok (.aload_n 0, 1) := by decide +kernel
theorem dX3_init_18 : decode cX3_init 18 = .ok (.iconst 0, 1) := by decide +kernel
theorem dX3_init_19 : decode cX3_init 19 = .ok (.putfield 19, 3) := by decide +kernel
theorem dX3_init_22 : decode cX3_init 22 = .ok (.aload_n 0, 1) := by decide +kernel
theorem dX3_init_23 : decode cX3_init 23 = .ok (.bipush 7, 2) := by decide +kernel
theorem dX3_init_25 : decode cX3_init 25 = .ok (.newarray .int, 2) := by decide +kernel
theorem dX3_init_27 : decode cX3_init 27 = .ok (.putfield 22, 3) := by decide +kernel
theorem dX3_init_30 : decode cX3_init 30 = .ok (.aload_n 0, 1) := by decide +kernel
theorem dX3_init_31 : decode cX3_init 31 = .ok (.bipush 7, 2) := by decide +kernel
theorem dX3_init_33 : decode cX3_init 33 = .ok (.newarray .int, 2) := by decide +kernel
theorem dX3_init_35 : decode cX3_init 35 = .ok (.putfield 25, 3) := by decide +kernel
theorem dX3_init_38 : decode cX3_init 38 = .ok (.aload_n 0, 1) := by decide +kernel
theorem dX3_init_39 : decode cX3_init 39 = .ok (.bipush 10, 2) := by decide +kernel
theorem dX3_init_41 : decode cX3_init 41 = .ok (.newarray .int, 2) := by decide +kernel
theorem dX3_init_43 : decode cX3_init 43 = .ok (.putfield 28, 3) := by decide +kernel
theorem dX3_init_46 : decode cX3_init 46 = .ok (.return_, 1) := by decide +kernel
set_option maxRecDepth 20000 in
theorem ggX3_add_X3_byteOf : GoodIn wsX3_add wsX3_byteOf := goodIn_r _ [6] (by decide +kernel) (by decide +kernel)
set_option maxRecDepth 20000 in
theorem gX3_add_X3_byteOf : GoodIn wsX3_add (va_wsS RX3 31 yX3_byteOf wsX3_byteOf) := goodIn_app (goodIn_of _ (by decide +kernel)) ggX3_add_X3_byteOf
theorem dX3_add_0 : decode cX3_add 0 = .ok (.iload_n 3, 1) := by decide +kernel
theorem dX3_add_1 : decode cX3_add 1 = .ok (.iconst 1, 1) := by decide +kernel
theorem dX3_add_2 : decode cX3_add 2 = .ok (.if_icmp .lt 9, 3) := by decide +kernel
theorem dX3_add_5 : decode cX3_add 5 = .ok (.iload_n 3, 1) := by decide +kernel
theorem dX3_add_6 : decode cX3_add 6 = .ok (.bipush 8, 2) := by decide +kernel
theorem dX3_add_8 : decode cX3_add 8 = .ok (.if_icmp .le 5, 3) := by decide +kernel
theorem dX3_add_11 : decode cX3_add 11 = .ok (.iconst (-1), 1) := by decide +kernel
theorem dX3_add_12 : decode cX3_add 12 = .ok (.ireturn, 1) := by decide +kernel
theorem dX3_add_13 : decode cX3_add 13 = .ok (.iconst 0, 1) := by decide +kernel
theorem dX3_add_14 : decode cX3_add 14 = .ok (.istore 4, 2) := by decide +kernel
theorem dX3_add_16 : decode cX3_add 16 = .ok (.iload 4, 2) := by decide +kernel
theorem dX3_add_18 : decode cX3_add 18 = .ok (.iload_n 3, 1) := by decide +kernel
theorem dX3_add_19 : decode cX3_add 19 = .ok (.if_icmp .ge 33, 3) := by decide +kernel
theorem dX3_add_22 : decode cX3_add 22 = .ok (.lload_n 1, 1) := by decide +kernel
theorem dX3_add_23 : decode cX3_add 23 = .ok (.iload 4, 2) := by decide +kernel
theorem dX3_add_25 : decode cX3_add 25 = .ok (.invokestatic 31, 3) := by decide +kernel
theorem dX3_add_28 : decode cX3_add 28 = .ok (.bipush 32, 2) := by decide +kernel
theorem dX3_add_30 : decode cX3_add 30 = .ok (.if_icmp .lt 14, 3) := by decide +kernel
theorem dX3_add_33 : decode cX3_add 33 = .ok (.lload_n 1, 1) := by decide +kernel
theorem dX3_add_34 : decode cX3_add 34 = .ok (.iload 4, 2) := by decide +kernel
theorem dX3_add_36 : decode cX3_add 36 = .ok (.invokestatic 31, 3) := by decide +kernel
theorem dX3_add_39 : decode cX3_add 39 = .ok (.bipush 126, 2) := by decide +kernel
theorem dX3_add_41 : decode cX3_add 41 = .ok (.if_icmp .le 5, 3) := by decide +kernel
theorem dX3_add_44 : decode cX3_add 44 = .ok (.iconst (-1), 1) := by decide +kernel
theorem dX3_add_45 : decode cX3_add 45 = .ok (.ireturn, 1) := by decide +kernel
theorem dX3_add_46 : decode cX3_add 46 = .ok (.iinc 4 1, 3) := by decide +kernel
theorem dX3_add_49 : decode cX3_add 49 = .ok (.goto (-33), 3) := by decide +kernel
theorem dX3_add_52 : decode cX3_add 52 = .ok (.aload_n 0, 1) := by decide +kernel
theorem dX3_add_53 : decode cX3_add 53 = .ok (.getfield 15, 3) := by decide +kernel
theorem dX3_add_56 : decode cX3_add 56 = .ok (.iload_n 3, 1) := by decide +kernel
theorem dX3_add_57 : decode cX3_add 57 = .ok (.iadd, 1) := by decide +kernel
theorem dX3_add_58 : decode cX3_add 58 = .ok (.bipush 60, 2) := by decide +kernel
theorem dX3_add_60 : decode cX3_add 60 = .ok (.if_icmp .le 6, 3) := by decide +kernel
theorem dX3_add_63 : decode cX3_add 63 = .ok (.bipush (-3), 2) := by decide +kernel
theorem dX3_add_65 : decode cX3_add 65 = .ok (.ireturn, 1) := by decide +kernel
theorem dX3_add_66 : decode cX3_add 66 = .ok (.iload_n 3, 1) := by decide +kernel
theorem dX3_add_67 : decode cX3_add 67 = .ok (.iconst 1, 1) := by decide +kernel
theorem dX3_add_68 : decode cX3_add 68 = .ok (.isub, 1) := by decide +kernel
theorem dX3_add_69 : decode cX3_add 69 = .ok (.istore 4, 2) := by decide +kernel
theorem dX3_add_71 : decode cX3_add 71 = .ok (.iload 4, 2) := by decide +kernel
theorem dX3_add_73 : decode cX3_add 73 = .ok (.ifCond .lt 34, 3) := by decide +kernel
theorem dX3_add_76 : decode cX3_add 76 = .ok (.aload_n 0, 1) := by decide +kernel
theorem dX3_add_77 : decode cX3_add 77 = .ok (.getfield 11, 3) := by decide +kernel
theorem dX3_add_80 : decode cX3_add 80 = .ok (.aload_n 0, 1) := by decide +kernel
theorem dX3_add_81 : decode cX3_add 81 = .ok (.getfield 15, 3) := by decide +kernel
theorem dX3_add_84 : decode cX3_add 84 = .ok (.lload_n 1, 1) := by decide +kernel
theorem dX3_add_85 : decode cX3_add 85 = .ok (.iload 4, 2) := by decide +kernel
theorem dX3_add_87 : decode cX3_add 87 = .ok (.invokestatic 31, 3) := by decide +kernel
theorem dX3_add_90 : decode cX3_add 90 = .ok (.iastore, 1) := by decide +kernel
theorem dX3_add_91 : decode cX3_add 91 = .ok (.aload_n 0, 1) := by decide +kernel
theorem dX3_add_92 : decode cX3_add 92 = .ok (.dup, 1) := by decide +kernel
theorem dX3_add_93 : decode cX3_add 93 = .ok (.getfield 15, 3) := by decide +kernel
theorem dX3_add_96 : decode cX3_add 96 = .ok (.iconst 1, 1) := by decide +kernel
theorem dX3_add_97 : decode cX3_add 97 = .ok (.iadd, 1) := by decide +kernel
theorem dX3_add_98 : decode cX3_add 98 = .ok (.putfield 15, 3) := by decide +kernel
theorem dX3_add_101 : decode cX3_add 101 = .ok (.iinc 4 (-1), 3) := by decide +kernel
theorem dX3_add_104 : decode cX3_add 104 = .ok (.goto (-33), 3) := by decide +kernel
theorem dX3_add_107 : decode cX3_add 107 = .ok (.aload_n 0, 1) := by decide +kernel
theorem dX3_add_108 : decode cX3_add 108 = .ok (.getfield 15, 3) := by decide +kernel
theorem dX3_add_111 : decode cX3_add 111 = .ok (.ireturn, 1) := by decide +kernel
theorem dX3_byteOf_0 : decode cX3_byteOf 0 = .ok (.lload_n 0, 1) := by decide +kernel
theorem dX3_byteOf_1 : decode cX3_byteOf 1 = .ok (.bipush 8, 2) := by decide +kernel
theorem dX3_byteOf_3 : decode cX3_byteOf 3 = .ok (.iload_n 2, 1) := by decide +kernel
theorem dX3_byteOf_4 : decode cX3_byteOf 4 = .ok (.imul, 1) := by decide +kernel
theorem dX3_byteOf_5 : decode cX3_byteOf 5 = .ok (.lushr, 1) := by decide +kernel
theorem dX3_byteOf_6 : decode cX3_byteOf 6 = .ok (.l2i, 1) := by decide +kernel
theorem dX3_byteOf_7 : decode cX3_byteOf 7 = .ok (.sipush 255, 3) := by decide +kernel
theorem dX3_byteOf_10 : decode cX3_byteOf 10 = .ok (.iand, 1) := by decide +kernel
theorem dX3_byteOf_11 : decode cX3_byteOf 11 = .ok (.ireturn, 1) := by decide +kernel
theorem dX3_empty_0 : decode cX3_empty 0 = .ok (.aload_n 0, 1) := by decide +kernel
theorem dX3_empty_1 : decode cX3_empty 1 = .ok (.iconst 0, 1) := by decide +kernel
theorem dX3_empty_2 : decode cX3_empty 2 = .ok (.putfield 15, 3) := by decide +kernel
theorem dX3_empty_5 : decode cX3_empty 5 = .ok (.return_, 1) := by decide +kernel
set_option maxRecDepth 20000 in
theorem ggX3_readRings_X3_scanRings : GoodIn wsX3_readRings wsX3_scanRings := goodIn_r _ [7, 8, 1, 9, 10, 11, 6, 12, 13, 14, 15, 16, 17, 18, 19, 20, 21, 22, 23, 24, 25, 26, 27, 28, 29, 30, 31, 32, 33, 34, 2, 35, 36, 37, 38, 39, 40, 41, 42, 43, 44] (by decide +kernel) (by decide +kernel)
set_option maxRecDepth 20000 in
theorem gX3_readRings_X3_scanRings : GoodIn wsX3_readRings (wsV RX3 35 RX3 yX3_scanRings wsX3_scanRings) := goodIn_app (goodIn_of _ (by decide +kernel)) ggX3_readRings_X3_scanRings
theorem dX3_readRings_0 : decode cX3_readRings 0 = .ok (.aload_n 0, 1) := by decide +kernel
theorem dX3_readRings_1 : decode cX3_readRings 1 = .ok (.invokevirtual 35, 3) := by decide +kernel
theorem dX3_readRings_4 : decode cX3_readRings 4 = .ok (.istore_n 3, 1) := by decide +kernel
theorem dX3_readRings_5 : decode cX3_readRings 5 = .ok (.iconst 1, 1) := by decide +kernel
theorem dX3_readRings_6 : decode cX3_readRings 6 = .ok (.istore 4, 2) := by decide +kernel
theorem dX3_readRings_8 : decode cX3_readRings 8 = .ok (.iload 4, 2) := by decide +kernel
theorem dX3_readRings_10 : decode cX3_readRings 10 = .ok (.bipush 6, 2) := by decide +kernel
theorem dX3_readRings_12 : decode cX3_readRings 12 = .ok (.if_icmp .gt 47, 3) := by decide +kernel
theorem dX3_readRings_15 : decode cX3_readRings 15 = .ok (.iload_n 3, 1) := by decide +kernel
theorem dX3_readRings_16 : decode cX3_readRings 16 = .ok (.ifCond .le 43, 3) := by decide +kernel
theorem dX3_readRings_19 : decode cX3_readRings 19 = .ok (.aload_n 0, 1) := by decide +kernel
theorem dX3_readRings_20 : decode cX3_readRings 20 = .ok (.getfield 22, 3) := by decide +kernel
theorem dX3_readRings_23 : decode cX3_readRings 23 = .ok (.iload 4, 2) := by decide +kernel
theorem dX3_readRings_25 : decode cX3_readRings 25 = .ok (.iaload, 1) := by decide +kernel
theorem dX3_readRings_26 : decode cX3_readRings 26 = .ok (.bipush (-2), 2) := by decide +kernel
theorem dX3_readRings_28 : decode cX3_readRings 28 = .ok (.if_icmp .eq 25, 3) := by decide +kernel
theorem dX3_readRings_31 : decode cX3_readRings 31 = .ok (.aload_n 1, 1) := by decide +kernel
theorem dX3_readRings_32 : decode cX3_readRings 32 = .ok (.iload 4, 2) := by decide +kernel
theorem dX3_readRings_34 : decode cX3_readRings 34 = .ok (.aload_n 0, 1) := by decide +kernel
theorem dX3_readRings_35 : decode cX3_readRings 35 = .ok (.getfield 22, 3) := by decide +kernel
theorem dX3_readRings_38 : decode cX3_readRings 38 = .ok (.iload 4, 2) := by decide +kernel
theorem dX3_readRings_40 : decode cX3_readRings 40 = .ok (.iaload, 1) := by decide +kernel
theorem dX3_readRings_41 : decode cX3_readRings 41 = .ok (.iastore, 1) := by decide +kernel
theorem dX3_readRings_42 : decode cX3_readRings 42 = .ok (.aload_n 2, 1) := by decide +kernel
theorem dX3_readRings_43 : decode cX3_readRings 43 = .ok (.iload 4, 2) := by decide +kernel
theorem dX3_readRings_45 : decode cX3_readRings 45 = .ok (.aload_n 0, 1) := by decide +kernel
theorem dX3_readRings_46 : decode cX3_readRings 46 = .ok (.getfield 25, 3) := by decide +kernel
theorem dX3_readRings_49 : decode cX3_readRings 49 = .ok (.iload 4, 2) := by decide +kernel
theorem dX3_readRings_51 : decode cX3_readRings 51 = .ok (.iaload, 1) := by decide +kernel
theorem dX3_readRings_52 : decode cX3_readRings 52 = .ok (.iastore, 1) := by decide +kernel
theorem dX3_readRings_53 : decode cX3_readRings 53 = .ok (.iinc 4 1, 3) := by decide +kernel
theorem dX3_readRings_56 : decode cX3_readRings 56 = .ok (.goto (-48), 3) := by decide +kernel
theorem dX3_readRings_59 : decode cX3_readRings 59 = .ok (.iload_n 3, 1) := by decide +kernel
theorem dX3_readRings_60 : decode cX3_readRings 60 = .ok (.ireturn, 1) := by decide +kernel
set_option maxRecDepth 20000 in
theorem ggX3_scanRings_X3_number : GoodIn wsX3_scanRings wsX3_number := goodIn_r _ [7, 1, 8, 9, 10, 11, 12, 13, 14, 15, 16, 6, 17, 35, 36, 37, 38, 39, 40] (by decide +kernel) (by decide +kernel)
set_option maxRecDepth 20000 in
theorem gX3_scanRings_X3_number : GoodIn wsX3_scanRings (wsV RX3 39 RX3 yX3_number wsX3_number) := goodIn_app (goodIn_of _ (by decide +kernel)) ggX3_scanRings_X3_number
set_option maxRecDepth 20000 in
theorem ggX3_scanRings_X3_passes : GoodIn wsX3_scanRings wsX3_passes := goodIn_r _ [21, 9, 1, 22, 23, 24, 6, 25, 8, 14, 15, 16, 17, 35, 36, 37, 38, 39, 40] (by decide +kernel) (by decide +kernel)
set_option maxRecDepth 20000 in
theorem gX3_scanRings_X3_passes : GoodIn wsX3_scanRings (wsV RX3 43 RX3 yX3_passes wsX3_passes) := goodIn_app (goodIn_of _ (by decide +kernel)) ggX3_scanRings_X3_passes
set_option maxRecDepth 20000 in
theorem ggX3_scanRings_X3_scanRing : GoodIn wsX3_scanRings wsX3_scanRing := goodIn_r _ [29, 2, 30, 18, 19, 20, 6, 21, 9, 1, 22, 23, 24, 25, 8, 14, 15, 16, 17, 3, 4, 5, 7, 10, 11, 12, 13, 35, 36, 37, 38, 39, 40] (by decide +kernel) (by decide +kernel)
set_option maxRecDepth 20000 in
theorem gX3_scanRings_X3_scanRing : GoodIn wsX3_scanRings (wsV RX3 47 RX3 yX3_scanRing wsX3_scanRing) := goodIn_app (goodIn_of _ (by decide +kernel)) ggX3_scanRings_X3_scanRing
set_option maxRecDepth 20000 in
theorem ggX3_scanRings_X3_fault : GoodIn wsX3_scanRings wsX3_fault := goodIn_r _ [34, 1, 14, 15, 16, 6, 17, 8, 9, 35, 36, 37, 38, 39, 40] (by decide +kernel) (by decide +kernel)
set_option maxRecDepth 20000 in
theorem gX3_scanRings_X3_fault : GoodIn wsX3_scanRings (wsV RX3 50 RX3 yX3_fault wsX3_fault) := goodIn_app (goodIn_of _ (by decide +kernel)) ggX3_scanRings_X3_fault
set_option maxRecDepth 20000 in
theorem ggX3_scanRings_X3_isAtEnd : GoodIn wsX3_scanRings wsX3_isAtEnd := goodIn_r _ [25, 1, 8, 14, 15, 16, 6, 17, 9, 35, 36, 37, 38, 39, 40] (by decide +kernel) (by decide +kernel)
set_option maxRecDepth 20000 in
theorem gX3_scanRings_X3_isAtEnd : GoodIn wsX3_scanRings (wsV RX3 53 RX3 yX3_isAtEnd wsX3_isAtEnd) := goodIn_app (goodIn_of _ (by decide +kernel)) ggX3_scanRings_X3_isAtEnd
theorem dX3_scanRings_0 : decode cX3_scanRings 0 = .ok (.aload_n 0, 1) := by decide +kernel
theorem dX3_scanRings_1 : decode cX3_scanRings 1 = .ok (.iconst 0, 1) := by decide +kernel
theorem dX3_scanRings_2 : decode cX3_scanRings 2 = .ok (.putfield 19, 3) := by decide +kernel
theorem dX3_scanRings_5 : decode cX3_scanRings 5 = .ok (.iconst 0, 1) := by decide +kernel
theorem dX3_scanRings_6 : decode cX3_scanRings 6 = .ok (.istore_n 1, 1) := by decide +kernel
theorem dX3_scanRings_7 : decode cX3_scanRings 7 = .ok (.iload_n 1, 1) := by decide +kernel
theorem dX3_scanRings_8 : decode cX3_scanRings 8 = .ok (.bipush 6, 2) := by decide +kernel
theorem dX3_scanRings_10 : decode cX3_scanRings 10 = .ok (.if_icmp .gt 17, 3) := by decide +kernel
theorem dX3_scanRings_13 : decode cX3_scanRings 13 = .ok (.aload_n 0, 1) := by decide +kernel
theorem dX3_scanRings_14 : decode cX3_scanRings 14 = .ok (.getfield 22, 3) := by decide +kernel
theorem dX3_scanRings_17 : decode cX3_scanRings 17 = .ok (.iload_n 1, 1) := by decide +kernel
theorem dX3_scanRings_18 : decode cX3_scanRings 18 = .ok (.bipush (-2), 2) := by decide +kernel
theorem dX3_scanRings_20 : decode cX3_scanRings 20 = .ok (.iastore, 1) := by decide +kernel
theorem dX3_scanRings_21 : decode cX3_scanRings 21 = .ok (.iinc 1 1, 3) := by decide +kernel
theorem dX3_scanRings_24 : decode cX3_scanRings 24 = .ok (.goto (-17), 3) := by decide +kernel
theorem dX3_scanRings_27 : decode cX3_scanRings 27 = .ok (.iconst 0, 1) := by decide +kernel
theorem dX3_scanRings_28 : decode cX3_scanRings 28 = .ok (.istore_n 1, 1) := by decide +kernel
theorem dX3_scanRings_29 : decode cX3_scanRings 29 = .ok (.iconst 1, 1) := by decide +kernel
theorem dX3_scanRings_30 : decode cX3_scanRings 30 = .ok (.istore_n 2, 1) := by decide +kernel
theorem dX3_scanRings_31 : decode cX3_scanRings 31 = .ok (.iload_n 2, 1) := by decide +kernel
theorem dX3_scanRings_32 : decode cX3_scanRings 32 = .ok (.bipush 6, 2) := by decide +kernel
theorem dX3_scanRings_34 : decode cX3_scanRings 34 = .ok (.if_icmp .gt 75, 3) := by decide +kernel
theorem dX3_scanRings_37 : decode cX3_scanRings 37 = .ok (.aload_n 0, 1) := by decide +kernel
theorem dX3_scanRings_38 : decode cX3_scanRings 38 = .ok (.iload_n 1, 1) := by decide +kernel
theorem dX3_scanRings_39 : decode cX3_scanRings 39 = .ok (.iconst 1, 1) := by decide +kernel
theorem dX3_scanRings_40 : decode cX3_scanRings 40 = .ok (.iadd, 1) := by decide +kernel
theorem dX3_scanRings_41 : decode cX3_scanRings 41 = .ok (.bipush 6, 2) := by decide +kernel
theorem dX3_scanRings_43 : decode cX3_scanRings 43 = .ok (.invokevirtual 39, 3) := by decide +kernel
theorem dX3_scanRings_46 : decode cX3_scanRings 46 = .ok (.istore_n 1, 1) := by decide +kernel
theorem dX3_scanRings_47 : decode cX3_scanRings 47 = .ok (.iload_n 1, 1) := by decide +kernel
theorem dX3_scanRings_48 : decode cX3_scanRings 48 = .ok (.iconst (-1), 1) := by decide +kernel
theorem dX3_scanRings_49 : decode cX3_scanRings 49 = .ok (.if_icmp .eq 20, 3) := by decide +kernel
theorem dX3_scanRings_52 : decode cX3_scanRings 52 = .ok (.aload_n 0, 1) := by decide +kernel
theorem dX3_scanRings_53 : decode cX3_scanRings 53 = .ok (.bipush 58, 2) := by decide +kernel
theorem dX3_scanRings_55 : decode cX3_scanRings 55 = .ok (.invokevirtual 43, 3) := by decide +kernel
theorem dX3_scanRings_58 : decode cX3_scanRings 58 = .ok (.ifCond .eq 11, 3) := by decide +kernel
theorem dX3_scanRings_61 : decode cX3_scanRings 61 = .ok (.aload_n 0, 1) := by decide +kernel
theorem dX3_scanRings_62 : decode cX3_scanRings 62 = .ok (.iload_n 1, 1) := by decide +kernel
theorem dX3_scanRings_63 : decode cX3_scanRings 63 = .ok (.invokevirtual 47, 3) := by decide +kernel
theorem dX3_scanRings_66 : decode cX3_scanRings 66 = .ok (.ifCond .ne 8, 3) := by decide +kernel
theorem dX3_scanRings_69 : decode cX3_scanRings 69 = .ok (.aload_n 0, 1) := by decide +kernel
theorem dX3_scanRings_70 : decode cX3_scanRings 70 = .ok (.invokevirtual 50, 3) := by decide +kernel
theorem dX3_scanRings_73 : decode cX3_scanRings 73 = .ok (.ireturn, 1) := by decide +kernel
theorem dX3_scanRings_74 : decode cX3_scanRings 74 = .ok (.aload_n 0, 1) := by decide +kernel
theorem dX3_scanRings_75 : decode cX3_scanRings 75 = .ok (.invokevirtual 53, 3) := by decide +kernel
theorem dX3_scanRings_78 : decode cX3_scanRings 78 = .ok (.ifCond .eq 5, 3) := by decide +kernel
theorem dX3_scanRings_81 : decode cX3_scanRings 81 = .ok (.iload_n 2, 1) := by decide +kernel
theorem dX3_scanRings_82 : decode cX3_scanRings 82 = .ok (.ireturn, 1) := by decide +kernel
theorem dX3_scanRings_83 : decode cX3_scanRings 83 = .ok (.iload_n 2, 1) := by decide +kernel
theorem dX3_scanRings_84 : decode cX3_scanRings 84 = .ok (.bipush 6, 2) := by decide +kernel
theorem dX3_scanRings_86 : decode cX3_scanRings 86 = .ok (.if_icmp .eq 12, 3) := by decide +kernel
theorem dX3_scanRings_89 : decode cX3_scanRings 89 = .ok (.aload_n 0, 1) := by decide +kernel
theorem dX3_scanRings_90 : decode cX3_scanRings 90 = .ok (.bipush 59, 2) := by decide +kernel
theorem dX3_scanRings_92 : decode cX3_scanRings 92 = .ok (.invokevirtual 43, 3) := by decide +kernel
theorem dX3_scanRings_95 : decode cX3_scanRings 95 = .ok (.ifCond .ne 8, 3) := by decide +kernel
theorem dX3_scanRings_98 : decode cX3_scanRings 98 = .ok (.aload_n 0, 1) := by decide +kernel
theorem dX3_scanRings_99 : decode cX3_scanRings 99 = .ok (.invokevirtual 50, 3) := by decide +kernel
theorem dX3_scanRings_102 : decode cX3_scanRings 102 = .ok (.ireturn, 1) := by decide +kernel
theorem dX3_scanRings_103 : decode cX3_scanRings 103 = .ok (.iinc 2 1, 3) := by decide +kernel
theorem dX3_scanRings_106 : decode cX3_scanRings 106 = .ok (.goto (-75), 3) := by decide +kernel
theorem dX3_scanRings_109 : decode cX3_scanRings 109 = .ok (.aload_n 0, 1) := by decide +kernel
theorem dX3_scanRings_110 : decode cX3_scanRings 110 = .ok (.invokevirtual 50, 3) := by decide +kernel
theorem dX3_scanRings_113 : decode cX3_scanRings 113 = .ok (.ireturn, 1) := by decide +kernel
set_option maxRecDepth 20000 in
theorem ggX3_scanRing_X3_passes : GoodIn wsX3_scanRing wsX3_passes := goodIn_r _ [7, 8, 9, 10, 11, 12, 6, 13, 14, 15, 16, 17, 18, 27, 28, 29, 30, 31, 32] (by decide +kernel) (by decide +kernel)
set_option maxRecDepth 20000 in
theorem gX3_scanRing_X3_passes : GoodIn wsX3_scanRing (wsV RX3 43 RX3 yX3_passes wsX3_passes) := goodIn_app (goodIn_of _ (by decide +kernel)) ggX3_scanRing_X3_passes
set_option maxRecDepth 20000 in
theorem ggX3_scanRing_X3_number : GoodIn wsX3_scanRing wsX3_number := goodIn_r _ [22, 9, 14, 8, 23, 24, 25, 26, 15, 16, 17, 6, 18, 27, 28, 29, 30, 31, 32] (by decide +kernel) (by decide +kernel)
set_option maxRecDepth 20000 in
theorem gX3_scanRing_X3_number : GoodIn wsX3_scanRing (wsV RX3 39 RX3 yX3_number wsX3_number) := goodIn_app (goodIn_of _ (by decide +kernel)) ggX3_scanRing_X3_number
theorem dX3_scanRing_0 : decode cX3_scanRing 0 = .ok (.aload_n 0, 1) := by decide +kernel
theorem dX3_scanRing_1 : decode cX3_scanRing 1 = .ok (.getfield 22, 3) := by decide +kernel
theorem dX3_scanRing_4 : decode cX3_scanRing 4 = .ok (.iload_n 1, 1) := by decide +kernel
theorem dX3_scanRing_5 : decode cX3_scanRing 5 = .ok (.iconst (-1), 1) := by decide +kernel
theorem dX3_scanRing_6 : decode cX3_scanRing 6 = .ok (.iastore, 1) := by decide +kernel
theorem dX3_scanRing_7 : decode cX3_scanRing 7 = .ok (.aload_n 0, 1) := by decide +kernel
theorem dX3_scanRing_8 : decode cX3_scanRing 8 = .ok (.bipush 63, 2) := by decide +kernel
theorem dX3_scanRing_10 : decode cX3_scanRing 10 = .ok (.invokevirtual 43, 3) := by decide +kernel
theorem dX3_scanRing_13 : decode cX3_scanRing 13 = .ok (.ifCond .ne 25, 3) := by decide +kernel
theorem dX3_scanRing_16 : decode cX3_scanRing 16 = .ok (.aload_n 0, 1) := by decide +kernel
theorem dX3_scanRing_17 : decode cX3_scanRing 17 = .ok (.iconst 0, 1) := by decide +kernel
theorem dX3_scanRing_18 : decode cX3_scanRing 18 = .ok (.bipush 40, 2) := by decide +kernel
theorem dX3_scanRing_20 : decode cX3_scanRing 20 = .ok (.invokevirtual 39, 3) := by decide +kernel
theorem dX3_scanRing_23 : decode cX3_scanRing 23 = .ok (.istore_n 2, 1) := by decide +kernel
theorem dX3_scanRing_24 : decode cX3_scanRing 24 = .ok (.iload_n 2, 1) := by decide +kernel
theorem dX3_scanRing_25 : decode cX3_scanRing 25 = .ok (.iconst (-1), 1) := by decide +kernel
theorem dX3_scanRing_26 : decode cX3_scanRing 26 = .ok (.if_icmp .ne 5, 3) := by decide +kernel
theorem dX3_scanRing_29 : decode cX3_scanRing 29 = .ok (.iconst 0, 1) := by decide +kernel
theorem dX3_scanRing_30 : decode cX3_scanRing 30 = .ok (.ireturn, 1) := by decide +kernel
theorem dX3_scanRing_31 : decode cX3_scanRing 31 = .ok (.aload_n 0, 1) := by decide +kernel
theorem dX3_scanRing_32 : decode cX3_scanRing 32 = .ok (.getfield 22, 3) := by decide +kernel
theorem dX3_scanRing_35 : decode cX3_scanRing 35 = .ok (.iload_n 1, 1) := by decide +kernel
theorem dX3_scanRing_36 : decode cX3_scanRing 36 = .ok (.iload_n 2, 1) := by decide +kernel
theorem dX3_scanRing_37 : decode cX3_scanRing 37 = .ok (.iastore, 1) := by decide +kernel
theorem dX3_scanRing_38 : decode cX3_scanRing 38 = .ok (.aload_n 0, 1) := by decide +kernel
theorem dX3_scanRing_39 : decode cX3_scanRing 39 = .ok (.getfield 25, 3) := by decide +kernel
theorem dX3_scanRing_42 : decode cX3_scanRing 42 = .ok (.iload_n 1, 1) := by decide +kernel
theorem dX3_scanRing_43 : decode cX3_scanRing 43 = .ok (.aload_n 0, 1) := by decide +kernel
theorem dX3_scanRing_44 : decode cX3_scanRing 44 = .ok (.bipush 43, 2) := by decide +kernel
theorem dX3_scanRing_46 : decode cX3_scanRing 46 = .ok (.invokevirtual 43, 3) := by decide +kernel
theorem dX3_scanRing_49 : decode cX3_scanRing 49 = .ok (.ifCond .eq 7, 3) := by decide +kernel
theorem dX3_scanRing_52 : decode cX3_scanRing 52 = .ok (.iconst 2, 1) := by decide +kernel
theorem dX3_scanRing_53 : decode cX3_scanRing 53 = .ok (.goto 17, 3) := by decide +kernel
theorem dX3_scanRing_56 : decode cX3_scanRing 56 = .ok (.aload_n 0, 1) := by decide +kernel
theorem dX3_scanRing_57 : decode cX3_scanRing 57 = .ok (.bipush 45, 2) := by decide +kernel
theorem dX3_scanRing_59 : decode cX3_scanRing 59 = .ok (.invokevirtual 43, 3) := by decide +kernel
theorem dX3_scanRing_62 : decode cX3_scanRing 62 = .ok (.ifCond .eq 7, 3) := by decide +kernel
theorem dX3_scanRing_65 : decode cX3_scanRing 65 = .ok (.iconst 1, 1) := by decide +kernel
theorem dX3_scanRing_66 : decode cX3_scanRing 66 = .ok (.goto 4, 3) := by decide +kernel
theorem dX3_scanRing_69 : decode cX3_scanRing 69 = .ok (.iconst 0, 1) := by decide +kernel
theorem dX3_scanRing_70 : decode cX3_scanRing 70 = .ok (.iastore, 1) := by decide +kernel
theorem dX3_scanRing_71 : decode cX3_scanRing 71 = .ok (.iconst 1, 1) := by decide +kernel
theorem dX3_scanRing_72 : decode cX3_scanRing 72 = .ok (.ireturn, 1) := by decide +kernel
set_option maxRecDepth 20000 in
theorem ggX3_readSea_X3_isAtEnd : GoodIn wsX3_readSea wsX3_isAtEnd := goodIn_r _ [12, 1, 13, 14, 15, 16, 11, 17, 2, 22, 23, 24, 25, 26, 27] (by decide +kernel) (by decide +kernel)
set_option maxRecDepth 20000 in
theorem gX3_readSea_X3_isAtEnd : GoodIn wsX3_readSea (wsV RX3 53 RX3 yX3_isAtEnd wsX3_isAtEnd) := goodIn_app (goodIn_of _ (by decide +kernel)) ggX3_readSea_X3_isAtEnd
set_option maxRecDepth 20000 in
theorem ggX3_readSea_X3_fault : GoodIn wsX3_readSea wsX3_fault := goodIn_r _ [21, 1, 14, 15, 16, 11, 17, 13, 2, 22, 23, 24, 25, 26, 27] (by decide +kernel) (by decide +kernel)
set_option maxRecDepth 20000 in
theorem gX3_readSea_X3_fault : GoodIn wsX3_readSea (wsV RX3 50 RX3 yX3_fault wsX3_fault) := goodIn_app (goodIn_of _ (by decide +kernel)) ggX3_readSea_X3_fault
theorem dX3_readSea_0 : decode cX3_readSea 0 = .ok (.aload_n 0, 1) := by decide +kernel
theorem dX3_readSea_1 : decode cX3_readSea 1 = .ok (.iconst 0, 1) := by decide +kernel
theorem dX3_readSea_2 : decode cX3_readSea 2 = .ok (.putfield 19, 3) := by decide +kernel
theorem dX3_readSea_5 : decode cX3_readSea 5 = .ok (.iconst 0, 1) := by decide +kernel
theorem dX3_readSea_6 : decode cX3_readSea 6 = .ok (.istore_n 3, 1) := by decide +kernel
theorem dX3_readSea_7 : decode cX3_readSea 7 = .ok (.iconst 0, 1) := by decide +kernel
theorem dX3_readSea_8 : decode cX3_readSea 8 = .ok (.istore 4, 2) := by decide +kernel
theorem dX3_readSea_10 : decode cX3_readSea 10 = .ok (.iload 4, 2) := by decide +kernel
theorem dX3_readSea_12 : decode cX3_readSea 12 = .ok (.bipush 10, 2) := by decide +kernel
theorem dX3_readSea_14 : decode cX3_readSea 14 = .ok (.if_icmp .ge 85, 3) := by decide +kernel
theorem dX3_readSea_17 : decode cX3_readSea 17 = .ok (.aload_n 0, 1) := by decide +kernel
theorem dX3_readSea_18 : decode cX3_readSea 18 = .ok (.invokevirtual 53, 3) := by decide +kernel
theorem dX3_readSea_21 : decode cX3_readSea 21 = .ok (.ifCond .eq 7, 3) := by decide +kernel
theorem dX3_readSea_24 : decode cX3_readSea 24 = .ok (.iconst (-1), 1) := by decide +kernel
theorem dX3_readSea_25 : decode cX3_readSea 25 = .ok (.goto 15, 3) := by decide +kernel
theorem dX3_readSea_28 : decode cX3_readSea 28 = .ok (.aload_n 0, 1) := by decide +kernel
theorem dX3_readSea_29 : decode cX3_readSea 29 = .ok (.getfield 11, 3) := by decide +kernel
theorem dX3_readSea_32 : decode cX3_readSea 32 = .ok (.aload_n 0, 1) := by decide +kernel
theorem dX3_readSea_33 : decode cX3_readSea 33 = .ok (.getfield 19, 3) := by decide +kernel
theorem dX3_readSea_36 : decode cX3_readSea 36 = .ok (.iaload, 1) := by decide +kernel
theorem dX3_readSea_37 : decode cX3_readSea 37 = .ok (.bipush 48, 2) := by decide +kernel
theorem dX3_readSea_39 : decode cX3_readSea 39 = .ok (.isub, 1) := by decide +kernel
theorem dX3_readSea_40 : decode cX3_readSea 40 = .ok (.istore 5, 2) := by decide +kernel
theorem dX3_readSea_42 : decode cX3_readSea 42 = .ok (.iload 5, 2) := by decide +kernel
theorem dX3_readSea_44 : decode cX3_readSea 44 = .ok (.ifCond .lt 10, 3) := by decide +kernel
theorem dX3_readSea_47 : decode cX3_readSea 47 = .ok (.iload 5, 2) := by decide +kernel
theorem dX3_readSea_49 : decode cX3_readSea 49 = .ok (.bipush 8, 2) := by decide +kernel
theorem dX3_readSea_51 : decode cX3_readSea 51 = .ok (.if_icmp .le 8, 3) := by decide +kernel
theorem dX3_readSea_54 : decode cX3_readSea 54 = .ok (.aload_n 0, 1) := by decide +kernel
theorem dX3_readSea_55 : decode cX3_readSea 55 = .ok (.invokevirtual 50, 3) := by decide +kernel
theorem dX3_readSea_58 : decode cX3_readSea 58 = .ok (.ireturn, 1) := by decide +kernel
theorem dX3_readSea_59 : decode cX3_readSea 59 = .ok (.aload_n 0, 1) := by decide +kernel
theorem dX3_readSea_60 : decode cX3_readSea 60 = .ok (.getfield 28, 3) := by decide +kernel
theorem dX3_readSea_63 : decode cX3_readSea 63 = .ok (.iload 4, 2) := by decide +kernel
theorem dX3_readSea_65 : decode cX3_readSea 65 = .ok (.iload 5, 2) := by decide +kernel
theorem dX3_readSea_67 : decode cX3_readSea 67 = .ok (.iastore, 1) := by decide +kernel
theorem dX3_readSea_68 : decode cX3_readSea 68 = .ok (.iload_n 3, 1) := by decide +kernel
theorem dX3_readSea_69 : decode cX3_readSea 69 = .ok (.iload 5, 2) := by decide +kernel
theorem dX3_readSea_71 : decode cX3_readSea 71 = .ok (.bipush 8, 2) := by decide +kernel
theorem dX3_readSea_73 : decode cX3_readSea 73 = .ok (.if_icmp .ne 7, 3) := by decide +kernel
theorem dX3_readSea_76 : decode cX3_readSea 76 = .ok (.iconst 0, 1) := by decide +kernel
theorem dX3_readSea_77 : decode cX3_readSea 77 = .ok (.goto 4, 3) := by decide +kernel
theorem dX3_readSea_80 : decode cX3_readSea 80 = .ok (.iconst 1, 1) := by decide +kernel
theorem dX3_readSea_81 : decode cX3_readSea 81 = .ok (.iadd, 1) := by decide +kernel
theorem dX3_readSea_82 : decode cX3_readSea 82 = .ok (.istore_n 3, 1) := by decide +kernel
theorem dX3_readSea_83 : decode cX3_readSea 83 = .ok (.aload_n 0, 1) := by decide +kernel
theorem dX3_readSea_84 : decode cX3_readSea 84 = .ok (.dup, 1) := by decide +kernel
theorem dX3_readSea_85 : decode cX3_readSea 85 = .ok (.getfield 19, 3) := by decide +kernel
theorem dX3_readSea_88 : decode cX3_readSea 88 = .ok (.iconst 1, 1) := by decide +kernel
theorem dX3_readSea_89 : decode cX3_readSea 89 = .ok (.iadd, 1) := by decide +kernel
theorem dX3_readSea_90 : decode cX3_readSea 90 = .ok (.putfield 19, 3) := by decide +kernel
theorem dX3_readSea_93 : decode cX3_readSea 93 = .ok (.iinc 4 1, 3) := by decide +kernel
theorem dX3_readSea_96 : decode cX3_readSea 96 = .ok (.goto (-86), 3) := by decide +kernel
theorem dX3_readSea_99 : decode cX3_readSea 99 = .ok (.aload_n 0, 1) := by decide +kernel
theorem dX3_readSea_100 : decode cX3_readSea 100 = .ok (.invokevirtual 53, 3) := by decide +kernel
theorem dX3_readSea_103 : decode cX3_readSea 103 = .ok (.ifCond .eq 16, 3) := by decide +kernel
theorem dX3_readSea_106 : decode cX3_readSea 106 = .ok (.iload_n 2, 1) := by decide +kernel
theorem dX3_readSea_107 : decode cX3_readSea 107 = .ok (.ifCond .lt 12, 3) := by decide +kernel
theorem dX3_readSea_110 : decode cX3_readSea 110 = .ok (.iload_n 2, 1) := by decide +kernel
theorem dX3_readSea_111 : decode cX3_readSea 111 = .ok (.aload_n 1, 1) := by decide +kernel
theorem dX3_readSea_112 : decode cX3_readSea 112 = .ok (.arraylength, 1) := by decide +kernel
theorem dX3_readSea_113 : decode cX3_readSea 113 = .ok (.bipush 10, 2) := by decide +kernel
theorem dX3_readSea_115 : decode cX3_readSea 115 = .ok (.isub, 1) := by decide +kernel
theorem dX3_readSea_116 : decode cX3_readSea 116 = .ok (.if_icmp .le 8, 3) := by decide +kernel
theorem dX3_readSea_119 : decode cX3_readSea 119 = .ok (.aload_n 0, 1) := by decide +kernel
theorem dX3_readSea_120 : decode cX3_readSea 120 = .ok (.invokevirtual 50, 3) := by decide +kernel
theorem dX3_readSea_123 : decode cX3_readSea 123 = .ok (.ireturn, 1) := by decide +kernel
theorem dX3_readSea_124 : decode cX3_readSea 124 = .ok (.aload_n 0, 1) := by decide +kernel
theorem dX3_readSea_125 : decode cX3_readSea 125 = .ok (.getfield 28, 3) := by decide +kernel
theorem dX3_readSea_128 : decode cX3_readSea 128 = .ok (.iconst 0, 1) := by decide +kernel
theorem dX3_readSea_129 : decode cX3_readSea 129 = .ok (.aload_n 1, 1) := by decide +kernel
theorem dX3_readSea_130 : decode cX3_readSea 130 = .ok (.iload_n 2, 1) := by decide +kernel
theorem dX3_readSea_131 : decode cX3_readSea 131 = .ok (.bipush 10, 2) := by decide +kernel
theorem dX3_readSea_133 : decode cX3_readSea 133 = .ok (.invokestatic 57, 3) := by decide +kernel
theorem dX3_readSea_136 : decode cX3_readSea 136 = .ok (.iload_n 3, 1) := by decide +kernel
theorem dX3_readSea_137 : decode cX3_readSea 137 = .ok (.ireturn, 1) := by decide +kernel
set_option maxRecDepth 20000 in
theorem ggX3_number_X3_skipBlanks : GoodIn wsX3_number wsX3_skipBlanks := goodIn_r _ [12, 1, 2, 3, 13, 14, 15, 16, 17, 18] (by decide +kernel) (by decide +kernel)
set_option maxRecDepth 20000 in
theorem gX3_number_X3_skipBlanks : GoodIn wsX3_number (wsV RX3 63 RX3 yX3_skipBlanks wsX3_skipBlanks) := goodIn_app (goodIn_of _ (by decide +kernel)) ggX3_number_X3_skipBlanks
theorem dX3_number_0 : decode cX3_number 0 = .ok (.aload_n 0, 1) := by decide +kernel
theorem dX3_number_1 : decode cX3_number 1 = .ok (.invokevirtual 63, 3) := by decide +kernel
theorem dX3_number_4 : decode cX3_number 4 = .ok (.aload_n 0, 1) := by decide +kernel
theorem dX3_number_5 : decode cX3_number 5 = .ok (.getfield 19, 3) := by decide +kernel
theorem dX3_number_8 : decode cX3_number 8 = .ok (.istore_n 3, 1) := by decide +kernel
theorem dX3_number_9 : decode cX3_number 9 = .ok (.iconst 0, 1) := by decide +kernel
theorem dX3_number_10 : decode cX3_number 10 = .ok (.istore 4, 2) := by decide +kernel
theorem dX3_number_12 : decode cX3_number 12 = .ok (.aload_n 0, 1) := by decide +kernel
theorem dX3_number_13 : decode cX3_number 13 = .ok (.getfield 19, 3) := by decide +kernel
theorem dX3_number_16 : decode cX3_number 16 = .ok (.aload_n 0, 1) := by decide +kernel
theorem dX3_number_17 : decode cX3_number 17 = .ok (.getfield 15, 3) := by decide +kernel
theorem dX3_number_20 : decode cX3_number 20 = .ok (.if_icmp .ge 70, 3) := by decide +kernel
theorem dX3_number_23 : decode cX3_number 23 = .ok (.aload_n 0, 1) := by decide +kernel
theorem dX3_number_24 : decode cX3_number 24 = .ok (.getfield 11, 3) := by decide +kernel
theorem dX3_number_27 : decode cX3_number 27 = .ok (.aload_n 0, 1) := by decide +kernel
theorem dX3_number_28 : decode cX3_number 28 = .ok (.getfield 19, 3) := by decide +kernel
theorem dX3_number_31 : decode cX3_number 31 = .ok (.iaload, 1) := by decide +kernel
theorem dX3_number_32 : decode cX3_number 32 = .ok (.bipush 48, 2) := by decide +kernel
theorem dX3_number_34 : decode cX3_number 34 = .ok (.if_icmp .lt 56, 3) := by decide +kernel
theorem dX3_number_37 : decode cX3_number 37 = .ok (.aload_n 0, 1) := by decide +kernel
theorem dX3_number_38 : decode cX3_number 38 = .ok (.getfield 11, 3) := by decide +kernel
theorem dX3_number_41 : decode cX3_number 41 = .ok (.aload_n 0, 1) := by decide +kernel
theorem dX3_number_42 : decode cX3_number 42 = .ok (.getfield 19, 3) := by decide +kernel
theorem dX3_number_45 : decode cX3_number 45 = .ok (.iaload, 1) := by decide +kernel
theorem dX3_number_46 : decode cX3_number 46 = .ok (.bipush 57, 2) := by decide +kernel
theorem dX3_number_48 : decode cX3_number 48 = .ok (.if_icmp .gt 42, 3) := by decide +kernel
theorem dX3_number_51 : decode cX3_number 51 = .ok (.bipush 10, 2) := by decide +kernel
theorem dX3_number_53 : decode cX3_number 53 = .ok (.iload 4, 2) := by decide +kernel
theorem dX3_number_55 : decode cX3_number 55 = .ok (.imul, 1) := by decide +kernel
theorem dX3_number_56 : decode cX3_number 56 = .ok (.aload_n 0, 1) := by decide +kernel
theorem dX3_number_57 : decode cX3_number 57 = .ok (.getfield 11, 3) := by decide +kernel
theorem dX3_number_60 : decode cX3_number 60 = .ok (.aload_n 0, 1) := by decide +kernel
theorem dX3_number_61 : decode cX3_number 61 = .ok (.getfield 19, 3) := by decide +kernel
theorem dX3_number_64 : decode cX3_number 64 = .ok (.iaload, 1) := by decide +kernel
theorem dX3_number_65 : decode cX3_number 65 = .ok (.iadd, 1) := by decide +kernel
theorem dX3_number_66 : decode cX3_number 66 = .ok (.bipush 48, 2) := by decide +kernel
theorem dX3_number_68 : decode cX3_number 68 = .ok (.isub, 1) := by decide +kernel
theorem dX3_number_69 : decode cX3_number 69 = .ok (.sipush 1000, 3) := by decide +kernel
theorem dX3_number_72 : decode cX3_number 72 = .ok (.invokestatic 66, 3) := by decide +kernel
theorem dX3_number_75 : decode cX3_number 75 = .ok (.istore 4, 2) := by decide +kernel
theorem dX3_number_77 : decode cX3_number 77 = .ok (.aload_n 0, 1) := by decide +kernel
theorem dX3_number_78 : decode cX3_number 78 = .ok (.dup, 1) := by decide +kernel
theorem dX3_number_79 : decode cX3_number 79 = .ok (.getfield 19, 3) := by decide +kernel
theorem dX3_number_82 : decode cX3_number 82 = .ok (.iconst 1, 1) := by decide +kernel
theorem dX3_number_83 : decode cX3_number 83 = .ok (.iadd, 1) := by decide +kernel
theorem dX3_number_84 : decode cX3_number 84 = .ok (.putfield 19, 3) := by decide +kernel
theorem dX3_number_87 : decode cX3_number 87 = .ok (.goto (-75), 3) := by decide +kernel
theorem dX3_number_90 : decode cX3_number 90 = .ok (.aload_n 0, 1) := by decide +kernel
theorem dX3_number_91 : decode cX3_number 91 = .ok (.getfield 19, 3) := by decide +kernel
theorem dX3_number_94 : decode cX3_number 94 = .ok (.iload_n 3, 1) := by decide +kernel
theorem dX3_number_95 : decode cX3_number 95 = .ok (.if_icmp .le 18, 3) := by decide +kernel
theorem dX3_number_98 : decode cX3_number 98 = .ok (.iload 4, 2) := by decide +kernel
theorem dX3_number_100 : decode cX3_number 100 = .ok (.iload_n 1, 1) := by decide +kernel
theorem dX3_number_101 : decode cX3_number 101 = .ok (.if_icmp .lt 12, 3) := by decide +kernel
theorem dX3_number_104 : decode cX3_number 104 = .ok (.iload 4, 2) := by decide +kernel
theorem dX3_number_106 : decode cX3_number 106 = .ok (.iload_n 2, 1) := by decide +kernel
theorem dX3_number_107 : decode cX3_number 107 = .ok (.if_icmp .gt 6, 3) := by decide +kernel
theorem dX3_number_110 : decode cX3_number 110 = .ok (.iload 4, 2) := by decide +kernel
theorem dX3_number_112 : decode cX3_number 112 = .ok (.ireturn, 1) := by decide +kernel
theorem dX3_number_113 : decode cX3_number 113 = .ok (.aload_n 0, 1) := by decide +kernel
theorem dX3_number_114 : decode cX3_number 114 = .ok (.iload_n 3, 1) := by decide +kernel
theorem dX3_number_115 : decode cX3_number 115 = .ok (.putfield 19, 3) := by decide +kernel
theorem dX3_number_118 : decode cX3_number 118 = .ok (.iconst (-1), 1) := by decide +kernel
theorem dX3_number_119 : decode cX3_number 119 = .ok (.ireturn, 1) := by decide +kernel
set_option maxRecDepth 20000 in
theorem ggX3_passes_X3_isAtEnd : GoodIn wsX3_passes wsX3_isAtEnd := goodIn_r _ [7, 2, 8, 9, 10, 11, 6, 12, 1, 13, 14, 15, 16, 17, 18] (by decide +kernel) (by decide +kernel)
set_option maxRecDepth 20000 in
theorem gX3_passes_X3_isAtEnd : GoodIn wsX3_passes (wsV RX3 53 RX3 yX3_isAtEnd wsX3_isAtEnd) := goodIn_app (goodIn_of _ (by decide +kernel)) ggX3_passes_X3_isAtEnd
theorem dX3_passes_0 : decode cX3_passes 0 = .ok (.aload_n 0, 1) := by decide +kernel
theorem dX3_passes_1 : decode cX3_passes 1 = .ok (.invokevirtual 53, 3) := by decide +kernel
theorem dX3_passes_4 : decode cX3_passes 4 = .ok (.ifCond .ne 16, 3) := by decide +kernel
theorem dX3_passes_7 : decode cX3_passes 7 = .ok (.aload_n 0, 1) := by decide +kernel
theorem dX3_passes_8 : decode cX3_passes 8 = .ok (.getfield 11, 3) := by decide +kernel
theorem dX3_passes_11 : decode cX3_passes 11 = .ok (.aload_n 0, 1) := by decide +kernel
theorem dX3_passes_12 : decode cX3_passes 12 = .ok (.getfield 19, 3) := by decide +kernel
theorem dX3_passes_15 : decode cX3_passes 15 = .ok (.iaload, 1) := by decide +kernel
theorem dX3_passes_16 : decode cX3_passes 16 = .ok (.iload_n 1, 1) := by decide +kernel
theorem dX3_passes_17 : decode cX3_passes 17 = .ok (.if_icmp .eq 5, 3) := by decide +kernel
theorem dX3_passes_20 : decode cX3_passes 20 = .ok (.iconst 0, 1) := by decide +kernel
theorem dX3_passes_21 : decode cX3_passes 21 = .ok (.ireturn, 1) := by decide +kernel
theorem dX3_passes_22 : decode cX3_passes 22 = .ok (.aload_n 0, 1) := by decide +kernel
theorem dX3_passes_23 : decode cX3_passes 23 = .ok (.dup, 1) := by decide +kernel
theorem dX3_passes_24 : decode cX3_passes 24 = .ok (.getfield 19, 3) := by decide +kernel
theorem dX3_passes_27 : decode cX3_passes 27 = .ok (.iconst 1, 1) := by decide +kernel
theorem dX3_passes_28 : decode cX3_passes 28 = .ok (.iadd, 1) := by decide +kernel
theorem dX3_passes_29 : decode cX3_passes 29 = .ok (.putfield 19, 3) := by decide +kernel
theorem dX3_passes_32 : decode cX3_passes 32 = .ok (.iconst 1, 1) := by decide +kernel
theorem dX3_passes_33 : decode cX3_passes 33 = .ok (.ireturn, 1) := by decide +kernel
set_option maxRecDepth 20000 in
theorem ggX3_isAtEnd_X3_skipBlanks : GoodIn wsX3_isAtEnd wsX3_skipBlanks := goodIn_r _ [7, 1, 2, 8, 9, 10, 11, 12, 13, 14] (by decide +kernel) (by decide +kernel)
set_option maxRecDepth 20000 in
theorem gX3_isAtEnd_X3_skipBlanks : GoodIn wsX3_isAtEnd (wsV RX3 63 RX3 yX3_skipBlanks wsX3_skipBlanks) := goodIn_app (goodIn_of _ (by decide +kernel)) ggX3_isAtEnd_X3_skipBlanks
theorem dX3_isAtEnd_0 : decode cX3_isAtEnd 0 = .ok (.aload_n 0, 1) := by decide +kernel
theorem dX3_isAtEnd_1 : decode cX3_isAtEnd 1 = .ok (.invokevirtual 63, 3) := by decide +kernel
theorem dX3_isAtEnd_4 : decode cX3_isAtEnd 4 = .ok (.aload_n 0, 1) := by decide +kernel
theorem dX3_isAtEnd_5 : decode cX3_isAtEnd 5 = .ok (.getfield 19, 3) := by decide +kernel
theorem dX3_isAtEnd_8 : decode cX3_isAtEnd 8 = .ok (.aload_n 0, 1) := by decide +kernel
theorem dX3_isAtEnd_9 : decode cX3_isAtEnd 9 = .ok (.getfield 15, 3) := by decide +kernel
theorem dX3_isAtEnd_12 : decode cX3_isAtEnd 12 = .ok (.if_icmp .lt 7, 3) := by decide +kernel
theorem dX3_isAtEnd_15 : decode cX3_isAtEnd 15 = .ok (.iconst 1, 1) := by decide +kernel
theorem dX3_isAtEnd_16 : decode cX3_isAtEnd 16 = .ok (.goto 4, 3) := by decide +kernel
theorem dX3_isAtEnd_19 : decode cX3_isAtEnd 19 = .ok (.iconst 0, 1) := by decide +kernel
theorem dX3_isAtEnd_20 : decode cX3_isAtEnd 20 = .ok (.ireturn, 1) := by decide +kernel
theorem dX3_skipBlanks_0 : decode cX3_skipBlanks 0 = .ok (.aload_n 0, 1) := by decide +kernel
theorem dX3_skipBlanks_1 : decode cX3_skipBlanks 1 = .ok (.getfield 19, 3) := by decide +kernel
theorem dX3_skipBlanks_4 : decode cX3_skipBlanks 4 = .ok (.aload_n 0, 1) := by decide +kernel
theorem dX3_skipBlanks_5 : decode cX3_skipBlanks 5 = .ok (.getfield 15, 3) := by decide +kernel
theorem dX3_skipBlanks_8 : decode cX3_skipBlanks 8 = .ok (.if_icmp .ge 30, 3) := by decide +kernel
theorem dX3_skipBlanks_11 : decode cX3_skipBlanks 11 = .ok (.aload_n 0, 1) := by decide +kernel
theorem dX3_skipBlanks_12 : decode cX3_skipBlanks 12 = .ok (.getfield 11, 3) := by decide +kernel
theorem dX3_skipBlanks_15 : decode cX3_skipBlanks 15 = .ok (.aload_n 0, 1) := by decide +kernel
theorem dX3_skipBlanks_16 : decode cX3_skipBlanks 16 = .ok (.getfield 19, 3) := by decide +kernel
theorem dX3_skipBlanks_19 : decode cX3_skipBlanks 19 = .ok (.iaload, 1) := by decide +kernel
theorem dX3_skipBlanks_20 : decode cX3_skipBlanks 20 = .ok (.bipush 32, 2) := by decide +kernel
theorem dX3_skipBlanks_22 : decode cX3_skipBlanks 22 = .ok (.if_icmp .ne 16, 3) := by decide +kernel
theorem dX3_skipBlanks_25 : decode cX3_skipBlanks 25 = .ok (.aload_n 0, 1) := by decide +kernel
theorem dX3_skipBlanks_26 : decode cX3_skipBlanks 26 = .ok (.dup, 1) := by decide +kernel
theorem dX3_skipBlanks_27 : decode cX3_skipBlanks 27 = .ok (.getfield 19, 3) := by decide +kernel
theorem dX3_skipBlanks_30 : decode cX3_skipBlanks 30 = .ok (.iconst 1, 1) := by decide +kernel
theorem dX3_skipBlanks_31 : decode cX3_skipBlanks 31 = .ok (.iadd, 1) := by decide +kernel
theorem dX3_skipBlanks_32 : decode cX3_skipBlanks 32 = .ok (.putfield 19, 3) := by decide +kernel
theorem dX3_skipBlanks_35 : decode cX3_skipBlanks 35 = .ok (.goto (-35), 3) := by decide +kernel
theorem dX3_skipBlanks_38 : decode cX3_skipBlanks 38 = .ok (.return_, 1) := by decide +kernel
set_option maxRecDepth 20000 in
theorem ggX3_fault_X3_skipBlanks : GoodIn wsX3_fault wsX3_skipBlanks := goodIn_r _ [6, 1, 7, 8, 9, 10, 11, 12, 13, 14] (by decide +kernel) (by decide +kernel)
set_option maxRecDepth 20000 in
theorem gX3_fault_X3_skipBlanks : GoodIn wsX3_fault (wsV RX3 63 RX3 yX3_skipBlanks wsX3_skipBlanks) := goodIn_app (goodIn_of _ (by decide +kernel)) ggX3_fault_X3_skipBlanks
theorem dX3_fault_0 : decode cX3_fault 0 = .ok (.aload_n 0, 1) := by decide +kernel
theorem dX3_fault_1 : decode cX3_fault 1 = .ok (.invokevirtual 63, 3) := by decide +kernel
theorem dX3_fault_4 : decode cX3_fault 4 = .ok (.bipush (-20), 2) := by decide +kernel
theorem dX3_fault_6 : decode cX3_fault 6 = .ok (.aload_n 0, 1) := by decide +kernel
theorem dX3_fault_7 : decode cX3_fault 7 = .ok (.getfield 19, 3) := by decide +kernel
theorem dX3_fault_10 : decode cX3_fault 10 = .ok (.isub, 1) := by decide +kernel
theorem dX3_fault_11 : decode cX3_fault 11 = .ok (.ireturn, 1) := by decide +kernel
set_option maxRecDepth 20000 in
theorem ggX4_init_X4_look : GoodIn wsX4_init wsX4_look := goodIn_r _ [25, 5, 11, 26, 27, 24, 28, 29, 30, 31, 32, 33, 34, 35, 36, 37, 38, 39, 40, 41, 42, 43, 44] (by decide +kernel) (by decide +kernel)
set_option maxRecDepth 20000 in
theorem gX4_init_X4_look : GoodIn wsX4_init (wsV RX4 61 RX4 yX4_look wsX4_look) := goodIn_app (goodIn_of _ (by decide +kernel)) ggX4_init_X4_look
theorem dX4_init_0 : decode cX4_init 0 = .ok (.aload_n 0, 1) := by decide +kernel
theorem dX4_init_1 : decode cX4_init 1 = .ok (.invokespecial 3, 3) := by decide +kernel
theorem dX4_init_4 : decode cX4_init 4 = .ok (.aload_n 0, 1) := by decide +kernel
theorem dX4_init_5 : decode cX4_init 5 = .ok (.bipush 8, 2) := by decide +kernel
theorem dX4_init_7 : decode cX4_init 7 = .ok (.newarray .int, 2) := by decide +kernel
theorem dX4_init_9 : decode cX4_init 9 = .ok (.dup, 1) := by decide +kernel
theorem dX4_init_10 : decode cX4_init 10 = .ok (.iconst 0, 1) := by decide +kernel
theorem dX4_init_11 : decode cX4_init 11 = .ok (.iconst 0, 1) := by decide +kernel
theorem dX4_init_12 : decode cX4_init 12 = .ok (.iastore, 1) := by decide +kernel
theorem dX4_init_13 : decode cX4_init 13 = .ok (.dup, 1) := by decide +kernel
theorem dX4_init_14 : decode cX4_init 14 = .ok (.iconst 1, 1) := by decide +kernel
theorem dX4_init_15 : decode cX4_init 15 = .ok (.iconst 0, 1) := by decide +kernel
theorem dX4_init_16 : decode cX4_init 16 = .ok (.iastore, 1) := by decide +kernel
theorem dX4_init_17 : decode cX4_init 17 = .ok (.dup, 1) := by decide +kernel
theorem dX4_init_18 : decode cX4_init 18 = .ok (.iconst 2, 1) := by decide +kernel
theorem dX4_init_19 : decode cX4_init 19 = .ok (.bipush 6, 2) := by decide +kernel
theorem dX4_init_21 : decode cX4_init 21 = .ok (.iastore, 1) := by decide +kernel
theorem dX4_init_22 : decode cX4_init 22 = .ok (.dup, 1) := by decide +kernel
theorem dX4_init_23 : decode cX4_init 23 = .ok (.iconst 3, 1) := by decide +kernel
theorem dX4_init_24 : decode cX4_init 24 = .ok (.iconst 1, 1) := by decide +kernel
theorem dX4_init_25 : decode cX4_init 25 = .ok (.iastore, 1) := by decide +kernel
theorem dX4_init_26 : decode cX4_init 26 = .ok (.dup, 1) := by decide +kernel
theorem dX4_init_27 : decode cX4_init 27 = .ok (.iconst 4, 1) := by decide +kernel
theorem dX4_init_28 : decode cX4_init 28 = .ok (.iconst 0, 1) := by decide +kernel
theorem dX4_init_29 : decode cX4_init 29 = .ok (.iastore, 1) := by decide +kernel
theorem dX4_init_30 : decode cX4_init 30 = .ok (.dup, 1) := by decide +kernel
theorem dX4_init_31 : decode cX4_init 31 = .ok (.iconst 5, 1) := by decide +kernel
theorem dX4_init_32 : decode cX4_init 32 = .ok (.bipush 60, 2) := by decide +kernel
theorem dX4_init_34 : decode cX4_init 34 = .ok (.iastore, 1) := by decide +kernel
theorem dX4_init_35 : decode cX4_init 35 = .ok (.dup, 1) := by decide +kernel
theorem dX4_init_36 : decode cX4_init 36 = .ok (.bipush 6, 2) := by decide +kernel
theorem dX4_init_38 : decode cX4_init 38 = .ok (.iconst 1, 1) := by decide +kernel
theorem dX4_init_39 : decode cX4_init 39 = .ok (.iastore, 1) := by decide +kernel
theorem dX4_init_40 : decode cX4_init 40 = .ok (.dup, 1) := by decide +kernel
theorem dX4_init_41 : decode cX4_init 41 = .ok (.bipush 7, 2) := by decide +kernel
theorem dX4_init_43 : decode cX4_init 43 = .ok (.bipush 8, 2) := by decide +kernel
theorem dX4_init_45 : decode cX4_init 45 = .ok (.iastore, 1) := by decide +kernel
theorem dX4_init_46 : decode cX4_init 46 = .ok (.putfield 9, 3) := by decide +kernel
theorem dX4_init_49 : decode cX4_init 49 = .ok (.aload_n 0, 1) := by decide +kernel
theorem dX4_init_50 : decode cX4_init 50 = .ok (.bipush 7, 2) := by decide +kernel
theorem dX4_init_52 : decode cX4_init 52 = .ok (.newarray .int, 2) := by decide +kernel
theorem dX4_init_54 : decode cX4_init 54 = .ok (.putfield 15, 3) := by decide +kernel
theorem dX4_init_57 : decode cX4_init 57 = .ok (.aload_n 0, 1) := by decide +kernel
theorem dX4_init_58 : decode cX4_init 58 = .ok (.bipush 7, 2) := by decide +kernel
theorem dX4_init_60 : decode cX4_init 60 = .ok (.newarray .int, 2) := by decide +kernel
theorem dX4_init_62 : decode cX4_init 62 = .ok (.putfield 18, 3) := by decide +kernel
theorem dX4_init_65 : decode cX4_init 65 = .ok (.aload_n 0, 1) := by decide +kernel
theorem dX4_init_66 : decode cX4_init 66 = .ok (.sipush 200, 3) := by decide +kernel
theorem dX4_init_69 : decode cX4_init 69 = .ok (.newarray .int, 2) := by decide +kernel
theorem dX4_init_71 : decode cX4_init 71 = .ok (.putfield 21, 3) := by decide +kernel
theorem dX4_init_74 : decode cX4_init 74 = .ok (.aload_n 0, 1) := by decide +kernel
theorem dX4_init_75 : decode cX4_init 75 = .ok (.sipush 200, 3) := by decide +kernel
theorem dX4_init_78 : decode cX4_init 78 = .ok (.newarray .int, 2) := by decide +kernel
theorem dX4_init_80 : decode cX4_init 80 = .ok (.putfield 24, 3) := by decide +kernel
theorem dX4_init_83 : decode cX4_init 83 = .ok (.aload_n 0, 1) := by decide +kernel
theorem dX4_init_84 : decode cX4_init 84 = .ok (.bipush 100, 2) := by decide +kernel
theorem dX4_init_86 : decode cX4_init 86 = .ok (.newarray .int, 2) := by decide +kernel
theorem dX4_init_88 : decode cX4_init 88 = .ok (.putfield 27, 3) := by decide +kernel
theorem dX4_init_91 : decode cX4_init 91 = .ok (.aload_n 0, 1) := by decide +kernel
theorem dX4_init_92 : decode cX4_init 92 = .ok (.bipush 100, 2) := by decide +kernel
theorem dX4_init_94 : decode cX4_init 94 = .ok (.newarray .int, 2) := by decide +kernel
theorem dX4_init_96 : decode cX4_init 96 = .ok (.putfield 30, 3) := by decide +kernel
theorem dX4_init_99 : decode cX4_init 99 = .ok (.aload_n 0, 1) := by decide +kernel
theorem dX4_init_100 : decode cX4_init 100 = .ok (.iconst 4, 1) := by decide +kernel
theorem dX4_init_101 : decode cX4_init 101 = .ok (.newarray .int, 2) := by decide +kernel
theorem dX4_init_103 : decode cX4_init 103 = .ok (.putfield 33, 3) := by decide +kernel
theorem dX4_init_106 : decode cX4_init 106 = .ok (.aload_n 0, 1) := by decide +kernel
theorem dX4_init_107 : decode cX4_init 107 = .ok (.iconst 4, 1) := by decide +kernel
theorem dX4_init_108 : decode cX4_init 108 = .ok (.newarray .int, 2) := by decide +kernel
theorem dX4_init_110 : decode cX4_init 110 = .ok (.putfield 36, 3) := by decide +kernel
theorem dX4_init_113 : decode cX4_init 113 = .ok (.aload_n 0, 1) := by decide +kernel
theorem dX4_init_114 : decode cX4_init 114 = .ok (.iconst 4, 1) := by decide +kernel
theorem dX4_init_115 : decode cX4_init 115 = .ok (.newarray .int, 2) := by decide +kernel
theorem dX4_init_117 : decode cX4_init 117 = .ok (.putfield 39, 3) := by decide +kernel
theorem dX4_init_120 : decode cX4_init 120 = .ok (.aload_n 0, 1) := by decide +kernel
theorem dX4_init_121 : decode cX4_init 121 = .ok (.iconst 4, 1) := by decide +kernel
theorem dX4_init_122 : decode cX4_init 122 = .ok (.newarray .int, 2) := by decide +kernel
theorem dX4_init_124 : decode cX4_init 124 = .ok (.putfield 42, 3) := by decide +kernel
theorem dX4_init_127 : decode cX4_init 127 = .ok (.aload_n 0, 1) := by decide +kernel
theorem dX4_init_128 : decode cX4_init 128 = .ok (.iconst 4, 1) := by decide +kernel
theorem dX4_init_129 : decode cX4_init 129 = .ok (.newarray .int, 2) := by decide +kernel
theorem dX4_init_131 : decode cX4_init 131 = .ok (.putfield 45, 3) := by decide +kernel
theorem dX4_init_134 : decode cX4_init 134 = .ok (.aload_n 0, 1) := by decide +kernel
theorem dX4_init_135 : decode cX4_init 135 = .ok (.iconst 4, 1) := by decide +kernel
theorem dX4_init_136 : decode cX4_init 136 = .ok (.newarray .int, 2) := by decide +kernel
theorem dX4_init_138 : decode cX4_init 138 = .ok (.putfield 48, 3) := by decide +kernel
theorem dX4_init_141 : decode cX4_init 141 = .ok (.aload_n 0, 1) := by decide +kernel
theorem dX4_init_142 : decode cX4_init 142 = .ok (.iconst 4, 1) := by decide +kernel
theorem dX4_init_143 : decode cX4_init 143 = .ok (.newarray .int, 2) := by decide +kernel
theorem dX4_init_145 : decode cX4_init 145 = .ok (.putfield 51, 3) := by decide +kernel
theorem dX4_init_148 : decode cX4_init 148 = .ok (.aload_n 0, 1) := by decide +kernel
theorem dX4_init_149 : decode cX4_init 149 = .ok (.iconst 0, 1) := by decide +kernel
theorem dX4_init_150 : decode cX4_init 150 = .ok (.putfield 54, 3) := by decide +kernel
theorem dX4_init_153 : decode cX4_init 153 = .ok (.aload_n 0, 1) := by decide +kernel
theorem dX4_init_154 : decode cX4_init 154 = .ok (.iconst 0, 1) := by decide +kernel
theorem dX4_init_155 : decode cX4_init 155 = .ok (.putfield 58, 3) := by decide +kernel
theorem dX4_init_158 : decode cX4_init 158 = .ok (.iconst 0, 1) := by decide +kernel
theorem dX4_init_159 : decode cX4_init 159 = .ok (.istore_n 1, 1) := by decide +kernel
theorem dX4_init_160 : decode cX4_init 160 = .ok (.iload_n 1, 1) := by decide +kernel
theorem dX4_init_161 : decode cX4_init 161 = .ok (.bipush 6, 2) := by decide +kernel
theorem dX4_init_163 : decode cX4_init 163 = .ok (.if_icmp .gt 16, 3) := by decide +kernel
theorem dX4_init_166 : decode cX4_init 166 = .ok (.aload_n 0, 1) := by decide +kernel
theorem dX4_init_167 : decode cX4_init 167 = .ok (.getfield 15, 3) := by decide +kernel
theorem dX4_init_170 : decode cX4_init 170 = .ok (.iload_n 1, 1) := by decide +kernel
theorem dX4_init_171 : decode cX4_init 171 = .ok (.iconst (-1), 1) := by decide +kernel
theorem dX4_init_172 : decode cX4_init 172 = .ok (.iastore, 1) := by decide +kernel
theorem dX4_init_173 : decode cX4_init 173 = .ok (.iinc 1 1, 3) := by decide +kernel
theorem dX4_init_176 : decode cX4_init 176 = .ok (.goto (-16), 3) := by decide +kernel
theorem dX4_init_179 : decode cX4_init 179 = .ok (.iconst 0, 1) := by decide +kernel
theorem dX4_init_180 : decode cX4_init 180 = .ok (.istore_n 1, 1) := by decide +kernel
theorem dX4_init_181 : decode cX4_init 181 = .ok (.iload_n 1, 1) := by decide +kernel
theorem dX4_init_182 : decode cX4_init 182 = .ok (.sipush 200, 3) := by decide +kernel
theorem dX4_init_185 : decode cX4_init 185 = .ok (.if_icmp .ge 17, 3) := by decide +kernel
theorem dX4_init_188 : decode cX4_init 188 = .ok (.aload_n 0, 1) := by decide +kernel
theorem dX4_init_189 : decode cX4_init 189 = .ok (.getfield 21, 3) := by decide +kernel
theorem dX4_init_192 : decode cX4_init 192 = .ok (.iload_n 1, 1) := by decide +kernel
theorem dX4_init_193 : decode cX4_init 193 = .ok (.bipush 8, 2) := by decide +kernel
theorem dX4_init_195 : decode cX4_init 195 = .ok (.iastore, 1) := by decide +kernel
theorem dX4_init_196 : decode cX4_init 196 = .ok (.iinc 1 1, 3) := by decide +kernel
theorem dX4_init_199 : decode cX4_init 199 = .ok (.goto (-18), 3) := by decide +kernel
theorem dX4_init_202 : decode cX4_init 202 = .ok (.iconst 0, 1) := by decide +kernel
theorem dX4_init_203 : decode cX4_init 203 = .ok (.istore_n 1, 1) := by decide +kernel
theorem dX4_init_204 : decode cX4_init 204 = .ok (.iload_n 1, 1) := by decide +kernel
theorem dX4_init_205 : decode cX4_init 205 = .ok (.bipush 100, 2) := by decide +kernel
theorem dX4_init_207 : decode cX4_init 207 = .ok (.if_icmp .ge 16, 3) := by decide +kernel
theorem dX4_init_210 : decode cX4_init 210 = .ok (.aload_n 0, 1) := by decide +kernel
theorem dX4_init_211 : decode cX4_init 211 = .ok (.getfield 27, 3) := by decide +kernel
theorem dX4_init_214 : decode cX4_init 214 = .ok (.iload_n 1, 1) := by decide +kernel
theorem dX4_init_215 : decode cX4_init 215 = .ok (.iconst 1, 1) := by decide +kernel
theorem dX4_init_216 : decode cX4_init 216 = .ok (.iastore, 1) := by decide +kernel
theorem dX4_init_217 : decode cX4_init 217 = .ok (.iinc 1 1, 3) := by decide +kernel
theorem dX4_init_220 : decode cX4_init 220 = .ok (.goto (-16), 3) := by decide +kernel
theorem dX4_init_223 : decode cX4_init 223 = .ok (.aload_n 0, 1) := by decide +kernel
theorem dX4_init_224 : decode cX4_init 224 = .ok (.invokevirtual 61, 3) := by decide +kernel
theorem dX4_init_227 : decode cX4_init 227 = .ok (.return_, 1) := by decide +kernel
theorem dX4_take_0 : decode cX4_take 0 = .ok (.aload_n 1, 1) := by decide +kernel
theorem dX4_take_1 : decode cX4_take 1 = .ok (.getfield 9, 3) := by decide +kernel
theorem dX4_take_4 : decode cX4_take 4 = .ok (.iconst 0, 1) := by decide +kernel
theorem dX4_take_5 : decode cX4_take 5 = .ok (.aload_n 0, 1) := by decide +kernel
theorem dX4_take_6 : decode cX4_take 6 = .ok (.getfield 9, 3) := by decide +kernel
theorem dX4_take_9 : decode cX4_take 9 = .ok (.iconst 0, 1) := by decide +kernel
theorem dX4_take_10 : decode cX4_take 10 = .ok (.bipush 8, 2) := by decide +kernel
theorem dX4_take_12 : decode cX4_take 12 = .ok (.invokestatic 64, 3) := by decide +kernel
theorem dX4_take_15 : decode cX4_take 15 = .ok (.aload_n 1, 1) := by decide +kernel
theorem dX4_take_16 : decode cX4_take 16 = .ok (.getfield 15, 3) := by decide +kernel
theorem dX4_take_19 : decode cX4_take 19 = .ok (.iconst 0, 1) := by decide +kernel
theorem dX4_take_20 : decode cX4_take 20 = .ok (.aload_n 0, 1) := by decide +kernel
theorem dX4_take_21 : decode cX4_take 21 = .ok (.getfield 15, 3) := by decide +kernel
theorem dX4_take_24 : decode cX4_take 24 = .ok (.iconst 0, 1) := by decide +kernel
theorem dX4_take_25 : decode cX4_take 25 = .ok (.bipush 7, 2) := by decide +kernel
theorem dX4_take_27 : decode cX4_take 27 = .ok (.invokestatic 64, 3) := by decide +kernel
theorem dX4_take_30 : decode cX4_take 30 = .ok (.aload_n 1, 1) := by decide +kernel
theorem dX4_take_31 : decode cX4_take 31 = .ok (.getfield 18, 3) := by decide +kernel
theorem dX4_take_34 : decode cX4_take 34 = .ok (.iconst 0, 1) := by decide +kernel
theorem dX4_take_35 : decode cX4_take 35 = .ok (.aload_n 0, 1) := by decide +kernel
theorem dX4_take_36 : decode cX4_take 36 = .ok (.getfield 18, 3) := by decide +kernel
theorem dX4_take_39 : decode cX4_take 39 = .ok (.iconst 0, 1) := by decide +kernel
theorem dX4_take_40 : decode cX4_take 40 = .ok (.bipush 7, 2) := by decide +kernel
theorem dX4_take_42 : decode cX4_take 42 = .ok (.invokestatic 64, 3) := by decide +kernel
theorem dX4_take_45 : decode cX4_take 45 = .ok (.aload_n 1, 1) := by decide +kernel
theorem dX4_take_46 : decode cX4_take 46 = .ok (.getfield 21, 3) := by decide +kernel
theorem dX4_take_49 : decode cX4_take 49 = .ok (.iconst 0, 1) := by decide +kernel
theorem dX4_take_50 : decode cX4_take 50 = .ok (.aload_n 0, 1) := by decide +kernel
theorem dX4_take_51 : decode cX4_take 51 = .ok (.getfield 21, 3) := by decide +kernel
theorem dX4_take_54 : decode cX4_take 54 = .ok (.iconst 0, 1) := by decide +kernel
theorem dX4_take_55 : decode cX4_take 55 = .ok (.sipush 200, 3) := by decide +kernel
theorem dX4_take_58 : decode cX4_take 58 = .ok (.invokestatic 64, 3) := by decide +kernel
theorem dX4_take_61 : decode cX4_take 61 = .ok (.aload_n 1, 1) := by decide +kernel
theorem dX4_take_62 : decode cX4_take 62 = .ok (.getfield 24, 3) := by decide +kernel
theorem dX4_take_65 : decode cX4_take 65 = .ok (.iconst 0, 1) := by decide +kernel
theorem dX4_take_66 : decode cX4_take 66 = .ok (.aload_n 0, 1) := by decide +kernel
theorem dX4_take_67 : decode cX4_take 67 = .ok (.getfield 24, 3) := by decide +kernel
theorem dX4_take_70 : decode cX4_take 70 = .ok (.iconst 0, 1) := by decide +kernel
theorem dX4_take_71 : decode cX4_take 71 = .ok (.sipush 200, 3) := by decide +kernel
theorem dX4_take_74 : decode cX4_take 74 = .ok (.invokestatic 64, 3) := by decide +kernel
theorem dX4_take_77 : decode cX4_take 77 = .ok (.aload_n 1, 1) := by decide +kernel
theorem dX4_take_78 : decode cX4_take 78 = .ok (.getfield 27, 3) := by decide +kernel
theorem dX4_take_81 : decode cX4_take 81 = .ok (.iconst 0, 1) := by decide +kernel
theorem dX4_take_82 : decode cX4_take 82 = .ok (.aload_n 0, 1) := by decide +kernel
theorem dX4_take_83 : decode cX4_take 83 = .ok (.getfield 27, 3) := by decide +kernel
theorem dX4_take_86 : decode cX4_take 86 = .ok (.iconst 0, 1) := by decide +kernel
theorem dX4_take_87 : decode cX4_take 87 = .ok (.bipush 100, 2) := by decide +kernel
theorem dX4_take_89 : decode cX4_take 89 = .ok (.invokestatic 64, 3) := by decide +kernel
theorem dX4_take_92 : decode cX4_take 92 = .ok (.aload_n 1, 1) := by decide +kernel
theorem dX4_take_93 : decode cX4_take 93 = .ok (.getfield 30, 3) := by decide +kernel
theorem dX4_take_96 : decode cX4_take 96 = .ok (.iconst 0, 1) := by decide +kernel
theorem dX4_take_97 : decode cX4_take 97 = .ok (.aload_n 0, 1) := by decide +kernel
theorem dX4_take_98 : decode cX4_take 98 = .ok (.getfield 30, 3) := by decide +kernel
theorem dX4_take_101 : decode cX4_take 101 = .ok (.iconst 0, 1) := by decide +kernel
theorem dX4_take_102 : decode cX4_take 102 = .ok (.bipush 100, 2) := by decide +kernel
theorem dX4_take_104 : decode cX4_take 104 = .ok (.invokestatic 64, 3) := by decide +kernel
theorem dX4_take_107 : decode cX4_take 107 = .ok (.aload_n 1, 1) := by decide +kernel
theorem dX4_take_108 : decode cX4_take 108 = .ok (.getfield 33, 3) := by decide +kernel
theorem dX4_take_111 : decode cX4_take 111 = .ok (.iconst 0, 1) := by decide +kernel
theorem dX4_take_112 : decode cX4_take 112 = .ok (.aload_n 0, 1) := by decide +kernel
theorem dX4_take_113 : decode cX4_take 113 = .ok (.getfield 33, 3) := by decide +kernel
theorem dX4_take_116 : decode cX4_take 116 = .ok (.iconst 0, 1) := by decide +kernel
theorem dX4_take_117 : decode cX4_take 117 = .ok (.iconst 4, 1) := by decide +kernel
theorem dX4_take_118 : decode cX4_take 118 = .ok (.invokestatic 64, 3) := by decide +kernel
theorem dX4_take_121 : decode cX4_take 121 = .ok (.aload_n 1, 1) := by decide +kernel
theorem dX4_take_122 : decode cX4_take 122 = .ok (.getfield 36, 3) := by decide +kernel
theorem dX4_take_125 : decode cX4_take 125 = .ok (.iconst 0, 1) := by decide +kernel
theorem dX4_take_126 : decode cX4_take 126 = .ok (.aload_n 0, 1) := by decide +kernel
theorem dX4_take_127 : decode cX4_take 127 = .ok (.getfield 36, 3) := by decide +kernel
theorem dX4_take_130 : decode cX4_take 130 = .ok (.iconst 0, 1) := by decide +kernel
theorem dX4_take_131 : decode cX4_take 131 = .ok (.iconst 4, 1) := by decide +kernel
theorem dX4_take_132 : decode cX4_take 132 = .ok (.invokestatic 64, 3) := by decide +kernel
theorem dX4_take_135 : decode cX4_take 135 = .ok (.aload_n 1, 1) := by decide +kernel
theorem dX4_take_136 : decode cX4_take 136 = .ok (.getfield 39, 3) := by decide +kernel
theorem dX4_take_139 : decode cX4_take 139 = .ok (.iconst 0, 1) := by decide +kernel
theorem dX4_take_140 : decode cX4_take 140 = .ok (.aload_n 0, 1) := by decide +kernel
theorem dX4_take_141 : decode cX4_take 141 = .ok (.getfield 39, 3) := by decide +kernel
theorem dX4_take_144 : decode cX4_take 144 = .ok (.iconst 0, 1) := by decide +kernel
theorem dX4_take_145 : decode cX4_take 145 = .ok (.iconst 4, 1) := by decide +kernel
theorem dX4_take_146 : decode cX4_take 146 = .ok (.invokestatic 64, 3) := by decide +kernel
theorem dX4_take_149 : decode cX4_take 149 = .ok (.aload_n 1, 1) := by decide +kernel
theorem dX4_take_150 : decode cX4_take 150 = .ok (.getfield 42, 3) := by decide +kernel
theorem dX4_take_153 : decode cX4_take 153 = .ok (.iconst 0, 1) := by decide +kernel
theorem dX4_take_154 : decode cX4_take 154 = .ok (.aload_n 0, 1) := by decide +kernel
theorem dX4_take_155 : decode cX4_take 155 = .ok (.getfield 42, 3) := by decide +kernel
theorem dX4_take_158 : decode cX4_take 158 = .ok (.iconst 0, 1) := by decide +kernel
theorem dX4_take_159 : decode cX4_take 159 = .ok (.iconst 4, 1) := by decide +kernel
theorem dX4_take_160 : decode cX4_take 160 = .ok (.invokestatic 64, 3) := by decide +kernel
theorem dX4_take_163 : decode cX4_take 163 = .ok (.aload_n 1, 1) := by decide +kernel
theorem dX4_take_164 : decode cX4_take 164 = .ok (.getfield 45, 3) := by decide +kernel
theorem dX4_take_167 : decode cX4_take 167 = .ok (.iconst 0, 1) := by decide +kernel
theorem dX4_take_168 : decode cX4_take 168 = .ok (.aload_n 0, 1) := by decide +kernel
theorem dX4_take_169 : decode cX4_take 169 = .ok (.getfield 45, 3) := by decide +kernel
theorem dX4_take_172 : decode cX4_take 172 = .ok (.iconst 0, 1) := by decide +kernel
theorem dX4_take_173 : decode cX4_take 173 = .ok (.iconst 4, 1) := by decide +kernel
theorem dX4_take_174 : decode cX4_take 174 = .ok (.invokestatic 64, 3) := by decide +kernel
theorem dX4_take_177 : decode cX4_take 177 = .ok (.aload_n 1, 1) := by decide +kernel
theorem dX4_take_178 : decode cX4_take 178 = .ok (.getfield 48, 3) := by decide +kernel
theorem dX4_take_181 : decode cX4_take 181 = .ok (.iconst 0, 1) := by decide +kernel
theorem dX4_take_182 : decode cX4_take 182 = .ok (.aload_n 0, 1) := by decide +kernel
theorem dX4_take_183 : decode cX4_take 183 = .ok (.getfield 48, 3) := by decide +kernel
theorem dX4_take_186 : decode cX4_take 186 = .ok (.iconst 0, 1) := by decide +kernel
theorem dX4_take_187 : decode cX4_take 187 = .ok (.iconst 4, 1) := by decide +kernel
theorem dX4_take_188 : decode cX4_take 188 = .ok (.invokestatic 64, 3) := by decide +kernel
theorem dX4_take_191 : decode cX4_take 191 = .ok (.aload_n 1, 1) := by decide +kernel
theorem dX4_take_192 : decode cX4_take 192 = .ok (.getfield 51, 3) := by decide +kernel
theorem dX4_take_195 : decode cX4_take 195 = .ok (.iconst 0, 1) := by decide +kernel
theorem dX4_take_196 : decode cX4_take 196 = .ok (.aload_n 0, 1) := by decide +kernel
theorem dX4_take_197 : decode cX4_take 197 = .ok (.getfield 51, 3) := by decide +kernel
theorem dX4_take_200 : decode cX4_take 200 = .ok (.iconst 0, 1) := by decide +kernel
theorem dX4_take_201 : decode cX4_take 201 = .ok (.iconst 4, 1) := by decide +kernel
theorem dX4_take_202 : decode cX4_take 202 = .ok (.invokestatic 64, 3) := by decide +kernel
theorem dX4_take_205 : decode cX4_take 205 = .ok (.aload_n 0, 1) := by decide +kernel
theorem dX4_take_206 : decode cX4_take 206 = .ok (.aload_n 1, 1) := by decide +kernel
theorem dX4_take_207 : decode cX4_take 207 = .ok (.getfield 54, 3) := by decide +kernel
theorem dX4_take_210 : decode cX4_take 210 = .ok (.putfield 54, 3) := by decide +kernel
theorem dX4_take_213 : decode cX4_take 213 = .ok (.aload_n 0, 1) := by decide +kernel
theorem dX4_take_214 : decode cX4_take 214 = .ok (.aload_n 1, 1) := by decide +kernel
theorem dX4_take_215 : decode cX4_take 215 = .ok (.getfield 58, 3) := by decide +kernel
theorem dX4_take_218 : decode cX4_take 218 = .ok (.putfield 58, 3) := by decide +kernel
theorem dX4_take_221 : decode cX4_take 221 = .ok (.return_, 1) := by decide +kernel
set_option maxRecDepth 20000 in
theorem ggX4_look_X4_wholeRoot : GoodIn wsX4_look wsX4_wholeRoot := goodIn_r _ [6] (by decide +kernel) (by decide +kernel)
set_option maxRecDepth 20000 in
theorem gX4_look_X4_wholeRoot : GoodIn wsX4_look (va_wsS RX4 70 yX4_wholeRoot wsX4_wholeRoot) := goodIn_app (goodIn_of _ (by decide +kernel)) ggX4_look_X4_wholeRoot
theorem dX4_look_0 : decode cX4_look 0 = .ok (.aload_n 0, 1) := by decide +kernel
theorem dX4_look_1 : decode cX4_look 1 = .ok (.getfield 9, 3) := by decide +kernel
theorem dX4_look_4 : decode cX4_look 4 = .ok (.iconst 0, 1) := by decide +kernel
theorem dX4_look_5 : decode cX4_look 5 = .ok (.iaload, 1) := by decide +kernel
theorem dX4_look_6 : decode cX4_look 6 = .ok (.istore_n 1, 1) := by decide +kernel
theorem dX4_look_7 : decode cX4_look 7 = .ok (.iconst 0, 1) := by decide +kernel
theorem dX4_look_8 : decode cX4_look 8 = .ok (.istore_n 2, 1) := by decide +kernel
theorem dX4_look_9 : decode cX4_look 9 = .ok (.iload_n 2, 1) := by decide +kernel
theorem dX4_look_10 : decode cX4_look 10 = .ok (.bipush 100, 2) := by decide +kernel
theorem dX4_look_12 : decode cX4_look 12 = .ok (.if_icmp .ge 50, 3) := by decide +kernel
theorem dX4_look_15 : decode cX4_look 15 = .ok (.iload_n 2, 1) := by decide +kernel
theorem dX4_look_16 : decode cX4_look 16 = .ok (.bipush 10, 2) := by decide +kernel
theorem dX4_look_18 : decode cX4_look 18 = .ok (.idiv, 1) := by decide +kernel
theorem dX4_look_19 : decode cX4_look 19 = .ok (.iload_n 1, 1) := by decide +kernel
theorem dX4_look_20 : decode cX4_look 20 = .ok (.bipush 10, 2) := by decide +kernel
theorem dX4_look_22 : decode cX4_look 22 = .ok (.idiv, 1) := by decide +kernel
theorem dX4_look_23 : decode cX4_look 23 = .ok (.isub, 1) := by decide +kernel
theorem dX4_look_24 : decode cX4_look 24 = .ok (.istore_n 3, 1) := by decide +kernel
theorem dX4_look_25 : decode cX4_look 25 = .ok (.iload_n 2, 1) := by decide +kernel
theorem dX4_look_26 : decode cX4_look 26 = .ok (.bipush 10, 2) := by decide +kernel
theorem dX4_look_28 : decode cX4_look 28 = .ok (.irem, 1) := by decide +kernel
theorem dX4_look_29 : decode cX4_look 29 = .ok (.iload_n 1, 1) := by decide +kernel
theorem dX4_look_30 : decode cX4_look 30 = .ok (.bipush 10, 2) := by decide +kernel
theorem dX4_look_32 : decode cX4_look 32 = .ok (.irem, 1) := by decide +kernel
theorem dX4_look_33 : decode cX4_look 33 = .ok (.isub, 1) := by decide +kernel
theorem dX4_look_34 : decode cX4_look 34 = .ok (.istore 4, 2) := by decide +kernel
theorem dX4_look_36 : decode cX4_look 36 = .ok (.aload_n 0, 1) := by decide +kernel
theorem dX4_look_37 : decode cX4_look 37 = .ok (.getfield 30, 3) := by decide +kernel
theorem dX4_look_40 : decode cX4_look 40 = .ok (.iload_n 2, 1) := by decide +kernel
theorem dX4_look_41 : decode cX4_look 41 = .ok (.iconst 4, 1) := by decide +kernel
theorem dX4_look_42 : decode cX4_look 42 = .ok (.iload_n 3, 1) := by decide +kernel
theorem dX4_look_43 : decode cX4_look 43 = .ok (.iload_n 3, 1) := by decide +kernel
theorem dX4_look_44 : decode cX4_look 44 = .ok (.imul, 1) := by decide +kernel
theorem dX4_look_45 : decode cX4_look 45 = .ok (.iload 4, 2) := by decide +kernel
theorem dX4_look_47 : decode cX4_look 47 = .ok (.iload 4, 2) := by decide +kernel
theorem dX4_look_49 : decode cX4_look 49 = .ok (.imul, 1) := by decide +kernel
theorem dX4_look_50 : decode cX4_look 50 = .ok (.iadd, 1) := by decide +kernel
theorem dX4_look_51 : decode cX4_look 51 = .ok (.imul, 1) := by decide +kernel
theorem dX4_look_52 : decode cX4_look 52 = .ok (.invokestatic 70, 3) := by decide +kernel
theorem dX4_look_55 : decode cX4_look 55 = .ok (.iastore, 1) := by decide +kernel
theorem dX4_look_56 : decode cX4_look 56 = .ok (.iinc 2 1, 3) := by decide +kernel
theorem dX4_look_59 : decode cX4_look 59 = .ok (.goto (-50), 3) := by decide +kernel
theorem dX4_look_62 : decode cX4_look 62 = .ok (.return_, 1) := by decide +kernel
theorem dX4_wholeRoot_0 : decode cX4_wholeRoot 0 = .ok (.iconst 0, 1) := by decide +kernel
theorem dX4_wholeRoot_1 : decode cX4_wholeRoot 1 = .ok (.istore_n 1, 1) := by decide +kernel
theorem dX4_wholeRoot_2 : decode cX4_wholeRoot 2 = .ok (.iload_n 1, 1) := by decide +kernel
theorem dX4_wholeRoot_3 : decode cX4_wholeRoot 3 = .ok (.bipush 100, 2) := by decide +kernel
theorem dX4_wholeRoot_5 : decode cX4_wholeRoot 5 = .ok (.if_icmp .ge 20, 3) := by decide +kernel
theorem dX4_wholeRoot_8 : decode cX4_wholeRoot 8 = .ok (.iload_n 1, 1) := by decide +kernel
theorem dX4_wholeRoot_9 : decode cX4_wholeRoot 9 = .ok (.iconst 1, 1) := by decide +kernel
theorem dX4_wholeRoot_10 : decode cX4_wholeRoot 10 = .ok (.iadd, 1) := by decide +kernel
theorem dX4_wholeRoot_11 : decode cX4_wholeRoot 11 = .ok (.iload_n 1, 1) := by decide +kernel
theorem dX4_wholeRoot_12 : decode cX4_wholeRoot 12 = .ok (.iconst 1, 1) := by decide +kernel
theorem dX4_wholeRoot_13 : decode cX4_wholeRoot 13 = .ok (.iadd, 1) := by decide +kernel
theorem dX4_wholeRoot_14 : decode cX4_wholeRoot 14 = .ok (.imul, 1) := by decide +kernel
theorem dX4_wholeRoot_15 : decode cX4_wholeRoot 15 = .ok (.iload_n 0, 1) := by decide +kernel
theorem dX4_wholeRoot_16 : decode cX4_wholeRoot 16 = .ok (.if_icmp .gt 9, 3) := by decide +kernel
theorem dX4_wholeRoot_19 : decode cX4_wholeRoot 19 = .ok (.iinc 1 1, 3) := by decide +kernel
theorem dX4_wholeRoot_22 : decode cX4_wholeRoot 22 = .ok (.goto (-20), 3) := by decide +kernel
theorem dX4_wholeRoot_25 : decode cX4_wholeRoot 25 = .ok (.iload_n 1, 1) := by decide +kernel
theorem dX4_wholeRoot_26 : decode cX4_wholeRoot 26 = .ok (.ireturn, 1) := by decide +kernel
theorem dX4_isDragged_0 : decode cX4_isDragged 0 = .ok (.iconst 0, 1) := by decide +kernel
theorem dX4_isDragged_1 : decode cX4_isDragged 1 = .ok (.istore_n 2, 1) := by decide +kernel
theorem dX4_isDragged_2 : decode cX4_isDragged 2 = .ok (.iload_n 2, 1) := by decide +kernel
theorem dX4_isDragged_3 : decode cX4_isDragged 3 = .ok (.aload_n 0, 1) := by decide +kernel
theorem dX4_isDragged_4 : decode cX4_isDragged 4 = .ok (.getfield 58, 3) := by decide +kernel
theorem dX4_isDragged_7 : decode cX4_isDragged 7 = .ok (.if_icmp .ge 26, 3) := by decide +kernel
theorem dX4_isDragged_10 : decode cX4_isDragged 10 = .ok (.iload_n 2, 1) := by decide +kernel
theorem dX4_isDragged_11 : decode cX4_isDragged 11 = .ok (.iconst 4, 1) := by decide +kernel
theorem dX4_isDragged_12 : decode cX4_isDragged 12 = .ok (.if_icmp .ge 21, 3) := by decide +kernel
theorem dX4_isDragged_15 : decode cX4_isDragged 15 = .ok (.aload_n 0, 1) := by decide +kernel
theorem dX4_isDragged_16 : decode cX4_isDragged 16 = .ok (.getfield 48, 3) := by decide +kernel
theorem dX4_isDragged_19 : decode cX4_isDragged 19 = .ok (.iload_n 2, 1) := by decide +kernel
theorem dX4_isDragged_20 : decode cX4_isDragged 20 = .ok (.iaload, 1) := by decide +kernel
theorem dX4_isDragged_21 : decode cX4_isDragged 21 = .ok (.iload_n 1, 1) := by decide +kernel
theorem dX4_isDragged_22 : decode cX4_isDragged 22 = .ok (.if_icmp .ne 5, 3) := by decide +kernel
theorem dX4_isDragged_25 : decode cX4_isDragged 25 = .ok (.iconst 1, 1) := by decide +kernel
theorem dX4_isDragged_26 : decode cX4_isDragged 26 = .ok (.ireturn, 1) := by decide +kernel
theorem dX4_isDragged_27 : decode cX4_isDragged 27 = .ok (.iinc 2 1, 3) := by decide +kernel
theorem dX4_isDragged_30 : decode cX4_isDragged 30 = .ok (.goto (-28), 3) := by decide +kernel
theorem dX4_isDragged_33 : decode cX4_isDragged 33 = .ok (.iconst 0, 1) := by decide +kernel
theorem dX4_isDragged_34 : decode cX4_isDragged 34 = .ok (.ireturn, 1) := by decide +kernel
theorem dX4_missed_0 : decode cX4_missed 0 = .ok (.lconst 1, 1) := by decide +kernel
theorem dX4_missed_1 : decode cX4_missed 1 = .ok (.lstore_n 2, 1) := by decide +kernel
theorem dX4_missed_2 : decode cX4_missed 2 = .ok (.iconst 0, 1) := by decide +kernel
theorem dX4_missed_3 : decode cX4_missed 3 = .ok (.istore 4, 2) := by decide +kernel
theorem dX4_missed_5 : decode cX4_missed 5 = .ok (.iload 4, 2) := by decide +kernel
theorem dX4_missed_7 : decode cX4_missed 7 = .ok (.aload_n 0, 1) := by decide +kernel
theorem dX4_missed_8 : decode cX4_missed 8 = .ok (.getfield 58, 3) := by decide +kernel
theorem dX4_missed_11 : decode cX4_missed 11 = .ok (.if_icmp .ge 46, 3) := by decide +kernel
theorem dX4_missed_14 : decode cX4_missed 14 = .ok (.iload 4, 2) := by decide +kernel
theorem dX4_missed_16 : decode cX4_missed 16 = .ok (.iconst 4, 1) := by decide +kernel
theorem dX4_missed_17 : decode cX4_missed 17 = .ok (.if_icmp .ge 40, 3) := by decide +kernel
theorem dX4_missed_20 : decode cX4_missed 20 = .ok (.lload_n 2, 1) := by decide +kernel
theorem dX4_missed_21 : decode cX4_missed 21 = .ok (.aload_n 0, 1) := by decide +kernel
theorem dX4_missed_22 : decode cX4_missed 22 = .ok (.getfield 48, 3) := by decide +kernel
theorem dX4_missed_25 : decode cX4_missed 25 = .ok (.iload 4, 2) := by decide +kernel
theorem dX4_missed_27 : decode cX4_missed 27 = .ok (.iaload, 1) := by decide +kernel
theorem dX4_missed_28 : decode cX4_missed 28 = .ok (.iload_n 1, 1) := by decide +kernel
theorem dX4_missed_29 : decode cX4_missed 29 = .ok (.if_icmp .ne 17, 3) := by decide +kernel
theorem dX4_missed_32 : decode cX4_missed 32 = .ok (.bipush 8, 2) := by decide +kernel
theorem dX4_missed_34 : decode cX4_missed 34 = .ok (.aload_n 0, 1) := by decide +kernel
theorem dX4_missed_35 : decode cX4_missed 35 = .ok (.getfield 51, 3) := by decide +kernel
theorem dX4_missed_38 : decode cX4_missed 38 = .ok (.iload 4, 2) := by decide +kernel
theorem dX4_missed_40 : decode cX4_missed 40 = .ok (.iaload, 1) := by decide +kernel
theorem dX4_missed_41 : decode cX4_missed 41 = .ok (.isub, 1) := by decide +kernel
theorem dX4_missed_42 : decode cX4_missed 42 = .ok (.i2l, 1) := by decide +kernel
theorem dX4_missed_43 : decode cX4_missed 43 = .ok (.goto 6, 3) := by decide +kernel
theorem dX4_missed_46 : decode cX4_missed 46 = .ok (.ldc2_w 74, 3) := by decide +kernel
theorem dX4_missed_49 : decode cX4_missed 49 = .ok (.lmul, 1) := by decide +kernel
theorem dX4_missed_50 : decode cX4_missed 50 = .ok (.lstore_n 2, 1) := by decide +kernel
theorem dX4_missed_51 : decode cX4_missed 51 = .ok (.iinc 4 1, 3) := by decide +kernel
theorem dX4_missed_54 : decode cX4_missed 54 = .ok (.goto (-49), 3) := by decide +kernel
theorem dX4_missed_57 : decode cX4_missed 57 = .ok (.lload_n 2, 1) := by decide +kernel
theorem dX4_missed_58 : decode cX4_missed 58 = .ok (.lreturn, 1) := by decide +kernel
theorem dX5_init_0 : decode cX5_init 0 = .ok (.aload_n 0, 1) := by decide +kernel
theorem dX5_init_1 : decode cX5_init 1 = .ok (.invokespecial 3, 3) := by decide +kernel
theorem dX5_init_4 : decode cX5_init 4 = .ok (.aload_n 0, 1) := by decide +kernel
theorem dX5_init_5 : decode cX5_init 5 = .ok (.bipush 7, 2) := by decide +kernel
theorem dX5_init_7 : decode cX5_init 7 = .ok (.newarray .int, 2) := by decide +kernel
theorem dX5_init_9 : decode cX5_init 9 = .ok (.putfield 9, 3) := by decide +kernel
theorem dX5_init_12 : decode cX5_init 12 = .ok (.aload_n 0, 1) := by decide +kernel
theorem dX5_init_13 : decode cX5_init 13 = .ok (.bipush 7, 2) := by decide +kernel
theorem dX5_init_15 : decode cX5_init 15 = .ok (.newarray .int, 2) := by decide +kernel
theorem dX5_init_17 : decode cX5_init 17 = .ok (.putfield 15, 3) := by decide +kernel
theorem dX5_init_20 : decode cX5_init 20 = .ok (.aload_n 0, 1) := by decide +kernel
theorem dX5_init_21 : decode cX5_init 21 = .ok (.bipush 7, 2) := by decide +kernel
theorem dX5_init_23 : decode cX5_init 23 = .ok (.newarray .int, 2) := by decide +kernel
theorem dX5_init_25 : decode cX5_init 25 = .ok (.putfield 18, 3) := by decide +kernel
theorem dX5_init_28 : decode cX5_init 28 = .ok (.aload_n 0, 1) := by decide +kernel
theorem dX5_init_29 : decode cX5_init 29 = .ok (.bipush 100, 2) := by decide +kernel
theorem dX5_init_31 : decode cX5_init 31 = .ok (.newarray .int, 2) := by decide +kernel
theorem dX5_init_33 : decode cX5_init 33 = .ok (.putfield 21, 3) := by decide +kernel
theorem dX5_init_36 : decode cX5_init 36 = .ok (.aload_n 0, 1) := by decide +kernel
theorem dX5_init_37 : decode cX5_init 37 = .ok (.iconst 1, 1) := by decide +kernel
theorem dX5_init_38 : decode cX5_init 38 = .ok (.putfield 24, 3) := by decide +kernel
theorem dX5_init_41 : decode cX5_init 41 = .ok (.aload_n 0, 1) := by decide +kernel
theorem dX5_init_42 : decode cX5_init 42 = .ok (.iconst 0, 1) := by decide +kernel
theorem dX5_init_43 : decode cX5_init 43 = .ok (.putfield 28, 3) := by decide +kernel
theorem dX5_init_46 : decode cX5_init 46 = .ok (.aload_n 0, 1) := by decide +kernel
theorem dX5_init_47 : decode cX5_init 47 = .ok (.iconst 0, 1) := by decide +kernel
theorem dX5_init_48 : decode cX5_init 48 = .ok (.putfield 31, 3) := by decide +kernel
theorem dX5_init_51 : decode cX5_init 51 = .ok (.aload_n 0, 1) := by decide +kernel
theorem dX5_init_52 : decode cX5_init 52 = .ok (.iconst 0, 1) := by decide +kernel
theorem dX5_init_53 : decode cX5_init 53 = .ok (.putfield 35, 3) := by decide +kernel
theorem dX5_init_56 : decode cX5_init 56 = .ok (.aload_n 0, 1) := by decide +kernel
theorem dX5_init_57 : decode cX5_init 57 = .ok (.iconst 0, 1) := by decide +kernel
theorem dX5_init_58 : decode cX5_init 58 = .ok (.putfield 38, 3) := by decide +kernel
theorem dX5_init_61 : decode cX5_init 61 = .ok (.aload_n 0, 1) := by decide +kernel
theorem dX5_init_62 : decode cX5_init 62 = .ok (.bipush 7, 2) := by decide +kernel
theorem dX5_init_64 : decode cX5_init 64 = .ok (.newarray .int, 2) := by decide +kernel
theorem dX5_init_66 : decode cX5_init 66 = .ok (.putfield 41, 3) := by decide +kernel
theorem dX5_init_69 : decode cX5_init 69 = .ok (.aload_n 0, 1) := by decide +kernel
theorem dX5_init_70 : decode cX5_init 70 = .ok (.bipush 100, 2) := by decide +kernel
theorem dX5_init_72 : decode cX5_init 72 = .ok (.newarray .long, 2) := by decide +kernel
theorem dX5_init_74 : decode cX5_init 74 = .ok (.putfield 44, 3) := by decide +kernel
theorem dX5_init_77 : decode cX5_init 77 = .ok (.aload_n 0, 1) := by decide +kernel
theorem dX5_init_78 : decode cX5_init 78 = .ok (.bipush 70, 2) := by decide +kernel
theorem dX5_init_80 : decode cX5_init 80 = .ok (.newarray .int, 2) := by decide +kernel
theorem dX5_init_82 : decode cX5_init 82 = .ok (.putfield 48, 3) := by decide +kernel
theorem dX5_init_85 : decode cX5_init 85 = .ok (.aload_n 0, 1) := by decide +kernel
theorem dX5_init_86 : decode cX5_init 86 = .ok (.bipush 24, 2) := by decide +kernel
theorem dX5_init_88 : decode cX5_init 88 = .ok (.newarray .int, 2) := by decide +kernel
theorem dX5_init_90 : decode cX5_init 90 = .ok (.putfield 51, 3) := by decide +kernel
theorem dX5_init_93 : decode cX5_init 93 = .ok (.aload_n 0, 1) := by decide +kernel
theorem dX5_init_94 : decode cX5_init 94 = .ok (.iconst 0, 1) := by decide +kernel
theorem dX5_init_95 : decode cX5_init 95 = .ok (.putfield 54, 3) := by decide +kernel
theorem dX5_init_98 : decode cX5_init 98 = .ok (.aload_n 0, 1) := by decide +kernel
theorem dX5_init_99 : decode cX5_init 99 = .ok (.lconst 0, 1) := by decide +kernel
theorem dX5_init_100 : decode cX5_init 100 = .ok (.putfield 57, 3) := by decide +kernel
theorem dX5_init_103 : decode cX5_init 103 = .ok (.aload_n 0, 1) := by decide +kernel
theorem dX5_init_104 : decode cX5_init 104 = .ok (.iconst (-1), 1) := by decide +kernel
theorem dX5_init_105 : decode cX5_init 105 = .ok (.putfield 61, 3) := by decide +kernel
theorem dX5_init_108 : decode cX5_init 108 = .ok (.aload_n 0, 1) := by decide +kernel
theorem dX5_init_109 : decode cX5_init 109 = .ok (.iconst (-1), 1) := by decide +kernel
theorem dX5_init_110 : decode cX5_init 110 = .ok (.putfield 64, 3) := by decide +kernel
theorem dX5_init_113 : decode cX5_init 113 = .ok (.aload_n 0, 1) := by decide +kernel
theorem dX5_init_114 : decode cX5_init 114 = .ok (.iconst 0, 1) := by decide +kernel
theorem dX5_init_115 : decode cX5_init 115 = .ok (.putfield 67, 3) := by decide +kernel
theorem dX5_init_118 : decode cX5_init 118 = .ok (.aload_n 0, 1) := by decide +kernel
theorem dX5_init_119 : decode cX5_init 119 = .ok (.iconst 0, 1) := by decide +kernel
theorem dX5_init_120 : decode cX5_init 120 = .ok (.putfield 70, 3) := by decide +kernel
theorem dX5_init_123 : decode cX5_init 123 = .ok (.aload_n 0, 1) := by decide +kernel
theorem dX5_init_124 : decode cX5_init 124 = .ok (.iconst 0, 1) := by decide +kernel
theorem dX5_init_125 : decode cX5_init 125 = .ok (.putfield 73, 3) := by decide +kernel
theorem dX5_init_128 : decode cX5_init 128 = .ok (.return_, 1) := by decide +kernel
theorem dX5_begin_0 : decode cX5_begin 0 = .ok (.aload_n 1, 1) := by decide +kernel
theorem dX5_begin_1 : decode cX5_begin 1 = .ok (.getfield 76, 3) := by decide +kernel
theorem dX5_begin_4 : decode cX5_begin 4 = .ok (.iconst 0, 1) := by decide +kernel
theorem dX5_begin_5 : decode cX5_begin 5 = .ok (.aload_n 0, 1) := by decide +kernel
theorem dX5_begin_6 : decode cX5_begin 6 = .ok (.getfield 9, 3) := by decide +kernel
theorem dX5_begin_9 : decode cX5_begin 9 = .ok (.iconst 0, 1) := by decide +kernel
theorem dX5_begin_10 : decode cX5_begin 10 = .ok (.bipush 7, 2) := by decide +kernel
theorem dX5_begin_12 : decode cX5_begin 12 = .ok (.invokestatic 79, 3) := by decide +kernel
theorem dX5_begin_15 : decode cX5_begin 15 = .ok (.aload_n 1, 1) := by decide +kernel
theorem dX5_begin_16 : decode cX5_begin 16 = .ok (.getfield 85, 3) := by decide +kernel
theorem dX5_begin_19 : decode cX5_begin 19 = .ok (.iconst 0, 1) := by decide +kernel
theorem dX5_begin_20 : decode cX5_begin 20 = .ok (.aload_n 0, 1) := by decide +kernel
theorem dX5_begin_21 : decode cX5_begin 21 = .ok (.getfield 15, 3) := by decide +kernel
theorem dX5_begin_24 : decode cX5_begin 24 = .ok (.iconst 0, 1) := by decide +kernel
theorem dX5_begin_25 : decode cX5_begin 25 = .ok (.bipush 7, 2) := by decide +kernel
theorem dX5_begin_27 : decode cX5_begin 27 = .ok (.invokestatic 79, 3) := by decide +kernel
theorem dX5_begin_30 : decode cX5_begin 30 = .ok (.aload_n 1, 1) := by decide +kernel
theorem dX5_begin_31 : decode cX5_begin 31 = .ok (.getfield 86, 3) := by decide +kernel
theorem dX5_begin_34 : decode cX5_begin 34 = .ok (.iconst 0, 1) := by decide +kernel
theorem dX5_begin_35 : decode cX5_begin 35 = .ok (.aload_n 0, 1) := by decide +kernel
theorem dX5_begin_36 : decode cX5_begin 36 = .ok (.getfield 21, 3) := by decide +kernel
theorem dX5_begin_39 : decode cX5_begin 39 = .ok (.iconst 0, 1) := by decide +kernel
theorem dX5_begin_40 : decode cX5_begin 40 = .ok (.bipush 100, 2) := by decide +kernel
theorem dX5_begin_42 : decode cX5_begin 42 = .ok (.invokestatic 79, 3) := by decide +kernel
theorem dX5_begin_45 : decode cX5_begin 45 = .ok (.iconst 0, 1) := by decide +kernel
theorem dX5_begin_46 : decode cX5_begin 46 = .ok (.istore_n 2, 1) := by decide +kernel
theorem dX5_begin_47 : decode cX5_begin 47 = .ok (.iload_n 2, 1) := by decide +kernel
theorem dX5_begin_48 : decode cX5_begin 48 = .ok (.bipush 6, 2) := by decide +kernel
theorem dX5_begin_50 : decode cX5_begin 50 = .ok (.if_icmp .gt 16, 3) := by decide +kernel
theorem dX5_begin_53 : decode cX5_begin 53 = .ok (.aload_n 0, 1) := by decide +kernel
theorem dX5_begin_54 : decode cX5_begin 54 = .ok (.getfield 18, 3) := by decide +kernel
theorem dX5_begin_57 : decode cX5_begin 57 = .ok (.iload_n 2, 1) := by decide +kernel
theorem dX5_begin_58 : decode cX5_begin 58 = .ok (.iconst (-1), 1) := by decide +kernel
theorem dX5_begin_59 : decode cX5_begin 59 = .ok (.iastore, 1) := by decide +kernel
theorem dX5_begin_60 : decode cX5_begin 60 = .ok (.iinc 2 1, 3) := by decide +kernel
theorem dX5_begin_63 : decode cX5_begin 63 = .ok (.goto (-16), 3) := by decide +kernel
theorem dX5_begin_66 : decode cX5_begin 66 = .ok (.aload_n 0, 1) := by decide +kernel
theorem dX5_begin_67 : decode cX5_begin 67 = .ok (.getfield 41, 3) := by decide +kernel
theorem dX5_begin_70 : decode cX5_begin 70 = .ok (.iconst 0, 1) := by decide +kernel
theorem dX5_begin_71 : decode cX5_begin 71 = .ok (.aload_n 1, 1) := by decide +kernel
theorem dX5_begin_72 : decode cX5_begin 72 = .ok (.getfield 87, 3) := by decide +kernel
theorem dX5_begin_75 : decode cX5_begin 75 = .ok (.iconst 1, 1) := by decide +kernel
theorem dX5_begin_76 : decode cX5_begin 76 = .ok (.iaload, 1) := by decide +kernel
theorem dX5_begin_77 : decode cX5_begin 77 = .ok (.iastore, 1) := by decide +kernel
theorem dX5_begin_78 : decode cX5_begin 78 = .ok (.aload_n 0, 1) := by decide +kernel
theorem dX5_begin_79 : decode cX5_begin 79 = .ok (.aload_n 1, 1) := by decide +kernel
theorem dX5_begin_80 : decode cX5_begin 80 = .ok (.getfield 87, 3) := by decide +kernel
theorem dX5_begin_83 : decode cX5_begin 83 = .ok (.iconst 2, 1) := by decide +kernel
theorem dX5_begin_84 : decode cX5_begin 84 = .ok (.iaload, 1) := by decide +kernel
theorem dX5_begin_85 : decode cX5_begin 85 = .ok (.putfield 24, 3) := by decide +kernel
theorem dX5_begin_88 : decode cX5_begin 88 = .ok (.aload_n 0, 1) := by decide +kernel
theorem dX5_begin_89 : decode cX5_begin 89 = .ok (.aload_n 1, 1) := by decide +kernel
theorem dX5_begin_90 : decode cX5_begin 90 = .ok (.getfield 87, 3) := by decide +kernel
theorem dX5_begin_93 : decode cX5_begin 93 = .ok (.iconst 3, 1) := by decide +kernel
theorem dX5_begin_94 : decode cX5_begin 94 = .ok (.iaload, 1) := by decide +kernel
theorem dX5_begin_95 : decode cX5_begin 95 = .ok (.putfield 28, 3) := by decide +kernel
theorem dX5_begin_98 : decode cX5_begin 98 = .ok (.aload_n 0, 1) := by decide +kernel
theorem dX5_begin_99 : decode cX5_begin 99 = .ok (.aload_n 1, 1) := by decide +kernel
theorem dX5_begin_100 : decode cX5_begin 100 = .ok (.getfield 87, 3) := by decide +kernel
theorem dX5_begin_103 : decode cX5_begin 103 = .ok (.iconst 4, 1) := by decide +kernel
theorem dX5_begin_104 : decode cX5_begin 104 = .ok (.iaload, 1) := by decide +kernel
theorem dX5_begin_105 : decode cX5_begin 105 = .ok (.iconst 1, 1) := by decide +kernel
theorem dX5_begin_106 : decode cX5_begin 106 = .ok (.if_icmp .ne 7, 3) := by decide +kernel
theorem dX5_begin_109 : decode cX5_begin 109 = .ok (.iconst 1, 1) := by decide +kernel
theorem dX5_begin_110 : decode cX5_begin 110 = .ok (.goto 4, 3) := by decide +kernel
theorem dX5_begin_113 : decode cX5_begin 113 = .ok (.iconst 0, 1) := by decide +kernel
theorem dX5_begin_114 : decode cX5_begin 114 = .ok (.putfield 31, 3) := by decide +kernel
