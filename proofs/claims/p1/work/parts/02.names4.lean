theorem dX7_ring_48 : decode cX7_ring 48 = .ok (.invokestatic 100, 3) := by decide +kernel
theorem dX7_ring_51 : decode cX7_ring 51 = .ok (.ifCond .ne 5, 3) := by decide +kernel
theorem dX7_ring_54 : decode cX7_ring 54 = .ok (.iconst (-1), 1) := by decide +kernel
theorem dX7_ring_55 : decode cX7_ring 55 = .ok (.ireturn, 1) := by decide +kernel
theorem dX7_ring_56 : decode cX7_ring 56 = .ok (.iload_n 2, 1) := by decide +kernel
theorem dX7_ring_57 : decode cX7_ring 57 = .ok (.ifCond .ne 12, 3) := by decide +kernel
theorem dX7_ring_60 : decode cX7_ring 60 = .ok (.aload_n 0, 1) := by decide +kernel
theorem dX7_ring_61 : decode cX7_ring 61 = .ok (.getfield 13, 3) := by decide +kernel
theorem dX7_ring_64 : decode cX7_ring 64 = .ok (.iload_n 1, 1) := by decide +kernel
theorem dX7_ring_65 : decode cX7_ring 65 = .ok (.iaload, 1) := by decide +kernel
theorem dX7_ring_66 : decode cX7_ring 66 = .ok (.goto 9, 3) := by decide +kernel
theorem dX7_ring_69 : decode cX7_ring 69 = .ok (.aload_n 0, 1) := by decide +kernel
theorem dX7_ring_70 : decode cX7_ring 70 = .ok (.getfield 16, 3) := by decide +kernel
theorem dX7_ring_73 : decode cX7_ring 73 = .ok (.iload_n 1, 1) := by decide +kernel
theorem dX7_ring_74 : decode cX7_ring 74 = .ok (.iaload, 1) := by decide +kernel
theorem dX7_ring_75 : decode cX7_ring 75 = .ok (.istore 4, 2) := by decide +kernel
theorem dX7_ring_77 : decode cX7_ring 77 = .ok (.iload_n 2, 1) := by decide +kernel
theorem dX7_ring_78 : decode cX7_ring 78 = .ok (.ifCond .ne 13, 3) := by decide +kernel
theorem dX7_ring_81 : decode cX7_ring 81 = .ok (.aload_n 0, 1) := by decide +kernel
theorem dX7_ring_82 : decode cX7_ring 82 = .ok (.getfield 13, 3) := by decide +kernel
theorem dX7_ring_85 : decode cX7_ring 85 = .ok (.iload_n 1, 1) := by decide +kernel
theorem dX7_ring_86 : decode cX7_ring 86 = .ok (.iload_n 3, 1) := by decide +kernel
theorem dX7_ring_87 : decode cX7_ring 87 = .ok (.iastore, 1) := by decide +kernel
theorem dX7_ring_88 : decode cX7_ring 88 = .ok (.goto 10, 3) := by decide +kernel
theorem dX7_ring_91 : decode cX7_ring 91 = .ok (.aload_n 0, 1) := by decide +kernel
theorem dX7_ring_92 : decode cX7_ring 92 = .ok (.getfield 16, 3) := by decide +kernel
theorem dX7_ring_95 : decode cX7_ring 95 = .ok (.iload_n 1, 1) := by decide +kernel
theorem dX7_ring_96 : decode cX7_ring 96 = .ok (.iload_n 3, 1) := by decide +kernel
theorem dX7_ring_97 : decode cX7_ring 97 = .ok (.iastore, 1) := by decide +kernel
theorem dX7_ring_98 : decode cX7_ring 98 = .ok (.bipush 100, 2) := by decide +kernel
theorem dX7_ring_100 : decode cX7_ring 100 = .ok (.iload 4, 2) := by decide +kernel
theorem dX7_ring_102 : decode cX7_ring 102 = .ok (.iadd, 1) := by decide +kernel
theorem dX7_ring_103 : decode cX7_ring 103 = .ok (.ireturn, 1) := by decide +kernel
set_option maxRecDepth 20000 in
theorem ggX7_type_X7_in : GoodIn wsX7_type wsX7_in := goodIn_r _ [10] (by decide +kernel) (by decide +kernel)
set_option maxRecDepth 20000 in
theorem gX7_type_X7_in : GoodIn wsX7_type (va_wsS RX7 100 yX7_in wsX7_in) := goodIn_app (goodIn_of _ (by decide +kernel)) ggX7_type_X7_in
theorem dX7_type_0 : decode cX7_type 0 = .ok (.iload_n 3, 1) := by decide +kernel
theorem dX7_type_1 : decode cX7_type 1 = .ok (.i2l, 1) := by decide +kernel
theorem dX7_type_2 : decode cX7_type 2 = .ok (.lconst 1, 1) := by decide +kernel
theorem dX7_type_3 : decode cX7_type 3 = .ok (.ldc2_w 130, 3) := by decide +kernel
theorem dX7_type_6 : decode cX7_type 6 = .ok (.invokestatic 100, 3) := by decide +kernel
theorem dX7_type_9 : decode cX7_type 9 = .ok (.ifCond .ne 5, 3) := by decide +kernel
theorem dX7_type_12 : decode cX7_type 12 = .ok (.iconst (-1), 1) := by decide +kernel
theorem dX7_type_13 : decode cX7_type 13 = .ok (.ireturn, 1) := by decide +kernel
theorem dX7_type_14 : decode cX7_type 14 = .ok (.iconst 0, 1) := by decide +kernel
theorem dX7_type_15 : decode cX7_type 15 = .ok (.istore 4, 2) := by decide +kernel
theorem dX7_type_17 : decode cX7_type 17 = .ok (.iload 4, 2) := by decide +kernel
theorem dX7_type_19 : decode cX7_type 19 = .ok (.iload_n 3, 1) := by decide +kernel
theorem dX7_type_20 : decode cX7_type 20 = .ok (.if_icmp .ge 34, 3) := by decide +kernel
theorem dX7_type_23 : decode cX7_type 23 = .ok (.lload_n 1, 1) := by decide +kernel
theorem dX7_type_24 : decode cX7_type 24 = .ok (.bipush 8, 2) := by decide +kernel
theorem dX7_type_26 : decode cX7_type 26 = .ok (.iload 4, 2) := by decide +kernel
theorem dX7_type_28 : decode cX7_type 28 = .ok (.imul, 1) := by decide +kernel
theorem dX7_type_29 : decode cX7_type 29 = .ok (.lshr, 1) := by decide +kernel
theorem dX7_type_30 : decode cX7_type 30 = .ok (.ldc2_w 132, 3) := by decide +kernel
theorem dX7_type_33 : decode cX7_type 33 = .ok (.land, 1) := by decide +kernel
theorem dX7_type_34 : decode cX7_type 34 = .ok (.ldc2_w 134, 3) := by decide +kernel
theorem dX7_type_37 : decode cX7_type 37 = .ok (.ldc2_w 136, 3) := by decide +kernel
theorem dX7_type_40 : decode cX7_type 40 = .ok (.invokestatic 100, 3) := by decide +kernel
theorem dX7_type_43 : decode cX7_type 43 = .ok (.ifCond .ne 5, 3) := by decide +kernel
theorem dX7_type_46 : decode cX7_type 46 = .ok (.iconst (-1), 1) := by decide +kernel
theorem dX7_type_47 : decode cX7_type 47 = .ok (.ireturn, 1) := by decide +kernel
theorem dX7_type_48 : decode cX7_type 48 = .ok (.iinc 4 1, 3) := by decide +kernel
theorem dX7_type_51 : decode cX7_type 51 = .ok (.goto (-34), 3) := by decide +kernel
theorem dX7_type_54 : decode cX7_type 54 = .ok (.aload_n 0, 1) := by decide +kernel
theorem dX7_type_55 : decode cX7_type 55 = .ok (.getfield 138, 3) := by decide +kernel
theorem dX7_type_58 : decode cX7_type 58 = .ok (.iload_n 3, 1) := by decide +kernel
theorem dX7_type_59 : decode cX7_type 59 = .ok (.iadd, 1) := by decide +kernel
theorem dX7_type_60 : decode cX7_type 60 = .ok (.bipush 60, 2) := by decide +kernel
theorem dX7_type_62 : decode cX7_type 62 = .ok (.if_icmp .le 6, 3) := by decide +kernel
theorem dX7_type_65 : decode cX7_type 65 = .ok (.bipush (-3), 2) := by decide +kernel
theorem dX7_type_67 : decode cX7_type 67 = .ok (.ireturn, 1) := by decide +kernel
theorem dX7_type_68 : decode cX7_type 68 = .ok (.iload_n 3, 1) := by decide +kernel
theorem dX7_type_69 : decode cX7_type 69 = .ok (.iconst 1, 1) := by decide +kernel
theorem dX7_type_70 : decode cX7_type 70 = .ok (.isub, 1) := by decide +kernel
theorem dX7_type_71 : decode cX7_type 71 = .ok (.istore 4, 2) := by decide +kernel
theorem dX7_type_73 : decode cX7_type 73 = .ok (.iload 4, 2) := by decide +kernel
theorem dX7_type_75 : decode cX7_type 75 = .ok (.ifCond .lt 40, 3) := by decide +kernel
theorem dX7_type_78 : decode cX7_type 78 = .ok (.aload_n 0, 1) := by decide +kernel
theorem dX7_type_79 : decode cX7_type 79 = .ok (.getfield 28, 3) := by decide +kernel
theorem dX7_type_82 : decode cX7_type 82 = .ok (.aload_n 0, 1) := by decide +kernel
theorem dX7_type_83 : decode cX7_type 83 = .ok (.getfield 138, 3) := by decide +kernel
theorem dX7_type_86 : decode cX7_type 86 = .ok (.lload_n 1, 1) := by decide +kernel
theorem dX7_type_87 : decode cX7_type 87 = .ok (.bipush 8, 2) := by decide +kernel
theorem dX7_type_89 : decode cX7_type 89 = .ok (.iload 4, 2) := by decide +kernel
theorem dX7_type_91 : decode cX7_type 91 = .ok (.imul, 1) := by decide +kernel
theorem dX7_type_92 : decode cX7_type 92 = .ok (.lshr, 1) := by decide +kernel
theorem dX7_type_93 : decode cX7_type 93 = .ok (.ldc2_w 132, 3) := by decide +kernel
theorem dX7_type_96 : decode cX7_type 96 = .ok (.land, 1) := by decide +kernel
theorem dX7_type_97 : decode cX7_type 97 = .ok (.l2i, 1) := by decide +kernel
theorem dX7_type_98 : decode cX7_type 98 = .ok (.iastore, 1) := by decide +kernel
theorem dX7_type_99 : decode cX7_type 99 = .ok (.aload_n 0, 1) := by decide +kernel
theorem dX7_type_100 : decode cX7_type 100 = .ok (.dup, 1) := by decide +kernel
theorem dX7_type_101 : decode cX7_type 101 = .ok (.getfield 138, 3) := by decide +kernel
theorem dX7_type_104 : decode cX7_type 104 = .ok (.iconst 1, 1) := by decide +kernel
theorem dX7_type_105 : decode cX7_type 105 = .ok (.iadd, 1) := by decide +kernel
theorem dX7_type_106 : decode cX7_type 106 = .ok (.putfield 138, 3) := by decide +kernel
theorem dX7_type_109 : decode cX7_type 109 = .ok (.iinc 4 (-1), 3) := by decide +kernel
theorem dX7_type_112 : decode cX7_type 112 = .ok (.goto (-39), 3) := by decide +kernel
theorem dX7_type_115 : decode cX7_type 115 = .ok (.aload_n 0, 1) := by decide +kernel
theorem dX7_type_116 : decode cX7_type 116 = .ok (.getfield 138, 3) := by decide +kernel
theorem dX7_type_119 : decode cX7_type 119 = .ok (.ireturn, 1) := by decide +kernel
theorem dX7_here_0 : decode cX7_here 0 = .ok (.aload_n 0, 1) := by decide +kernel
theorem dX7_here_1 : decode cX7_here 1 = .ok (.getfield 142, 3) := by decide +kernel
theorem dX7_here_4 : decode cX7_here 4 = .ok (.aload_n 0, 1) := by decide +kernel
theorem dX7_here_5 : decode cX7_here 5 = .ok (.getfield 138, 3) := by decide +kernel
theorem dX7_here_8 : decode cX7_here 8 = .ok (.if_icmp .ge 30, 3) := by decide +kernel
theorem dX7_here_11 : decode cX7_here 11 = .ok (.aload_n 0, 1) := by decide +kernel
theorem dX7_here_12 : decode cX7_here 12 = .ok (.getfield 28, 3) := by decide +kernel
theorem dX7_here_15 : decode cX7_here 15 = .ok (.aload_n 0, 1) := by decide +kernel
theorem dX7_here_16 : decode cX7_here 16 = .ok (.getfield 142, 3) := by decide +kernel
theorem dX7_here_19 : decode cX7_here 19 = .ok (.iaload, 1) := by decide +kernel
theorem dX7_here_20 : decode cX7_here 20 = .ok (.bipush 32, 2) := by decide +kernel
theorem dX7_here_22 : decode cX7_here 22 = .ok (.if_icmp .ne 16, 3) := by decide +kernel
theorem dX7_here_25 : decode cX7_here 25 = .ok (.aload_n 0, 1) := by decide +kernel
theorem dX7_here_26 : decode cX7_here 26 = .ok (.dup, 1) := by decide +kernel
theorem dX7_here_27 : decode cX7_here 27 = .ok (.getfield 142, 3) := by decide +kernel
theorem dX7_here_30 : decode cX7_here 30 = .ok (.iconst 1, 1) := by decide +kernel
theorem dX7_here_31 : decode cX7_here 31 = .ok (.iadd, 1) := by decide +kernel
theorem dX7_here_32 : decode cX7_here 32 = .ok (.putfield 142, 3) := by decide +kernel
theorem dX7_here_35 : decode cX7_here 35 = .ok (.goto (-35), 3) := by decide +kernel
theorem dX7_here_38 : decode cX7_here 38 = .ok (.aload_n 0, 1) := by decide +kernel
theorem dX7_here_39 : decode cX7_here 39 = .ok (.getfield 142, 3) := by decide +kernel
theorem dX7_here_42 : decode cX7_here 42 = .ok (.aload_n 0, 1) := by decide +kernel
theorem dX7_here_43 : decode cX7_here 43 = .ok (.getfield 138, 3) := by decide +kernel
theorem dX7_here_46 : decode cX7_here 46 = .ok (.if_icmp .ge 15, 3) := by decide +kernel
theorem dX7_here_49 : decode cX7_here 49 = .ok (.aload_n 0, 1) := by decide +kernel
theorem dX7_here_50 : decode cX7_here 50 = .ok (.getfield 28, 3) := by decide +kernel
theorem dX7_here_53 : decode cX7_here 53 = .ok (.aload_n 0, 1) := by decide +kernel
theorem dX7_here_54 : decode cX7_here 54 = .ok (.getfield 142, 3) := by decide +kernel
theorem dX7_here_57 : decode cX7_here 57 = .ok (.iaload, 1) := by decide +kernel
theorem dX7_here_58 : decode cX7_here 58 = .ok (.goto 4, 3) := by decide +kernel
theorem dX7_here_61 : decode cX7_here 61 = .ok (.iconst 0, 1) := by decide +kernel
theorem dX7_here_62 : decode cX7_here 62 = .ok (.ireturn, 1) := by decide +kernel
set_option maxRecDepth 20000 in
theorem ggX7_digit_X7_here : GoodIn wsX7_digit wsX7_here := goodIn_r _ [7, 2, 8, 9, 13, 14, 15, 16, 17, 18, 19, 20, 21, 22, 23, 24, 25, 26, 27, 28, 29, 30, 31, 32, 33, 34, 35, 36, 37, 38, 39, 40, 41, 42, 43, 44, 45, 46, 47, 48, 49, 50, 51, 52, 53, 54] (by decide +kernel) (by decide +kernel)
set_option maxRecDepth 20000 in
theorem gX7_digit_X7_here : GoodIn wsX7_digit (wsV RX7 149 RX7 yX7_here wsX7_here) := goodIn_app (goodIn_of _ (by decide +kernel)) ggX7_digit_X7_here
set_option maxRecDepth 20000 in
theorem ggX7_digit_X7_in : GoodIn wsX7_digit wsX7_in := goodIn_r _ [12] (by decide +kernel) (by decide +kernel)
set_option maxRecDepth 20000 in
theorem gX7_digit_X7_in : GoodIn wsX7_digit (va_wsS RX7 100 yX7_in wsX7_in) := goodIn_app (goodIn_of _ (by decide +kernel)) ggX7_digit_X7_in
theorem dX7_digit_0 : decode cX7_digit 0 = .ok (.aload_n 0, 1) := by decide +kernel
theorem dX7_digit_1 : decode cX7_digit 1 = .ok (.aload_n 0, 1) := by decide +kernel
theorem dX7_digit_2 : decode cX7_digit 2 = .ok (.getfield 145, 3) := by decide +kernel
theorem dX7_digit_5 : decode cX7_digit 5 = .ok (.ifCond .ne 24, 3) := by decide +kernel
theorem dX7_digit_8 : decode cX7_digit 8 = .ok (.aload_n 0, 1) := by decide +kernel
theorem dX7_digit_9 : decode cX7_digit 9 = .ok (.invokevirtual 149, 3) := by decide +kernel
theorem dX7_digit_12 : decode cX7_digit 12 = .ok (.i2l, 1) := by decide +kernel
theorem dX7_digit_13 : decode cX7_digit 13 = .ok (.bipush 48, 2) := by decide +kernel
theorem dX7_digit_15 : decode cX7_digit 15 = .ok (.iload_n 1, 1) := by decide +kernel
theorem dX7_digit_16 : decode cX7_digit 16 = .ok (.iadd, 1) := by decide +kernel
theorem dX7_digit_17 : decode cX7_digit 17 = .ok (.i2l, 1) := by decide +kernel
theorem dX7_digit_18 : decode cX7_digit 18 = .ok (.bipush 48, 2) := by decide +kernel
theorem dX7_digit_20 : decode cX7_digit 20 = .ok (.iload_n 2, 1) := by decide +kernel
theorem dX7_digit_21 : decode cX7_digit 21 = .ok (.iadd, 1) := by decide +kernel
theorem dX7_digit_22 : decode cX7_digit 22 = .ok (.i2l, 1) := by decide +kernel
theorem dX7_digit_23 : decode cX7_digit 23 = .ok (.invokestatic 100, 3) := by decide +kernel
theorem dX7_digit_26 : decode cX7_digit 26 = .ok (.ifCond .ne 7, 3) := by decide +kernel
theorem dX7_digit_29 : decode cX7_digit 29 = .ok (.iconst 1, 1) := by decide +kernel
theorem dX7_digit_30 : decode cX7_digit 30 = .ok (.goto 4, 3) := by decide +kernel
theorem dX7_digit_33 : decode cX7_digit 33 = .ok (.iconst 0, 1) := by decide +kernel
theorem dX7_digit_34 : decode cX7_digit 34 = .ok (.putfield 145, 3) := by decide +kernel
theorem dX7_digit_37 : decode cX7_digit 37 = .ok (.aload_n 0, 1) := by decide +kernel
theorem dX7_digit_38 : decode cX7_digit 38 = .ok (.getfield 145, 3) := by decide +kernel
theorem dX7_digit_41 : decode cX7_digit 41 = .ok (.ifCond .eq 7, 3) := by decide +kernel
theorem dX7_digit_44 : decode cX7_digit 44 = .ok (.iconst 0, 1) := by decide +kernel
theorem dX7_digit_45 : decode cX7_digit 45 = .ok (.goto 10, 3) := by decide +kernel
theorem dX7_digit_48 : decode cX7_digit 48 = .ok (.aload_n 0, 1) := by decide +kernel
theorem dX7_digit_49 : decode cX7_digit 49 = .ok (.invokevirtual 149, 3) := by decide +kernel
theorem dX7_digit_52 : decode cX7_digit 52 = .ok (.bipush 48, 2) := by decide +kernel
theorem dX7_digit_54 : decode cX7_digit 54 = .ok (.isub, 1) := by decide +kernel
theorem dX7_digit_55 : decode cX7_digit 55 = .ok (.istore_n 3, 1) := by decide +kernel
theorem dX7_digit_56 : decode cX7_digit 56 = .ok (.aload_n 0, 1) := by decide +kernel
theorem dX7_digit_57 : decode cX7_digit 57 = .ok (.dup, 1) := by decide +kernel
theorem dX7_digit_58 : decode cX7_digit 58 = .ok (.getfield 142, 3) := by decide +kernel
theorem dX7_digit_61 : decode cX7_digit 61 = .ok (.aload_n 0, 1) := by decide +kernel
theorem dX7_digit_62 : decode cX7_digit 62 = .ok (.getfield 145, 3) := by decide +kernel
theorem dX7_digit_65 : decode cX7_digit 65 = .ok (.ifCond .eq 7, 3) := by decide +kernel
theorem dX7_digit_68 : decode cX7_digit 68 = .ok (.iconst 0, 1) := by decide +kernel
theorem dX7_digit_69 : decode cX7_digit 69 = .ok (.goto 4, 3) := by decide +kernel
theorem dX7_digit_72 : decode cX7_digit 72 = .ok (.iconst 1, 1) := by decide +kernel
theorem dX7_digit_73 : decode cX7_digit 73 = .ok (.iadd, 1) := by decide +kernel
theorem dX7_digit_74 : decode cX7_digit 74 = .ok (.putfield 142, 3) := by decide +kernel
theorem dX7_digit_77 : decode cX7_digit 77 = .ok (.iload_n 3, 1) := by decide +kernel
theorem dX7_digit_78 : decode cX7_digit 78 = .ok (.ireturn, 1) := by decide +kernel
set_option maxRecDepth 20000 in
theorem ggX7_number_X7_here : GoodIn wsX7_number wsX7_here := goodIn_r _ [11, 2, 5, 6, 15, 16, 17, 18, 19, 20, 21, 22, 23, 24, 25, 26, 27, 28, 29, 30, 31, 32, 33, 34, 35, 36, 37, 38, 39, 40, 41, 42, 43, 44, 45, 46, 47, 48, 49, 50, 51, 52, 53, 54, 55, 56] (by decide +kernel) (by decide +kernel)
set_option maxRecDepth 20000 in
theorem gX7_number_X7_here : GoodIn wsX7_number (wsV RX7 149 RX7 yX7_here wsX7_here) := goodIn_app (goodIn_of _ (by decide +kernel)) ggX7_number_X7_here
set_option maxRecDepth 20000 in
theorem ggX7_number_X7_in : GoodIn wsX7_number wsX7_in := goodIn_r _ [14] (by decide +kernel) (by decide +kernel)
set_option maxRecDepth 20000 in
theorem gX7_number_X7_in : GoodIn wsX7_number (va_wsS RX7 100 yX7_in wsX7_in) := goodIn_app (goodIn_of _ (by decide +kernel)) ggX7_number_X7_in
theorem dX7_number_0 : decode cX7_number 0 = .ok (.aload_n 0, 1) := by decide +kernel
theorem dX7_number_1 : decode cX7_number 1 = .ok (.getfield 145, 3) := by decide +kernel
theorem dX7_number_4 : decode cX7_number 4 = .ok (.ifCond .ne 24, 3) := by decide +kernel
theorem dX7_number_7 : decode cX7_number 7 = .ok (.aload_n 0, 1) := by decide +kernel
theorem dX7_number_8 : decode cX7_number 8 = .ok (.invokevirtual 149, 3) := by decide +kernel
theorem dX7_number_11 : decode cX7_number 11 = .ok (.bipush 63, 2) := by decide +kernel
theorem dX7_number_13 : decode cX7_number 13 = .ok (.if_icmp .ne 15, 3) := by decide +kernel
theorem dX7_number_16 : decode cX7_number 16 = .ok (.aload_n 0, 1) := by decide +kernel
theorem dX7_number_17 : decode cX7_number 17 = .ok (.dup, 1) := by decide +kernel
theorem dX7_number_18 : decode cX7_number 18 = .ok (.getfield 142, 3) := by decide +kernel
theorem dX7_number_21 : decode cX7_number 21 = .ok (.iconst 1, 1) := by decide +kernel
theorem dX7_number_22 : decode cX7_number 22 = .ok (.iadd, 1) := by decide +kernel
theorem dX7_number_23 : decode cX7_number 23 = .ok (.putfield 142, 3) := by decide +kernel
theorem dX7_number_26 : decode cX7_number 26 = .ok (.iconst (-1), 1) := by decide +kernel
theorem dX7_number_27 : decode cX7_number 27 = .ok (.ireturn, 1) := by decide +kernel
theorem dX7_number_28 : decode cX7_number 28 = .ok (.aload_n 0, 1) := by decide +kernel
theorem dX7_number_29 : decode cX7_number 29 = .ok (.getfield 145, 3) := by decide +kernel
theorem dX7_number_32 : decode cX7_number 32 = .ok (.ifCond .ne 20, 3) := by decide +kernel
theorem dX7_number_35 : decode cX7_number 35 = .ok (.aload_n 0, 1) := by decide +kernel
theorem dX7_number_36 : decode cX7_number 36 = .ok (.invokevirtual 149, 3) := by decide +kernel
theorem dX7_number_39 : decode cX7_number 39 = .ok (.i2l, 1) := by decide +kernel
theorem dX7_number_40 : decode cX7_number 40 = .ok (.ldc2_w 153, 3) := by decide +kernel
theorem dX7_number_43 : decode cX7_number 43 = .ok (.ldc2_w 155, 3) := by decide +kernel
theorem dX7_number_46 : decode cX7_number 46 = .ok (.invokestatic 100, 3) := by decide +kernel
theorem dX7_number_49 : decode cX7_number 49 = .ok (.ifCond .ne 10, 3) := by decide +kernel
theorem dX7_number_52 : decode cX7_number 52 = .ok (.aload_n 0, 1) := by decide +kernel
theorem dX7_number_53 : decode cX7_number 53 = .ok (.iconst 1, 1) := by decide +kernel
theorem dX7_number_54 : decode cX7_number 54 = .ok (.putfield 145, 3) := by decide +kernel
theorem dX7_number_57 : decode cX7_number 57 = .ok (.iconst 0, 1) := by decide +kernel
theorem dX7_number_58 : decode cX7_number 58 = .ok (.ireturn, 1) := by decide +kernel
theorem dX7_number_59 : decode cX7_number 59 = .ok (.aload_n 0, 1) := by decide +kernel
theorem dX7_number_60 : decode cX7_number 60 = .ok (.getfield 142, 3) := by decide +kernel
theorem dX7_number_63 : decode cX7_number 63 = .ok (.istore_n 1, 1) := by decide +kernel
theorem dX7_number_64 : decode cX7_number 64 = .ok (.iconst 0, 1) := by decide +kernel
theorem dX7_number_65 : decode cX7_number 65 = .ok (.istore_n 2, 1) := by decide +kernel
theorem dX7_number_66 : decode cX7_number 66 = .ok (.aload_n 0, 1) := by decide +kernel
theorem dX7_number_67 : decode cX7_number 67 = .ok (.getfield 142, 3) := by decide +kernel
theorem dX7_number_70 : decode cX7_number 70 = .ok (.aload_n 0, 1) := by decide +kernel
theorem dX7_number_71 : decode cX7_number 71 = .ok (.getfield 138, 3) := by decide +kernel
theorem dX7_number_74 : decode cX7_number 74 = .ok (.if_icmp .ge 67, 3) := by decide +kernel
theorem dX7_number_77 : decode cX7_number 77 = .ok (.aload_n 0, 1) := by decide +kernel
theorem dX7_number_78 : decode cX7_number 78 = .ok (.getfield 28, 3) := by decide +kernel
theorem dX7_number_81 : decode cX7_number 81 = .ok (.aload_n 0, 1) := by decide +kernel
theorem dX7_number_82 : decode cX7_number 82 = .ok (.getfield 142, 3) := by decide +kernel
theorem dX7_number_85 : decode cX7_number 85 = .ok (.iaload, 1) := by decide +kernel
theorem dX7_number_86 : decode cX7_number 86 = .ok (.i2l, 1) := by decide +kernel
theorem dX7_number_87 : decode cX7_number 87 = .ok (.ldc2_w 153, 3) := by decide +kernel
theorem dX7_number_90 : decode cX7_number 90 = .ok (.ldc2_w 155, 3) := by decide +kernel
theorem dX7_number_93 : decode cX7_number 93 = .ok (.invokestatic 100, 3) := by decide +kernel
theorem dX7_number_96 : decode cX7_number 96 = .ok (.ifCond .eq 45, 3) := by decide +kernel
theorem dX7_number_99 : decode cX7_number 99 = .ok (.iload_n 2, 1) := by decide +kernel
theorem dX7_number_100 : decode cX7_number 100 = .ok (.sipush 999, 3) := by decide +kernel
theorem dX7_number_103 : decode cX7_number 103 = .ok (.if_icmp .le 7, 3) := by decide +kernel
theorem dX7_number_106 : decode cX7_number 106 = .ok (.iload_n 2, 1) := by decide +kernel
theorem dX7_number_107 : decode cX7_number 107 = .ok (.goto 20, 3) := by decide +kernel
theorem dX7_number_110 : decode cX7_number 110 = .ok (.bipush 10, 2) := by decide +kernel
theorem dX7_number_112 : decode cX7_number 112 = .ok (.iload_n 2, 1) := by decide +kernel
theorem dX7_number_113 : decode cX7_number 113 = .ok (.imul, 1) := by decide +kernel
theorem dX7_number_114 : decode cX7_number 114 = .ok (.aload_n 0, 1) := by decide +kernel
theorem dX7_number_115 : decode cX7_number 115 = .ok (.getfield 28, 3) := by decide +kernel
theorem dX7_number_118 : decode cX7_number 118 = .ok (.aload_n 0, 1) := by decide +kernel
theorem dX7_number_119 : decode cX7_number 119 = .ok (.getfield 142, 3) := by decide +kernel
theorem dX7_number_122 : decode cX7_number 122 = .ok (.iaload, 1) := by decide +kernel
theorem dX7_number_123 : decode cX7_number 123 = .ok (.iadd, 1) := by decide +kernel
theorem dX7_number_124 : decode cX7_number 124 = .ok (.bipush 48, 2) := by decide +kernel
theorem dX7_number_126 : decode cX7_number 126 = .ok (.isub, 1) := by decide +kernel
theorem dX7_number_127 : decode cX7_number 127 = .ok (.istore_n 2, 1) := by decide +kernel
theorem dX7_number_128 : decode cX7_number 128 = .ok (.aload_n 0, 1) := by decide +kernel
theorem dX7_number_129 : decode cX7_number 129 = .ok (.dup, 1) := by decide +kernel
theorem dX7_number_130 : decode cX7_number 130 = .ok (.getfield 142, 3) := by decide +kernel
theorem dX7_number_133 : decode cX7_number 133 = .ok (.iconst 1, 1) := by decide +kernel
theorem dX7_number_134 : decode cX7_number 134 = .ok (.iadd, 1) := by decide +kernel
theorem dX7_number_135 : decode cX7_number 135 = .ok (.putfield 142, 3) := by decide +kernel
theorem dX7_number_138 : decode cX7_number 138 = .ok (.goto (-72), 3) := by decide +kernel
theorem dX7_number_141 : decode cX7_number 141 = .ok (.aload_n 0, 1) := by decide +kernel
theorem dX7_number_142 : decode cX7_number 142 = .ok (.iload_n 2, 1) := by decide +kernel
theorem dX7_number_143 : decode cX7_number 143 = .ok (.bipush 40, 2) := by decide +kernel
theorem dX7_number_145 : decode cX7_number 145 = .ok (.if_icmp .le 7, 3) := by decide +kernel
theorem dX7_number_148 : decode cX7_number 148 = .ok (.iconst 1, 1) := by decide +kernel
theorem dX7_number_149 : decode cX7_number 149 = .ok (.goto 4, 3) := by decide +kernel
theorem dX7_number_152 : decode cX7_number 152 = .ok (.iconst 0, 1) := by decide +kernel
theorem dX7_number_153 : decode cX7_number 153 = .ok (.putfield 145, 3) := by decide +kernel
theorem dX7_number_156 : decode cX7_number 156 = .ok (.aload_n 0, 1) := by decide +kernel
theorem dX7_number_157 : decode cX7_number 157 = .ok (.aload_n 0, 1) := by decide +kernel
theorem dX7_number_158 : decode cX7_number 158 = .ok (.getfield 145, 3) := by decide +kernel
theorem dX7_number_161 : decode cX7_number 161 = .ok (.ifCond .eq 7, 3) := by decide +kernel
theorem dX7_number_164 : decode cX7_number 164 = .ok (.iload_n 1, 1) := by decide +kernel
theorem dX7_number_165 : decode cX7_number 165 = .ok (.goto 7, 3) := by decide +kernel
theorem dX7_number_168 : decode cX7_number 168 = .ok (.aload_n 0, 1) := by decide +kernel
theorem dX7_number_169 : decode cX7_number 169 = .ok (.getfield 142, 3) := by decide +kernel
theorem dX7_number_172 : decode cX7_number 172 = .ok (.putfield 142, 3) := by decide +kernel
theorem dX7_number_175 : decode cX7_number 175 = .ok (.iload_n 2, 1) := by decide +kernel
theorem dX7_number_176 : decode cX7_number 176 = .ok (.ireturn, 1) := by decide +kernel
set_option maxRecDepth 20000 in
theorem ggX7_rings_X7_digit : GoodIn wsX7_rings wsX7_digit := goodIn_r _ [12, 6, 5, 13, 14, 15, 11, 16, 7, 17, 18, 19, 20, 27, 28, 29, 30, 31, 32, 33, 34, 35, 36, 37, 38, 39, 40, 41, 42, 43, 44, 45, 46, 47, 48, 49, 50, 51, 52, 53, 54, 55, 56, 57, 58, 59, 60, 61, 62, 63, 64, 65, 66, 67, 68] (by decide +kernel) (by decide +kernel)
set_option maxRecDepth 20000 in
theorem gX7_rings_X7_digit : GoodIn wsX7_rings (wsV RX7 157 RX7 yX7_digit wsX7_digit) := goodIn_app (goodIn_of _ (by decide +kernel)) ggX7_rings_X7_digit
set_option maxRecDepth 20000 in
theorem ggX7_rings_X7_here : GoodIn wsX7_rings wsX7_here := goodIn_r _ [16, 5, 7, 17, 27, 28, 29, 30, 31, 32, 33, 34, 35, 36, 37, 38, 39, 40, 41, 42, 43, 44, 45, 46, 47, 48, 49, 50, 51, 52, 53, 54, 55, 56, 57, 58, 59, 60, 61, 62, 63, 64, 65, 66, 67, 68] (by decide +kernel) (by decide +kernel)
set_option maxRecDepth 20000 in
theorem gX7_rings_X7_here : GoodIn wsX7_rings (wsV RX7 149 RX7 yX7_here wsX7_here) := goodIn_app (goodIn_of _ (by decide +kernel)) ggX7_rings_X7_here
set_option maxRecDepth 20000 in
theorem ggX7_rings_X7_number : GoodIn wsX7_rings wsX7_number := goodIn_r _ [24, 6, 5, 25, 26, 7, 17, 13, 14, 15, 11, 16, 18, 19, 20, 27, 28, 29, 30, 31, 32, 33, 34, 35, 36, 37, 38, 39, 40, 41, 42, 43, 44, 45, 46, 47, 48, 49, 50, 51, 52, 53, 54, 55, 56, 57, 58, 59, 60, 61, 62, 63, 64, 65, 66, 67, 68] (by decide +kernel) (by decide +kernel)
set_option maxRecDepth 20000 in
theorem gX7_rings_X7_number : GoodIn wsX7_rings (wsV RX7 161 RX7 yX7_number wsX7_number) := goodIn_app (goodIn_of _ (by decide +kernel)) ggX7_rings_X7_number
theorem dX7_rings_0 : decode cX7_rings 0 = .ok (.iconst 0, 1) := by decide +kernel
theorem dX7_rings_1 : decode cX7_rings 1 = .ok (.istore_n 1, 1) := by decide +kernel
theorem dX7_rings_2 : decode cX7_rings 2 = .ok (.iload_n 1, 1) := by decide +kernel
theorem dX7_rings_3 : decode cX7_rings 3 = .ok (.bipush 7, 2) := by decide +kernel
theorem dX7_rings_5 : decode cX7_rings 5 = .ok (.if_icmp .ge 33, 3) := by decide +kernel
theorem dX7_rings_8 : decode cX7_rings 8 = .ok (.aload_n 0, 1) := by decide +kernel
theorem dX7_rings_9 : decode cX7_rings 9 = .ok (.getfield 31, 3) := by decide +kernel
theorem dX7_rings_12 : decode cX7_rings 12 = .ok (.iload_n 1, 1) := by decide +kernel
theorem dX7_rings_13 : decode cX7_rings 13 = .ok (.aload_n 0, 1) := by decide +kernel
theorem dX7_rings_14 : decode cX7_rings 14 = .ok (.getfield 13, 3) := by decide +kernel
theorem dX7_rings_17 : decode cX7_rings 17 = .ok (.iload_n 1, 1) := by decide +kernel
theorem dX7_rings_18 : decode cX7_rings 18 = .ok (.iaload, 1) := by decide +kernel
theorem dX7_rings_19 : decode cX7_rings 19 = .ok (.iastore, 1) := by decide +kernel
theorem dX7_rings_20 : decode cX7_rings 20 = .ok (.aload_n 0, 1) := by decide +kernel
theorem dX7_rings_21 : decode cX7_rings 21 = .ok (.getfield 34, 3) := by decide +kernel
theorem dX7_rings_24 : decode cX7_rings 24 = .ok (.iload_n 1, 1) := by decide +kernel
theorem dX7_rings_25 : decode cX7_rings 25 = .ok (.aload_n 0, 1) := by decide +kernel
theorem dX7_rings_26 : decode cX7_rings 26 = .ok (.getfield 16, 3) := by decide +kernel
theorem dX7_rings_29 : decode cX7_rings 29 = .ok (.iload_n 1, 1) := by decide +kernel
theorem dX7_rings_30 : decode cX7_rings 30 = .ok (.iaload, 1) := by decide +kernel
theorem dX7_rings_31 : decode cX7_rings 31 = .ok (.iastore, 1) := by decide +kernel
theorem dX7_rings_32 : decode cX7_rings 32 = .ok (.iinc 1 1, 3) := by decide +kernel
theorem dX7_rings_35 : decode cX7_rings 35 = .ok (.goto (-33), 3) := by decide +kernel
theorem dX7_rings_38 : decode cX7_rings 38 = .ok (.aload_n 0, 1) := by decide +kernel
theorem dX7_rings_39 : decode cX7_rings 39 = .ok (.iconst 0, 1) := by decide +kernel
theorem dX7_rings_40 : decode cX7_rings 40 = .ok (.putfield 142, 3) := by decide +kernel
theorem dX7_rings_43 : decode cX7_rings 43 = .ok (.aload_n 0, 1) := by decide +kernel
theorem dX7_rings_44 : decode cX7_rings 44 = .ok (.iconst 0, 1) := by decide +kernel
theorem dX7_rings_45 : decode cX7_rings 45 = .ok (.putfield 145, 3) := by decide +kernel
theorem dX7_rings_48 : decode cX7_rings 48 = .ok (.iconst 0, 1) := by decide +kernel
theorem dX7_rings_49 : decode cX7_rings 49 = .ok (.istore_n 1, 1) := by decide +kernel
theorem dX7_rings_50 : decode cX7_rings 50 = .ok (.iconst 0, 1) := by decide +kernel
theorem dX7_rings_51 : decode cX7_rings 51 = .ok (.istore_n 2, 1) := by decide +kernel
theorem dX7_rings_52 : decode cX7_rings 52 = .ok (.iconst 1, 1) := by decide +kernel
theorem dX7_rings_53 : decode cX7_rings 53 = .ok (.istore_n 3, 1) := by decide +kernel
theorem dX7_rings_54 : decode cX7_rings 54 = .ok (.iload_n 3, 1) := by decide +kernel
theorem dX7_rings_55 : decode cX7_rings 55 = .ok (.ifCond .eq 197, 3) := by decide +kernel
theorem dX7_rings_58 : decode cX7_rings 58 = .ok (.aload_n 0, 1) := by decide +kernel
theorem dX7_rings_59 : decode cX7_rings 59 = .ok (.iload_n 2, 1) := by decide +kernel
theorem dX7_rings_60 : decode cX7_rings 60 = .ok (.iconst 1, 1) := by decide +kernel
theorem dX7_rings_61 : decode cX7_rings 61 = .ok (.iadd, 1) := by decide +kernel
theorem dX7_rings_62 : decode cX7_rings 62 = .ok (.bipush 6, 2) := by decide +kernel
theorem dX7_rings_64 : decode cX7_rings 64 = .ok (.invokevirtual 157, 3) := by decide +kernel
theorem dX7_rings_67 : decode cX7_rings 67 = .ok (.istore 4, 2) := by decide +kernel
theorem dX7_rings_69 : decode cX7_rings 69 = .ok (.iload 4, 2) := by decide +kernel
theorem dX7_rings_71 : decode cX7_rings 71 = .ok (.istore_n 2, 1) := by decide +kernel
theorem dX7_rings_72 : decode cX7_rings 72 = .ok (.aload_n 0, 1) := by decide +kernel
theorem dX7_rings_73 : decode cX7_rings 73 = .ok (.aload_n 0, 1) := by decide +kernel
theorem dX7_rings_74 : decode cX7_rings 74 = .ok (.getfield 145, 3) := by decide +kernel
theorem dX7_rings_77 : decode cX7_rings 77 = .ok (.ifCond .ne 12, 3) := by decide +kernel
theorem dX7_rings_80 : decode cX7_rings 80 = .ok (.aload_n 0, 1) := by decide +kernel
theorem dX7_rings_81 : decode cX7_rings 81 = .ok (.invokevirtual 149, 3) := by decide +kernel
theorem dX7_rings_84 : decode cX7_rings 84 = .ok (.bipush 58, 2) := by decide +kernel
theorem dX7_rings_86 : decode cX7_rings 86 = .ok (.if_icmp .eq 7, 3) := by decide +kernel
theorem dX7_rings_89 : decode cX7_rings 89 = .ok (.iconst 1, 1) := by decide +kernel
theorem dX7_rings_90 : decode cX7_rings 90 = .ok (.goto 4, 3) := by decide +kernel
theorem dX7_rings_93 : decode cX7_rings 93 = .ok (.iconst 0, 1) := by decide +kernel
theorem dX7_rings_94 : decode cX7_rings 94 = .ok (.putfield 145, 3) := by decide +kernel
theorem dX7_rings_97 : decode cX7_rings 97 = .ok (.aload_n 0, 1) := by decide +kernel
theorem dX7_rings_98 : decode cX7_rings 98 = .ok (.dup, 1) := by decide +kernel
theorem dX7_rings_99 : decode cX7_rings 99 = .ok (.getfield 142, 3) := by decide +kernel
theorem dX7_rings_102 : decode cX7_rings 102 = .ok (.aload_n 0, 1) := by decide +kernel
theorem dX7_rings_103 : decode cX7_rings 103 = .ok (.getfield 145, 3) := by decide +kernel
theorem dX7_rings_106 : decode cX7_rings 106 = .ok (.ifCond .eq 7, 3) := by decide +kernel
theorem dX7_rings_109 : decode cX7_rings 109 = .ok (.iconst 0, 1) := by decide +kernel
theorem dX7_rings_110 : decode cX7_rings 110 = .ok (.goto 4, 3) := by decide +kernel
theorem dX7_rings_113 : decode cX7_rings 113 = .ok (.iconst 1, 1) := by decide +kernel
theorem dX7_rings_114 : decode cX7_rings 114 = .ok (.iadd, 1) := by decide +kernel
theorem dX7_rings_115 : decode cX7_rings 115 = .ok (.putfield 142, 3) := by decide +kernel
theorem dX7_rings_118 : decode cX7_rings 118 = .ok (.aload_n 0, 1) := by decide +kernel
theorem dX7_rings_119 : decode cX7_rings 119 = .ok (.getfield 31, 3) := by decide +kernel
theorem dX7_rings_122 : decode cX7_rings 122 = .ok (.iload 4, 2) := by decide +kernel
theorem dX7_rings_124 : decode cX7_rings 124 = .ok (.aload_n 0, 1) := by decide +kernel
theorem dX7_rings_125 : decode cX7_rings 125 = .ok (.invokevirtual 161, 3) := by decide +kernel
theorem dX7_rings_128 : decode cX7_rings 128 = .ok (.iastore, 1) := by decide +kernel
theorem dX7_rings_129 : decode cX7_rings 129 = .ok (.aload_n 0, 1) := by decide +kernel
theorem dX7_rings_130 : decode cX7_rings 130 = .ok (.getfield 145, 3) := by decide +kernel
theorem dX7_rings_133 : decode cX7_rings 133 = .ok (.ifCond .eq 7, 3) := by decide +kernel
theorem dX7_rings_136 : decode cX7_rings 136 = .ok (.iconst 0, 1) := by decide +kernel
theorem dX7_rings_137 : decode cX7_rings 137 = .ok (.goto 7, 3) := by decide +kernel
theorem dX7_rings_140 : decode cX7_rings 140 = .ok (.aload_n 0, 1) := by decide +kernel
theorem dX7_rings_141 : decode cX7_rings 141 = .ok (.invokevirtual 149, 3) := by decide +kernel
theorem dX7_rings_144 : decode cX7_rings 144 = .ok (.istore 5, 2) := by decide +kernel
theorem dX7_rings_146 : decode cX7_rings 146 = .ok (.aload_n 0, 1) := by decide +kernel
theorem dX7_rings_147 : decode cX7_rings 147 = .ok (.getfield 34, 3) := by decide +kernel
theorem dX7_rings_150 : decode cX7_rings 150 = .ok (.iload 4, 2) := by decide +kernel
theorem dX7_rings_152 : decode cX7_rings 152 = .ok (.iload 5, 2) := by decide +kernel
theorem dX7_rings_154 : decode cX7_rings 154 = .ok (.bipush 43, 2) := by decide +kernel
theorem dX7_rings_156 : decode cX7_rings 156 = .ok (.if_icmp .ne 7, 3) := by decide +kernel
theorem dX7_rings_159 : decode cX7_rings 159 = .ok (.iconst 2, 1) := by decide +kernel
theorem dX7_rings_160 : decode cX7_rings 160 = .ok (.goto 15, 3) := by decide +kernel
theorem dX7_rings_163 : decode cX7_rings 163 = .ok (.iload 5, 2) := by decide +kernel
theorem dX7_rings_165 : decode cX7_rings 165 = .ok (.bipush 45, 2) := by decide +kernel
theorem dX7_rings_167 : decode cX7_rings 167 = .ok (.if_icmp .ne 7, 3) := by decide +kernel
theorem dX7_rings_170 : decode cX7_rings 170 = .ok (.iconst 1, 1) := by decide +kernel
theorem dX7_rings_171 : decode cX7_rings 171 = .ok (.goto 4, 3) := by decide +kernel
theorem dX7_rings_174 : decode cX7_rings 174 = .ok (.iconst 0, 1) := by decide +kernel
theorem dX7_rings_175 : decode cX7_rings 175 = .ok (.iastore, 1) := by decide +kernel
theorem dX7_rings_176 : decode cX7_rings 176 = .ok (.aload_n 0, 1) := by decide +kernel
theorem dX7_rings_177 : decode cX7_rings 177 = .ok (.dup, 1) := by decide +kernel
theorem dX7_rings_178 : decode cX7_rings 178 = .ok (.getfield 142, 3) := by decide +kernel
theorem dX7_rings_181 : decode cX7_rings 181 = .ok (.aload_n 0, 1) := by decide +kernel
theorem dX7_rings_182 : decode cX7_rings 182 = .ok (.getfield 34, 3) := by decide +kernel
theorem dX7_rings_185 : decode cX7_rings 185 = .ok (.iload 4, 2) := by decide +kernel
theorem dX7_rings_187 : decode cX7_rings 187 = .ok (.iaload, 1) := by decide +kernel
theorem dX7_rings_188 : decode cX7_rings 188 = .ok (.ifCond .le 7, 3) := by decide +kernel
theorem dX7_rings_191 : decode cX7_rings 191 = .ok (.iconst 1, 1) := by decide +kernel
theorem dX7_rings_192 : decode cX7_rings 192 = .ok (.goto 4, 3) := by decide +kernel
theorem dX7_rings_195 : decode cX7_rings 195 = .ok (.iconst 0, 1) := by decide +kernel
theorem dX7_rings_196 : decode cX7_rings 196 = .ok (.iadd, 1) := by decide +kernel
theorem dX7_rings_197 : decode cX7_rings 197 = .ok (.putfield 142, 3) := by decide +kernel
theorem dX7_rings_200 : decode cX7_rings 200 = .ok (.iinc 1 1, 3) := by decide +kernel
theorem dX7_rings_203 : decode cX7_rings 203 = .ok (.aload_n 0, 1) := by decide +kernel
theorem dX7_rings_204 : decode cX7_rings 204 = .ok (.getfield 145, 3) := by decide +kernel
theorem dX7_rings_207 : decode cX7_rings 207 = .ok (.ifCond .ne 22, 3) := by decide +kernel
theorem dX7_rings_210 : decode cX7_rings 210 = .ok (.iload_n 1, 1) := by decide +kernel
theorem dX7_rings_211 : decode cX7_rings 211 = .ok (.bipush 6, 2) := by decide +kernel
theorem dX7_rings_213 : decode cX7_rings 213 = .ok (.if_icmp .ge 16, 3) := by decide +kernel
theorem dX7_rings_216 : decode cX7_rings 216 = .ok (.aload_n 0, 1) := by decide +kernel
theorem dX7_rings_217 : decode cX7_rings 217 = .ok (.invokevirtual 149, 3) := by decide +kernel
theorem dX7_rings_220 : decode cX7_rings 220 = .ok (.bipush 59, 2) := by decide +kernel
theorem dX7_rings_222 : decode cX7_rings 222 = .ok (.if_icmp .ne 7, 3) := by decide +kernel
theorem dX7_rings_225 : decode cX7_rings 225 = .ok (.iconst 1, 1) := by decide +kernel
theorem dX7_rings_226 : decode cX7_rings 226 = .ok (.goto 4, 3) := by decide +kernel
theorem dX7_rings_229 : decode cX7_rings 229 = .ok (.iconst 0, 1) := by decide +kernel
theorem dX7_rings_230 : decode cX7_rings 230 = .ok (.istore_n 3, 1) := by decide +kernel
theorem dX7_rings_231 : decode cX7_rings 231 = .ok (.aload_n 0, 1) := by decide +kernel
theorem dX7_rings_232 : decode cX7_rings 232 = .ok (.dup, 1) := by decide +kernel
theorem dX7_rings_233 : decode cX7_rings 233 = .ok (.getfield 142, 3) := by decide +kernel
theorem dX7_rings_236 : decode cX7_rings 236 = .ok (.iload_n 3, 1) := by decide +kernel
theorem dX7_rings_237 : decode cX7_rings 237 = .ok (.ifCond .eq 7, 3) := by decide +kernel
theorem dX7_rings_240 : decode cX7_rings 240 = .ok (.iconst 1, 1) := by decide +kernel
theorem dX7_rings_241 : decode cX7_rings 241 = .ok (.goto 4, 3) := by decide +kernel
theorem dX7_rings_244 : decode cX7_rings 244 = .ok (.iconst 0, 1) := by decide +kernel
theorem dX7_rings_245 : decode cX7_rings 245 = .ok (.iadd, 1) := by decide +kernel
theorem dX7_rings_246 : decode cX7_rings 246 = .ok (.putfield 142, 3) := by decide +kernel
theorem dX7_rings_249 : decode cX7_rings 249 = .ok (.goto (-195), 3) := by decide +kernel
theorem dX7_rings_252 : decode cX7_rings 252 = .ok (.aload_n 0, 1) := by decide +kernel
theorem dX7_rings_253 : decode cX7_rings 253 = .ok (.aload_n 0, 1) := by decide +kernel
theorem dX7_rings_254 : decode cX7_rings 254 = .ok (.getfield 145, 3) := by decide +kernel
theorem dX7_rings_257 : decode cX7_rings 257 = .ok (.ifCond .ne 10, 3) := by decide +kernel
theorem dX7_rings_260 : decode cX7_rings 260 = .ok (.aload_n 0, 1) := by decide +kernel
theorem dX7_rings_261 : decode cX7_rings 261 = .ok (.invokevirtual 149, 3) := by decide +kernel
theorem dX7_rings_264 : decode cX7_rings 264 = .ok (.ifCond .eq 7, 3) := by decide +kernel
theorem dX7_rings_267 : decode cX7_rings 267 = .ok (.iconst 1, 1) := by decide +kernel
theorem dX7_rings_268 : decode cX7_rings 268 = .ok (.goto 4, 3) := by decide +kernel
theorem dX7_rings_271 : decode cX7_rings 271 = .ok (.iconst 0, 1) := by decide +kernel
theorem dX7_rings_272 : decode cX7_rings 272 = .ok (.putfield 145, 3) := by decide +kernel
theorem dX7_rings_275 : decode cX7_rings 275 = .ok (.aload_n 0, 1) := by decide +kernel
theorem dX7_rings_276 : decode cX7_rings 276 = .ok (.iconst 0, 1) := by decide +kernel
theorem dX7_rings_277 : decode cX7_rings 277 = .ok (.putfield 138, 3) := by decide +kernel
theorem dX7_rings_280 : decode cX7_rings 280 = .ok (.aload_n 0, 1) := by decide +kernel
theorem dX7_rings_281 : decode cX7_rings 281 = .ok (.getfield 145, 3) := by decide +kernel
theorem dX7_rings_284 : decode cX7_rings 284 = .ok (.ifCond .eq 11, 3) := by decide +kernel
theorem dX7_rings_287 : decode cX7_rings 287 = .ok (.bipush (-20), 2) := by decide +kernel
theorem dX7_rings_289 : decode cX7_rings 289 = .ok (.aload_n 0, 1) := by decide +kernel
theorem dX7_rings_290 : decode cX7_rings 290 = .ok (.getfield 142, 3) := by decide +kernel
theorem dX7_rings_293 : decode cX7_rings 293 = .ok (.isub, 1) := by decide +kernel
theorem dX7_rings_294 : decode cX7_rings 294 = .ok (.ireturn, 1) := by decide +kernel
theorem dX7_rings_295 : decode cX7_rings 295 = .ok (.iconst 1, 1) := by decide +kernel
theorem dX7_rings_296 : decode cX7_rings 296 = .ok (.istore 4, 2) := by decide +kernel
theorem dX7_rings_298 : decode cX7_rings 298 = .ok (.iload 4, 2) := by decide +kernel
theorem dX7_rings_300 : decode cX7_rings 300 = .ok (.bipush 7, 2) := by decide +kernel
theorem dX7_rings_302 : decode cX7_rings 302 = .ok (.if_icmp .ge 37, 3) := by decide +kernel
theorem dX7_rings_305 : decode cX7_rings 305 = .ok (.aload_n 0, 1) := by decide +kernel
theorem dX7_rings_306 : decode cX7_rings 306 = .ok (.getfield 13, 3) := by decide +kernel
theorem dX7_rings_309 : decode cX7_rings 309 = .ok (.iload 4, 2) := by decide +kernel
theorem dX7_rings_311 : decode cX7_rings 311 = .ok (.aload_n 0, 1) := by decide +kernel
theorem dX7_rings_312 : decode cX7_rings 312 = .ok (.getfield 31, 3) := by decide +kernel
theorem dX7_rings_315 : decode cX7_rings 315 = .ok (.iload 4, 2) := by decide +kernel
theorem dX7_rings_317 : decode cX7_rings 317 = .ok (.iaload, 1) := by decide +kernel
theorem dX7_rings_318 : decode cX7_rings 318 = .ok (.iastore, 1) := by decide +kernel
theorem dX7_rings_319 : decode cX7_rings 319 = .ok (.aload_n 0, 1) := by decide +kernel
theorem dX7_rings_320 : decode cX7_rings 320 = .ok (.getfield 16, 3) := by decide +kernel
theorem dX7_rings_323 : decode cX7_rings 323 = .ok (.iload 4, 2) := by decide +kernel
theorem dX7_rings_325 : decode cX7_rings 325 = .ok (.aload_n 0, 1) := by decide +kernel
theorem dX7_rings_326 : decode cX7_rings 326 = .ok (.getfield 34, 3) := by decide +kernel
theorem dX7_rings_329 : decode cX7_rings 329 = .ok (.iload 4, 2) := by decide +kernel
theorem dX7_rings_331 : decode cX7_rings 331 = .ok (.iaload, 1) := by decide +kernel
theorem dX7_rings_332 : decode cX7_rings 332 = .ok (.iastore, 1) := by decide +kernel
theorem dX7_rings_333 : decode cX7_rings 333 = .ok (.iinc 4 1, 3) := by decide +kernel
theorem dX7_rings_336 : decode cX7_rings 336 = .ok (.goto (-38), 3) := by decide +kernel
theorem dX7_rings_339 : decode cX7_rings 339 = .ok (.iload_n 1, 1) := by decide +kernel
theorem dX7_rings_340 : decode cX7_rings 340 = .ok (.ireturn, 1) := by decide +kernel
set_option maxRecDepth 20000 in
theorem ggX7_sea_X7_in : GoodIn wsX7_sea wsX7_in := goodIn_r _ [10] (by decide +kernel) (by decide +kernel)
set_option maxRecDepth 20000 in
theorem gX7_sea_X7_in : GoodIn wsX7_sea (va_wsS RX7 100 yX7_in wsX7_in) := goodIn_app (goodIn_of _ (by decide +kernel)) ggX7_sea_X7_in
set_option maxRecDepth 20000 in
theorem ggX7_sea_X7_digit : GoodIn wsX7_sea wsX7_digit := goodIn_r _ [14, 3, 2, 15, 16, 17, 9, 18, 5, 19, 7, 8, 10, 20, 21, 22, 23, 24, 25, 26, 27, 28, 29, 30, 31, 32, 33, 34, 35, 36, 37, 38, 39, 40, 41, 42, 43, 44, 45, 46, 47, 48, 49, 50, 51, 52, 53, 54, 55, 56, 57, 58, 59, 60, 61] (by decide +kernel) (by decide +kernel)
set_option maxRecDepth 20000 in
theorem gX7_sea_X7_digit : GoodIn wsX7_sea (wsV RX7 157 RX7 yX7_digit wsX7_digit) := goodIn_app (goodIn_of _ (by decide +kernel)) ggX7_sea_X7_digit
set_option maxRecDepth 20000 in
theorem ggX7_sea_X7_here : GoodIn wsX7_sea wsX7_here := goodIn_r _ [18, 2, 5, 19, 20, 21, 22, 23, 24, 25, 26, 27, 28, 29, 30, 31, 32, 33, 34, 35, 36, 37, 38, 39, 40, 41, 42, 43, 44, 45, 46, 47, 48, 49, 50, 51, 52, 53, 54, 55, 56, 57, 58, 59, 60, 61] (by decide +kernel) (by decide +kernel)
set_option maxRecDepth 20000 in
theorem gX7_sea_X7_here : GoodIn wsX7_sea (wsV RX7 149 RX7 yX7_here wsX7_here) := goodIn_app (goodIn_of _ (by decide +kernel)) ggX7_sea_X7_here
theorem dX7_sea_0 : decode cX7_sea 0 = .ok (.iload_n 1, 1) := by decide +kernel
theorem dX7_sea_1 : decode cX7_sea 1 = .ok (.i2l, 1) := by decide +kernel
theorem dX7_sea_2 : decode cX7_sea 2 = .ok (.lconst 0, 1) := by decide +kernel
theorem dX7_sea_3 : decode cX7_sea 3 = .ok (.lconst 1, 1) := by decide +kernel
theorem dX7_sea_4 : decode cX7_sea 4 = .ok (.invokestatic 100, 3) := by decide +kernel
theorem dX7_sea_7 : decode cX7_sea 7 = .ok (.ifCond .eq 15, 3) := by decide +kernel
theorem dX7_sea_10 : decode cX7_sea 10 = .ok (.iload_n 2, 1) := by decide +kernel
theorem dX7_sea_11 : decode cX7_sea 11 = .ok (.i2l, 1) := by decide +kernel
theorem dX7_sea_12 : decode cX7_sea 12 = .ok (.lconst 0, 1) := by decide +kernel
theorem dX7_sea_13 : decode cX7_sea 13 = .ok (.ldc2_w 111, 3) := by decide +kernel
theorem dX7_sea_16 : decode cX7_sea 16 = .ok (.invokestatic 100, 3) := by decide +kernel
theorem dX7_sea_19 : decode cX7_sea 19 = .ok (.ifCond .ne 5, 3) := by decide +kernel
theorem dX7_sea_22 : decode cX7_sea 22 = .ok (.iconst (-1), 1) := by decide +kernel
theorem dX7_sea_23 : decode cX7_sea 23 = .ok (.ireturn, 1) := by decide +kernel
theorem dX7_sea_24 : decode cX7_sea 24 = .ok (.aload_n 0, 1) := by decide +kernel
theorem dX7_sea_25 : decode cX7_sea 25 = .ok (.iconst 0, 1) := by decide +kernel
theorem dX7_sea_26 : decode cX7_sea 26 = .ok (.putfield 142, 3) := by decide +kernel
theorem dX7_sea_29 : decode cX7_sea 29 = .ok (.aload_n 0, 1) := by decide +kernel
theorem dX7_sea_30 : decode cX7_sea 30 = .ok (.iconst 0, 1) := by decide +kernel
theorem dX7_sea_31 : decode cX7_sea 31 = .ok (.putfield 145, 3) := by decide +kernel
theorem dX7_sea_34 : decode cX7_sea 34 = .ok (.iconst 0, 1) := by decide +kernel
theorem dX7_sea_35 : decode cX7_sea 35 = .ok (.istore_n 3, 1) := by decide +kernel
theorem dX7_sea_36 : decode cX7_sea 36 = .ok (.iconst 0, 1) := by decide +kernel
theorem dX7_sea_37 : decode cX7_sea 37 = .ok (.istore 4, 2) := by decide +kernel
theorem dX7_sea_39 : decode cX7_sea 39 = .ok (.iload 4, 2) := by decide +kernel
theorem dX7_sea_41 : decode cX7_sea 41 = .ok (.bipush 10, 2) := by decide +kernel
theorem dX7_sea_43 : decode cX7_sea 43 = .ok (.if_icmp .ge 43, 3) := by decide +kernel
theorem dX7_sea_46 : decode cX7_sea 46 = .ok (.aload_n 0, 1) := by decide +kernel
theorem dX7_sea_47 : decode cX7_sea 47 = .ok (.getfield 37, 3) := by decide +kernel
theorem dX7_sea_50 : decode cX7_sea 50 = .ok (.iload 4, 2) := by decide +kernel
theorem dX7_sea_52 : decode cX7_sea 52 = .ok (.aload_n 0, 1) := by decide +kernel
theorem dX7_sea_53 : decode cX7_sea 53 = .ok (.iconst 0, 1) := by decide +kernel
theorem dX7_sea_54 : decode cX7_sea 54 = .ok (.bipush 8, 2) := by decide +kernel
theorem dX7_sea_56 : decode cX7_sea 56 = .ok (.invokevirtual 157, 3) := by decide +kernel
theorem dX7_sea_59 : decode cX7_sea 59 = .ok (.iastore, 1) := by decide +kernel
theorem dX7_sea_60 : decode cX7_sea 60 = .ok (.iload_n 3, 1) := by decide +kernel
theorem dX7_sea_61 : decode cX7_sea 61 = .ok (.aload_n 0, 1) := by decide +kernel
theorem dX7_sea_62 : decode cX7_sea 62 = .ok (.getfield 37, 3) := by decide +kernel
theorem dX7_sea_65 : decode cX7_sea 65 = .ok (.iload 4, 2) := by decide +kernel
theorem dX7_sea_67 : decode cX7_sea 67 = .ok (.iaload, 1) := by decide +kernel
theorem dX7_sea_68 : decode cX7_sea 68 = .ok (.bipush 8, 2) := by decide +kernel
theorem dX7_sea_70 : decode cX7_sea 70 = .ok (.if_icmp .ge 7, 3) := by decide +kernel
theorem dX7_sea_73 : decode cX7_sea 73 = .ok (.iconst 1, 1) := by decide +kernel
theorem dX7_sea_74 : decode cX7_sea 74 = .ok (.goto 4, 3) := by decide +kernel
theorem dX7_sea_77 : decode cX7_sea 77 = .ok (.iconst 0, 1) := by decide +kernel
theorem dX7_sea_78 : decode cX7_sea 78 = .ok (.iadd, 1) := by decide +kernel
theorem dX7_sea_79 : decode cX7_sea 79 = .ok (.istore_n 3, 1) := by decide +kernel
theorem dX7_sea_80 : decode cX7_sea 80 = .ok (.iinc 4 1, 3) := by decide +kernel
theorem dX7_sea_83 : decode cX7_sea 83 = .ok (.goto (-44), 3) := by decide +kernel
theorem dX7_sea_86 : decode cX7_sea 86 = .ok (.aload_n 0, 1) := by decide +kernel
theorem dX7_sea_87 : decode cX7_sea 87 = .ok (.aload_n 0, 1) := by decide +kernel
theorem dX7_sea_88 : decode cX7_sea 88 = .ok (.getfield 145, 3) := by decide +kernel
theorem dX7_sea_91 : decode cX7_sea 91 = .ok (.ifCond .ne 10, 3) := by decide +kernel
theorem dX7_sea_94 : decode cX7_sea 94 = .ok (.aload_n 0, 1) := by decide +kernel
theorem dX7_sea_95 : decode cX7_sea 95 = .ok (.invokevirtual 149, 3) := by decide +kernel
theorem dX7_sea_98 : decode cX7_sea 98 = .ok (.ifCond .eq 7, 3) := by decide +kernel
theorem dX7_sea_101 : decode cX7_sea 101 = .ok (.iconst 1, 1) := by decide +kernel
theorem dX7_sea_102 : decode cX7_sea 102 = .ok (.goto 4, 3) := by decide +kernel
theorem dX7_sea_105 : decode cX7_sea 105 = .ok (.iconst 0, 1) := by decide +kernel
theorem dX7_sea_106 : decode cX7_sea 106 = .ok (.putfield 145, 3) := by decide +kernel
theorem dX7_sea_109 : decode cX7_sea 109 = .ok (.aload_n 0, 1) := by decide +kernel
theorem dX7_sea_110 : decode cX7_sea 110 = .ok (.iconst 0, 1) := by decide +kernel
theorem dX7_sea_111 : decode cX7_sea 111 = .ok (.putfield 138, 3) := by decide +kernel
theorem dX7_sea_114 : decode cX7_sea 114 = .ok (.aload_n 0, 1) := by decide +kernel
theorem dX7_sea_115 : decode cX7_sea 115 = .ok (.getfield 145, 3) := by decide +kernel
theorem dX7_sea_118 : decode cX7_sea 118 = .ok (.ifCond .eq 11, 3) := by decide +kernel
theorem dX7_sea_121 : decode cX7_sea 121 = .ok (.bipush (-20), 2) := by decide +kernel
theorem dX7_sea_123 : decode cX7_sea 123 = .ok (.aload_n 0, 1) := by decide +kernel
theorem dX7_sea_124 : decode cX7_sea 124 = .ok (.getfield 142, 3) := by decide +kernel
theorem dX7_sea_127 : decode cX7_sea 127 = .ok (.isub, 1) := by decide +kernel
theorem dX7_sea_128 : decode cX7_sea 128 = .ok (.ireturn, 1) := by decide +kernel
theorem dX7_sea_129 : decode cX7_sea 129 = .ok (.iconst 0, 1) := by decide +kernel
theorem dX7_sea_130 : decode cX7_sea 130 = .ok (.istore 4, 2) := by decide +kernel
theorem dX7_sea_132 : decode cX7_sea 132 = .ok (.iload 4, 2) := by decide +kernel
theorem dX7_sea_134 : decode cX7_sea 134 = .ok (.bipush 10, 2) := by decide +kernel
theorem dX7_sea_136 : decode cX7_sea 136 = .ok (.if_icmp .ge 33, 3) := by decide +kernel
theorem dX7_sea_139 : decode cX7_sea 139 = .ok (.aload_n 0, 1) := by decide +kernel
theorem dX7_sea_140 : decode cX7_sea 140 = .ok (.getfield 19, 3) := by decide +kernel
theorem dX7_sea_143 : decode cX7_sea 143 = .ok (.bipush 100, 2) := by decide +kernel
theorem dX7_sea_145 : decode cX7_sea 145 = .ok (.iload_n 1, 1) := by decide +kernel
theorem dX7_sea_146 : decode cX7_sea 146 = .ok (.imul, 1) := by decide +kernel
theorem dX7_sea_147 : decode cX7_sea 147 = .ok (.bipush 10, 2) := by decide +kernel
theorem dX7_sea_149 : decode cX7_sea 149 = .ok (.iload_n 2, 1) := by decide +kernel
theorem dX7_sea_150 : decode cX7_sea 150 = .ok (.imul, 1) := by decide +kernel
theorem dX7_sea_151 : decode cX7_sea 151 = .ok (.iadd, 1) := by decide +kernel
theorem dX7_sea_152 : decode cX7_sea 152 = .ok (.iload 4, 2) := by decide +kernel
theorem dX7_sea_154 : decode cX7_sea 154 = .ok (.iadd, 1) := by decide +kernel
theorem dX7_sea_155 : decode cX7_sea 155 = .ok (.aload_n 0, 1) := by decide +kernel
theorem dX7_sea_156 : decode cX7_sea 156 = .ok (.getfield 37, 3) := by decide +kernel
theorem dX7_sea_159 : decode cX7_sea 159 = .ok (.iload 4, 2) := by decide +kernel
theorem dX7_sea_161 : decode cX7_sea 161 = .ok (.iaload, 1) := by decide +kernel
theorem dX7_sea_162 : decode cX7_sea 162 = .ok (.iastore, 1) := by decide +kernel
theorem dX7_sea_163 : decode cX7_sea 163 = .ok (.iinc 4 1, 3) := by decide +kernel
theorem dX7_sea_166 : decode cX7_sea 166 = .ok (.goto (-34), 3) := by decide +kernel
theorem dX7_sea_169 : decode cX7_sea 169 = .ok (.iload_n 3, 1) := by decide +kernel
theorem dX7_sea_170 : decode cX7_sea 170 = .ok (.ireturn, 1) := by decide +kernel
theorem dX7_begins_0 : decode cX7_begins 0 = .ok (.aload_n 0, 1) := by decide +kernel
theorem dX7_begins_1 : decode cX7_begins 1 = .ok (.iconst 0, 1) := by decide +kernel
theorem dX7_begins_2 : decode cX7_begins 2 = .ok (.putfield 164, 3) := by decide +kernel
theorem dX7_begins_5 : decode cX7_begins 5 = .ok (.aload_n 0, 1) := by decide +kernel
theorem dX7_begins_6 : decode cX7_begins 6 = .ok (.getfield 40, 3) := by decide +kernel
theorem dX7_begins_9 : decode cX7_begins 9 = .ok (.iconst 0, 1) := by decide +kernel
theorem dX7_begins_10 : decode cX7_begins 10 = .ok (.iconst (-1), 1) := by decide +kernel
theorem dX7_begins_11 : decode cX7_begins 11 = .ok (.iastore, 1) := by decide +kernel
theorem dX7_begins_12 : decode cX7_begins 12 = .ok (.aload_n 0, 1) := by decide +kernel
theorem dX7_begins_13 : decode cX7_begins 13 = .ok (.getfield 43, 3) := by decide +kernel
theorem dX7_begins_16 : decode cX7_begins 16 = .ok (.iconst 0, 1) := by decide +kernel
theorem dX7_begins_17 : decode cX7_begins 17 = .ok (.aload_n 0, 1) := by decide +kernel
theorem dX7_begins_18 : decode cX7_begins 18 = .ok (.getfield 7, 3) := by decide +kernel
theorem dX7_begins_21 : decode cX7_begins 21 = .ok (.iconst 1, 1) := by decide +kernel
theorem dX7_begins_22 : decode cX7_begins 22 = .ok (.iaload, 1) := by decide +kernel
theorem dX7_begins_23 : decode cX7_begins 23 = .ok (.iastore, 1) := by decide +kernel
theorem dX7_begins_24 : decode cX7_begins 24 = .ok (.aload_n 0, 1) := by decide +kernel
theorem dX7_begins_25 : decode cX7_begins 25 = .ok (.getfield 52, 3) := by decide +kernel
theorem dX7_begins_28 : decode cX7_begins 28 = .ok (.iconst 0, 1) := by decide +kernel
theorem dX7_begins_29 : decode cX7_begins 29 = .ok (.iconst 0, 1) := by decide +kernel
theorem dX7_begins_30 : decode cX7_begins 30 = .ok (.iastore, 1) := by decide +kernel
theorem dX7_begins_31 : decode cX7_begins 31 = .ok (.aload_n 0, 1) := by decide +kernel
theorem dX7_begins_32 : decode cX7_begins 32 = .ok (.getfield 55, 3) := by decide +kernel
theorem dX7_begins_35 : decode cX7_begins 35 = .ok (.iconst 0, 1) := by decide +kernel
theorem dX7_begins_36 : decode cX7_begins 36 = .ok (.iconst 0, 1) := by decide +kernel
theorem dX7_begins_37 : decode cX7_begins 37 = .ok (.iastore, 1) := by decide +kernel
theorem dX7_begins_38 : decode cX7_begins 38 = .ok (.aload_n 0, 1) := by decide +kernel
theorem dX7_begins_39 : decode cX7_begins 39 = .ok (.getfield 58, 3) := by decide +kernel
theorem dX7_begins_42 : decode cX7_begins 42 = .ok (.iconst 0, 1) := by decide +kernel
theorem dX7_begins_43 : decode cX7_begins 43 = .ok (.iconst 0, 1) := by decide +kernel
theorem dX7_begins_44 : decode cX7_begins 44 = .ok (.iastore, 1) := by decide +kernel
theorem dX7_begins_45 : decode cX7_begins 45 = .ok (.aload_n 0, 1) := by decide +kernel
theorem dX7_begins_46 : decode cX7_begins 46 = .ok (.getfield 61, 3) := by decide +kernel
theorem dX7_begins_49 : decode cX7_begins 49 = .ok (.iconst 0, 1) := by decide +kernel
theorem dX7_begins_50 : decode cX7_begins 50 = .ok (.iconst 1, 1) := by decide +kernel
theorem dX7_begins_51 : decode cX7_begins 51 = .ok (.iastore, 1) := by decide +kernel
theorem dX7_begins_52 : decode cX7_begins 52 = .ok (.return_, 1) := by decide +kernel
set_option maxRecDepth 20000 in
theorem ggX7_ringed_X7_away : GoodIn wsX7_ringed wsX7_away := goodIn_r _ [10, 11, 12, 13, 14, 15, 16, 17, 18, 19, 20, 21, 22, 23, 24, 25, 26, 27, 28, 29, 30, 31, 32, 33, 34, 35, 36, 37, 38, 39, 40, 41, 42, 43, 44, 45, 46, 47, 48, 49, 50, 51, 52, 53] (by decide +kernel) (by decide +kernel)
set_option maxRecDepth 20000 in
theorem gX7_ringed_X7_away : GoodIn wsX7_ringed (wsV RX7 119 RX7 yX7_away wsX7_away) := goodIn_app (goodIn_of _ (by decide +kernel)) ggX7_ringed_X7_away
theorem dX7_ringed_0 : decode cX7_ringed 0 = .ok (.aload_n 0, 1) := by decide +kernel
theorem dX7_ringed_1 : decode cX7_ringed 1 = .ok (.getfield 167, 3) := by decide +kernel
theorem dX7_ringed_4 : decode cX7_ringed 4 = .ok (.iload_n 1, 1) := by decide +kernel
theorem dX7_ringed_5 : decode cX7_ringed 5 = .ok (.ishr, 1) := by decide +kernel
theorem dX7_ringed_6 : decode cX7_ringed 6 = .ok (.iconst 1, 1) := by decide +kernel
theorem dX7_ringed_7 : decode cX7_ringed 7 = .ok (.iand, 1) := by decide +kernel
theorem dX7_ringed_8 : decode cX7_ringed 8 = .ok (.iconst 1, 1) := by decide +kernel
theorem dX7_ringed_9 : decode cX7_ringed 9 = .ok (.if_icmp .ne 5, 3) := by decide +kernel
theorem dX7_ringed_12 : decode cX7_ringed 12 = .ok (.iconst 1, 1) := by decide +kernel
theorem dX7_ringed_13 : decode cX7_ringed 13 = .ok (.ireturn, 1) := by decide +kernel
theorem dX7_ringed_14 : decode cX7_ringed 14 = .ok (.aload_n 0, 1) := by decide +kernel
theorem dX7_ringed_15 : decode cX7_ringed 15 = .ok (.aload_n 0, 1) := by decide +kernel
theorem dX7_ringed_16 : decode cX7_ringed 16 = .ok (.getfield 43, 3) := by decide +kernel
theorem dX7_ringed_19 : decode cX7_ringed 19 = .ok (.iload_n 1, 1) := by decide +kernel
theorem dX7_ringed_20 : decode cX7_ringed 20 = .ok (.iaload, 1) := by decide +kernel
theorem dX7_ringed_21 : decode cX7_ringed 21 = .ok (.invokevirtual 119, 3) := by decide +kernel
theorem dX7_ringed_24 : decode cX7_ringed 24 = .ok (.istore_n 2, 1) := by decide +kernel
theorem dX7_ringed_25 : decode cX7_ringed 25 = .ok (.aload_n 0, 1) := by decide +kernel
theorem dX7_ringed_26 : decode cX7_ringed 26 = .ok (.aload_n 0, 1) := by decide +kernel
theorem dX7_ringed_27 : decode cX7_ringed 27 = .ok (.getfield 43, 3) := by decide +kernel
theorem dX7_ringed_30 : decode cX7_ringed 30 = .ok (.iload_n 1, 1) := by decide +kernel
theorem dX7_ringed_31 : decode cX7_ringed 31 = .ok (.iconst 1, 1) := by decide +kernel
theorem dX7_ringed_32 : decode cX7_ringed 32 = .ok (.isub, 1) := by decide +kernel
theorem dX7_ringed_33 : decode cX7_ringed 33 = .ok (.iaload, 1) := by decide +kernel
theorem dX7_ringed_34 : decode cX7_ringed 34 = .ok (.invokevirtual 119, 3) := by decide +kernel
theorem dX7_ringed_37 : decode cX7_ringed 37 = .ok (.istore_n 3, 1) := by decide +kernel
theorem dX7_ringed_38 : decode cX7_ringed 38 = .ok (.aload_n 0, 1) := by decide +kernel
theorem dX7_ringed_39 : decode cX7_ringed 39 = .ok (.getfield 170, 3) := by decide +kernel
theorem dX7_ringed_42 : decode cX7_ringed 42 = .ok (.ifCond .eq 7, 3) := by decide +kernel
theorem dX7_ringed_45 : decode cX7_ringed 45 = .ok (.iconst 0, 1) := by decide +kernel
theorem dX7_ringed_46 : decode cX7_ringed 46 = .ok (.goto 9, 3) := by decide +kernel
theorem dX7_ringed_49 : decode cX7_ringed 49 = .ok (.aload_n 0, 1) := by decide +kernel
theorem dX7_ringed_50 : decode cX7_ringed 50 = .ok (.getfield 16, 3) := by decide +kernel
theorem dX7_ringed_53 : decode cX7_ringed 53 = .ok (.iload_n 1, 1) := by decide +kernel
theorem dX7_ringed_54 : decode cX7_ringed 54 = .ok (.iaload, 1) := by decide +kernel
theorem dX7_ringed_55 : decode cX7_ringed 55 = .ok (.istore 4, 2) := by decide +kernel
theorem dX7_ringed_57 : decode cX7_ringed 57 = .ok (.iload 4, 2) := by decide +kernel
theorem dX7_ringed_59 : decode cX7_ringed 59 = .ok (.iconst 1, 1) := by decide +kernel
theorem dX7_ringed_60 : decode cX7_ringed 60 = .ok (.if_icmp .ne 8, 3) := by decide +kernel
theorem dX7_ringed_63 : decode cX7_ringed 63 = .ok (.iload_n 2, 1) := by decide +kernel
theorem dX7_ringed_64 : decode cX7_ringed 64 = .ok (.iload_n 3, 1) := by decide +kernel
theorem dX7_ringed_65 : decode cX7_ringed 65 = .ok (.if_icmp .ge 14, 3) := by decide +kernel
theorem dX7_ringed_68 : decode cX7_ringed 68 = .ok (.iload 4, 2) := by decide +kernel
theorem dX7_ringed_70 : decode cX7_ringed 70 = .ok (.iconst 2, 1) := by decide +kernel
theorem dX7_ringed_71 : decode cX7_ringed 71 = .ok (.if_icmp .ne 10, 3) := by decide +kernel
theorem dX7_ringed_74 : decode cX7_ringed 74 = .ok (.iload_n 2, 1) := by decide +kernel
theorem dX7_ringed_75 : decode cX7_ringed 75 = .ok (.iload_n 3, 1) := by decide +kernel
theorem dX7_ringed_76 : decode cX7_ringed 76 = .ok (.if_icmp .gt 5, 3) := by decide +kernel
theorem dX7_ringed_79 : decode cX7_ringed 79 = .ok (.iconst 0, 1) := by decide +kernel
theorem dX7_ringed_80 : decode cX7_ringed 80 = .ok (.ireturn, 1) := by decide +kernel
theorem dX7_ringed_81 : decode cX7_ringed 81 = .ok (.aload_n 0, 1) := by decide +kernel
theorem dX7_ringed_82 : decode cX7_ringed 82 = .ok (.getfield 13, 3) := by decide +kernel
theorem dX7_ringed_85 : decode cX7_ringed 85 = .ok (.iload_n 1, 1) := by decide +kernel
theorem dX7_ringed_86 : decode cX7_ringed 86 = .ok (.iaload, 1) := by decide +kernel
theorem dX7_ringed_87 : decode cX7_ringed 87 = .ok (.ifCond .ge 7, 3) := by decide +kernel
theorem dX7_ringed_90 : decode cX7_ringed 90 = .ok (.iconst (-1), 1) := by decide +kernel
theorem dX7_ringed_91 : decode cX7_ringed 91 = .ok (.goto 32, 3) := by decide +kernel
theorem dX7_ringed_94 : decode cX7_ringed 94 = .ok (.iload_n 2, 1) := by decide +kernel
theorem dX7_ringed_95 : decode cX7_ringed 95 = .ok (.aload_n 0, 1) := by decide +kernel
theorem dX7_ringed_96 : decode cX7_ringed 96 = .ok (.getfield 13, 3) := by decide +kernel
theorem dX7_ringed_99 : decode cX7_ringed 99 = .ok (.iload_n 1, 1) := by decide +kernel
theorem dX7_ringed_100 : decode cX7_ringed 100 = .ok (.iaload, 1) := by decide +kernel
theorem dX7_ringed_101 : decode cX7_ringed 101 = .ok (.if_icmp .ge 14, 3) := by decide +kernel
theorem dX7_ringed_104 : decode cX7_ringed 104 = .ok (.aload_n 0, 1) := by decide +kernel
theorem dX7_ringed_105 : decode cX7_ringed 105 = .ok (.getfield 13, 3) := by decide +kernel
theorem dX7_ringed_108 : decode cX7_ringed 108 = .ok (.iload_n 1, 1) := by decide +kernel
theorem dX7_ringed_109 : decode cX7_ringed 109 = .ok (.iaload, 1) := by decide +kernel
theorem dX7_ringed_110 : decode cX7_ringed 110 = .ok (.iload_n 2, 1) := by decide +kernel
theorem dX7_ringed_111 : decode cX7_ringed 111 = .ok (.isub, 1) := by decide +kernel
theorem dX7_ringed_112 : decode cX7_ringed 112 = .ok (.goto 11, 3) := by decide +kernel
theorem dX7_ringed_115 : decode cX7_ringed 115 = .ok (.iload_n 2, 1) := by decide +kernel
theorem dX7_ringed_116 : decode cX7_ringed 116 = .ok (.aload_n 0, 1) := by decide +kernel
theorem dX7_ringed_117 : decode cX7_ringed 117 = .ok (.getfield 13, 3) := by decide +kernel
theorem dX7_ringed_120 : decode cX7_ringed 120 = .ok (.iload_n 1, 1) := by decide +kernel
theorem dX7_ringed_121 : decode cX7_ringed 121 = .ok (.iaload, 1) := by decide +kernel
theorem dX7_ringed_122 : decode cX7_ringed 122 = .ok (.isub, 1) := by decide +kernel
theorem dX7_ringed_123 : decode cX7_ringed 123 = .ok (.istore 5, 2) := by decide +kernel
theorem dX7_ringed_125 : decode cX7_ringed 125 = .ok (.iload 5, 2) := by decide +kernel
theorem dX7_ringed_127 : decode cX7_ringed 127 = .ok (.ifCond .ge 7, 3) := by decide +kernel
theorem dX7_ringed_130 : decode cX7_ringed 130 = .ok (.iconst 1, 1) := by decide +kernel
theorem dX7_ringed_131 : decode cX7_ringed 131 = .ok (.goto 23, 3) := by decide +kernel
theorem dX7_ringed_134 : decode cX7_ringed 134 = .ok (.iload 5, 2) := by decide +kernel
theorem dX7_ringed_136 : decode cX7_ringed 136 = .ok (.ifCond .ne 7, 3) := by decide +kernel
theorem dX7_ringed_139 : decode cX7_ringed 139 = .ok (.iconst 2, 1) := by decide +kernel
theorem dX7_ringed_140 : decode cX7_ringed 140 = .ok (.goto 14, 3) := by decide +kernel
theorem dX7_ringed_143 : decode cX7_ringed 143 = .ok (.iload 5, 2) := by decide +kernel
theorem dX7_ringed_145 : decode cX7_ringed 145 = .ok (.iconst 1, 1) := by decide +kernel
theorem dX7_ringed_146 : decode cX7_ringed 146 = .ok (.if_icmp .ne 7, 3) := by decide +kernel
theorem dX7_ringed_149 : decode cX7_ringed 149 = .ok (.iconst 1, 1) := by decide +kernel
theorem dX7_ringed_150 : decode cX7_ringed 150 = .ok (.goto 4, 3) := by decide +kernel
theorem dX7_ringed_153 : decode cX7_ringed 153 = .ok (.iconst 0, 1) := by decide +kernel
theorem dX7_ringed_154 : decode cX7_ringed 154 = .ok (.ireturn, 1) := by decide +kernel
set_option maxRecDepth 20000 in
theorem ggX7_goes_X7_gone : GoodIn wsX7_goes wsX7_gone := goodIn_r _ [15, 16, 17, 18, 14, 19, 20, 21, 22, 23, 24, 25] (by decide +kernel) (by decide +kernel)
set_option maxRecDepth 20000 in
theorem gX7_goes_X7_gone : GoodIn wsX7_goes (va_wsS RX7 173 yX7_gone wsX7_gone) := goodIn_app (goodIn_of _ (by decide +kernel)) ggX7_goes_X7_gone
set_option maxRecDepth 20000 in
theorem ggX7_goes_X7_ringed : GoodIn wsX7_goes wsX7_ringed := goodIn_r _ [29, 30, 9, 31, 32, 33, 34, 35, 36, 14, 37, 7, 38, 39, 40, 41, 42, 43, 44, 45, 46, 47, 48, 49, 50, 51, 52, 53, 54, 55, 56, 57, 58, 59, 60, 61, 62, 63, 64, 65, 66, 67, 68, 69, 70, 71, 72, 73, 74, 75, 76, 77, 78, 79] (by decide +kernel) (by decide +kernel)
set_option maxRecDepth 20000 in
theorem gX7_goes_X7_ringed : GoodIn wsX7_goes (wsV RX7 180 RX7 yX7_ringed wsX7_ringed) := goodIn_app (goodIn_of _ (by decide +kernel)) ggX7_goes_X7_ringed
theorem dX7_goes_0 : decode cX7_goes 0 = .ok (.aload_n 0, 1) := by decide +kernel
theorem dX7_goes_1 : decode cX7_goes 1 = .ok (.getfield 164, 3) := by decide +kernel
theorem dX7_goes_4 : decode cX7_goes 4 = .ok (.istore_n 1, 1) := by decide +kernel
theorem dX7_goes_5 : decode cX7_goes 5 = .ok (.aload_n 0, 1) := by decide +kernel
theorem dX7_goes_6 : decode cX7_goes 6 = .ok (.getfield 40, 3) := by decide +kernel
theorem dX7_goes_9 : decode cX7_goes 9 = .ok (.iload_n 1, 1) := by decide +kernel
theorem dX7_goes_10 : decode cX7_goes 10 = .ok (.iaload, 1) := by decide +kernel
theorem dX7_goes_11 : decode cX7_goes 11 = .ok (.istore_n 2, 1) := by decide +kernel
theorem dX7_goes_12 : decode cX7_goes 12 = .ok (.aload_n 0, 1) := by decide +kernel
theorem dX7_goes_13 : decode cX7_goes 13 = .ok (.getfield 52, 3) := by decide +kernel
theorem dX7_goes_16 : decode cX7_goes 16 = .ok (.iload_n 1, 1) := by decide +kernel
theorem dX7_goes_17 : decode cX7_goes 17 = .ok (.iaload, 1) := by decide +kernel
theorem dX7_goes_18 : decode cX7_goes 18 = .ok (.istore_n 3, 1) := by decide +kernel
theorem dX7_goes_19 : decode cX7_goes 19 = .ok (.aload_n 0, 1) := by decide +kernel
theorem dX7_goes_20 : decode cX7_goes 20 = .ok (.getfield 55, 3) := by decide +kernel
theorem dX7_goes_23 : decode cX7_goes 23 = .ok (.iload_n 1, 1) := by decide +kernel
theorem dX7_goes_24 : decode cX7_goes 24 = .ok (.iaload, 1) := by decide +kernel
theorem dX7_goes_25 : decode cX7_goes 25 = .ok (.istore 4, 2) := by decide +kernel
theorem dX7_goes_27 : decode cX7_goes 27 = .ok (.iload_n 1, 1) := by decide +kernel
theorem dX7_goes_28 : decode cX7_goes 28 = .ok (.ifCond .ne 9, 3) := by decide +kernel
theorem dX7_goes_31 : decode cX7_goes 31 = .ok (.iload_n 2, 1) := by decide +kernel
theorem dX7_goes_32 : decode cX7_goes 32 = .ok (.iconst 3, 1) := by decide +kernel
theorem dX7_goes_33 : decode cX7_goes 33 = .ok (.idiv, 1) := by decide +kernel
theorem dX7_goes_34 : decode cX7_goes 34 = .ok (.goto 11, 3) := by decide +kernel
theorem dX7_goes_37 : decode cX7_goes 37 = .ok (.aload_n 0, 1) := by decide +kernel
theorem dX7_goes_38 : decode cX7_goes 38 = .ok (.getfield 46, 3) := by decide +kernel
theorem dX7_goes_41 : decode cX7_goes 41 = .ok (.iload_n 1, 1) := by decide +kernel
theorem dX7_goes_42 : decode cX7_goes 42 = .ok (.iconst 1, 1) := by decide +kernel
theorem dX7_goes_43 : decode cX7_goes 43 = .ok (.isub, 1) := by decide +kernel
theorem dX7_goes_44 : decode cX7_goes 44 = .ok (.iaload, 1) := by decide +kernel
theorem dX7_goes_45 : decode cX7_goes 45 = .ok (.istore 5, 2) := by decide +kernel
theorem dX7_goes_47 : decode cX7_goes 47 = .ok (.iload_n 1, 1) := by decide +kernel
theorem dX7_goes_48 : decode cX7_goes 48 = .ok (.ifCond .ne 11, 3) := by decide +kernel
theorem dX7_goes_51 : decode cX7_goes 51 = .ok (.iload_n 2, 1) := by decide +kernel
theorem dX7_goes_52 : decode cX7_goes 52 = .ok (.iconst 3, 1) := by decide +kernel
theorem dX7_goes_53 : decode cX7_goes 53 = .ok (.irem, 1) := by decide +kernel
theorem dX7_goes_54 : decode cX7_goes 54 = .ok (.iconst 1, 1) := by decide +kernel
theorem dX7_goes_55 : decode cX7_goes 55 = .ok (.iadd, 1) := by decide +kernel
theorem dX7_goes_56 : decode cX7_goes 56 = .ok (.goto 11, 3) := by decide +kernel
theorem dX7_goes_59 : decode cX7_goes 59 = .ok (.aload_n 0, 1) := by decide +kernel
theorem dX7_goes_60 : decode cX7_goes 60 = .ok (.getfield 49, 3) := by decide +kernel
theorem dX7_goes_63 : decode cX7_goes 63 = .ok (.iload_n 1, 1) := by decide +kernel
theorem dX7_goes_64 : decode cX7_goes 64 = .ok (.iconst 1, 1) := by decide +kernel
theorem dX7_goes_65 : decode cX7_goes 65 = .ok (.isub, 1) := by decide +kernel
theorem dX7_goes_66 : decode cX7_goes 66 = .ok (.iaload, 1) := by decide +kernel
theorem dX7_goes_67 : decode cX7_goes 67 = .ok (.istore 6, 2) := by decide +kernel
theorem dX7_goes_69 : decode cX7_goes 69 = .ok (.iload_n 1, 1) := by decide +kernel
theorem dX7_goes_70 : decode cX7_goes 70 = .ok (.ifCond .le 55, 3) := by decide +kernel
theorem dX7_goes_73 : decode cX7_goes 73 = .ok (.iload_n 2, 1) := by decide +kernel
theorem dX7_goes_74 : decode cX7_goes 74 = .ok (.iconst 1, 1) := by decide +kernel
theorem dX7_goes_75 : decode cX7_goes 75 = .ok (.if_icmp .le 7, 3) := by decide +kernel
theorem dX7_goes_78 : decode cX7_goes 78 = .ok (.iconst 1, 1) := by decide +kernel
theorem dX7_goes_79 : decode cX7_goes 79 = .ok (.goto 4, 3) := by decide +kernel
theorem dX7_goes_82 : decode cX7_goes 82 = .ok (.iconst 0, 1) := by decide +kernel
theorem dX7_goes_83 : decode cX7_goes 83 = .ok (.istore 7, 2) := by decide +kernel
theorem dX7_goes_85 : decode cX7_goes 85 = .ok (.iload 7, 2) := by decide +kernel
theorem dX7_goes_87 : decode cX7_goes 87 = .ok (.ifCond .eq 25, 3) := by decide +kernel
theorem dX7_goes_90 : decode cX7_goes 90 = .ok (.iload_n 2, 1) := by decide +kernel
theorem dX7_goes_91 : decode cX7_goes 91 = .ok (.iconst 2, 1) := by decide +kernel
theorem dX7_goes_92 : decode cX7_goes 92 = .ok (.idiv, 1) := by decide +kernel
theorem dX7_goes_93 : decode cX7_goes 93 = .ok (.iconst 1, 1) := by decide +kernel
theorem dX7_goes_94 : decode cX7_goes 94 = .ok (.isub, 1) := by decide +kernel
theorem dX7_goes_95 : decode cX7_goes 95 = .ok (.iload 5, 2) := by decide +kernel
theorem dX7_goes_97 : decode cX7_goes 97 = .ok (.if_icmp .ne 5, 3) := by decide +kernel
theorem dX7_goes_100 : decode cX7_goes 100 = .ok (.iconst 0, 1) := by decide +kernel
theorem dX7_goes_101 : decode cX7_goes 101 = .ok (.ireturn, 1) := by decide +kernel
theorem dX7_goes_102 : decode cX7_goes 102 = .ok (.iload_n 2, 1) := by decide +kernel
theorem dX7_goes_103 : decode cX7_goes 103 = .ok (.iconst 2, 1) := by decide +kernel
theorem dX7_goes_104 : decode cX7_goes 104 = .ok (.idiv, 1) := by decide +kernel
theorem dX7_goes_105 : decode cX7_goes 105 = .ok (.iconst 1, 1) := by decide +kernel
theorem dX7_goes_106 : decode cX7_goes 106 = .ok (.isub, 1) := by decide +kernel
theorem dX7_goes_107 : decode cX7_goes 107 = .ok (.istore 5, 2) := by decide +kernel
theorem dX7_goes_109 : decode cX7_goes 109 = .ok (.iinc 3 1, 3) := by decide +kernel
theorem dX7_goes_112 : decode cX7_goes 112 = .ok (.iload_n 2, 1) := by decide +kernel
theorem dX7_goes_113 : decode cX7_goes 113 = .ok (.iconst 2, 1) := by decide +kernel
theorem dX7_goes_114 : decode cX7_goes 114 = .ok (.irem, 1) := by decide +kernel
theorem dX7_goes_115 : decode cX7_goes 115 = .ok (.iconst 1, 1) := by decide +kernel
theorem dX7_goes_116 : decode cX7_goes 116 = .ok (.if_icmp .ne 9, 3) := by decide +kernel
theorem dX7_goes_119 : decode cX7_goes 119 = .ok (.iinc 4 1, 3) := by decide +kernel
theorem dX7_goes_122 : decode cX7_goes 122 = .ok (.iinc 6 (-1), 3) := by decide +kernel
theorem dX7_goes_125 : decode cX7_goes 125 = .ok (.iload_n 3, 1) := by decide +kernel
theorem dX7_goes_126 : decode cX7_goes 126 = .ok (.aload_n 0, 1) := by decide +kernel
theorem dX7_goes_127 : decode cX7_goes 127 = .ok (.getfield 7, 3) := by decide +kernel
theorem dX7_goes_130 : decode cX7_goes 130 = .ok (.iconst 3, 1) := by decide +kernel
theorem dX7_goes_131 : decode cX7_goes 131 = .ok (.iaload, 1) := by decide +kernel
theorem dX7_goes_132 : decode cX7_goes 132 = .ok (.if_icmp .gt 20, 3) := by decide +kernel
theorem dX7_goes_135 : decode cX7_goes 135 = .ok (.iload 4, 2) := by decide +kernel
theorem dX7_goes_137 : decode cX7_goes 137 = .ok (.aload_n 0, 1) := by decide +kernel
theorem dX7_goes_138 : decode cX7_goes 138 = .ok (.getfield 7, 3) := by decide +kernel
theorem dX7_goes_141 : decode cX7_goes 141 = .ok (.iconst 4, 1) := by decide +kernel
theorem dX7_goes_142 : decode cX7_goes 142 = .ok (.iaload, 1) := by decide +kernel
theorem dX7_goes_143 : decode cX7_goes 143 = .ok (.if_icmp .gt 9, 3) := by decide +kernel
theorem dX7_goes_146 : decode cX7_goes 146 = .ok (.iload 6, 2) := by decide +kernel
theorem dX7_goes_148 : decode cX7_goes 148 = .ok (.iconst 1, 1) := by decide +kernel
theorem dX7_goes_149 : decode cX7_goes 149 = .ok (.if_icmp .ge 5, 3) := by decide +kernel
theorem dX7_goes_152 : decode cX7_goes 152 = .ok (.iconst 0, 1) := by decide +kernel
theorem dX7_goes_153 : decode cX7_goes 153 = .ok (.ireturn, 1) := by decide +kernel
theorem dX7_goes_154 : decode cX7_goes 154 = .ok (.aload_n 0, 1) := by decide +kernel
theorem dX7_goes_155 : decode cX7_goes 155 = .ok (.getfield 58, 3) := by decide +kernel
theorem dX7_goes_158 : decode cX7_goes 158 = .ok (.iload_n 1, 1) := by decide +kernel
theorem dX7_goes_159 : decode cX7_goes 159 = .ok (.iaload, 1) := by decide +kernel
theorem dX7_goes_160 : decode cX7_goes 160 = .ok (.iload 6, 2) := by decide +kernel
theorem dX7_goes_162 : decode cX7_goes 162 = .ok (.iload 6, 2) := by decide +kernel
theorem dX7_goes_164 : decode cX7_goes 164 = .ok (.imul, 1) := by decide +kernel
theorem dX7_goes_165 : decode cX7_goes 165 = .ok (.iadd, 1) := by decide +kernel
theorem dX7_goes_166 : decode cX7_goes 166 = .ok (.istore 7, 2) := by decide +kernel
theorem dX7_goes_168 : decode cX7_goes 168 = .ok (.aload_n 0, 1) := by decide +kernel
theorem dX7_goes_169 : decode cX7_goes 169 = .ok (.getfield 43, 3) := by decide +kernel
theorem dX7_goes_172 : decode cX7_goes 172 = .ok (.iload_n 1, 1) := by decide +kernel
theorem dX7_goes_173 : decode cX7_goes 173 = .ok (.iaload, 1) := by decide +kernel
theorem dX7_goes_174 : decode cX7_goes 174 = .ok (.iload 5, 2) := by decide +kernel
theorem dX7_goes_176 : decode cX7_goes 176 = .ok (.iload 6, 2) := by decide +kernel
theorem dX7_goes_178 : decode cX7_goes 178 = .ok (.invokestatic 173, 3) := by decide +kernel
theorem dX7_goes_181 : decode cX7_goes 181 = .ok (.istore 8, 2) := by decide +kernel
theorem dX7_goes_183 : decode cX7_goes 183 = .ok (.iload 8, 2) := by decide +kernel
theorem dX7_goes_185 : decode cX7_goes 185 = .ok (.ifCond .lt 21, 3) := by decide +kernel
theorem dX7_goes_188 : decode cX7_goes 188 = .ok (.aload_n 0, 1) := by decide +kernel
theorem dX7_goes_189 : decode cX7_goes 189 = .ok (.getfield 177, 3) := by decide +kernel
theorem dX7_goes_192 : decode cX7_goes 192 = .ok (.ifCond .ne 16, 3) := by decide +kernel
theorem dX7_goes_195 : decode cX7_goes 195 = .ok (.iload 7, 2) := by decide +kernel
theorem dX7_goes_197 : decode cX7_goes 197 = .ok (.aload_n 0, 1) := by decide +kernel
theorem dX7_goes_198 : decode cX7_goes 198 = .ok (.getfield 7, 3) := by decide +kernel
theorem dX7_goes_201 : decode cX7_goes 201 = .ok (.iconst 5, 1) := by decide +kernel
theorem dX7_goes_202 : decode cX7_goes 202 = .ok (.iaload, 1) := by decide +kernel
theorem dX7_goes_203 : decode cX7_goes 203 = .ok (.if_icmp .le 5, 3) := by decide +kernel
theorem dX7_goes_206 : decode cX7_goes 206 = .ok (.iconst 0, 1) := by decide +kernel
theorem dX7_goes_207 : decode cX7_goes 207 = .ok (.ireturn, 1) := by decide +kernel
theorem dX7_goes_208 : decode cX7_goes 208 = .ok (.aload_n 0, 1) := by decide +kernel
theorem dX7_goes_209 : decode cX7_goes 209 = .ok (.getfield 46, 3) := by decide +kernel
theorem dX7_goes_212 : decode cX7_goes 212 = .ok (.iload_n 1, 1) := by decide +kernel
theorem dX7_goes_213 : decode cX7_goes 213 = .ok (.iload 5, 2) := by decide +kernel
theorem dX7_goes_215 : decode cX7_goes 215 = .ok (.iastore, 1) := by decide +kernel
theorem dX7_goes_216 : decode cX7_goes 216 = .ok (.aload_n 0, 1) := by decide +kernel
theorem dX7_goes_217 : decode cX7_goes 217 = .ok (.getfield 49, 3) := by decide +kernel
theorem dX7_goes_220 : decode cX7_goes 220 = .ok (.iload_n 1, 1) := by decide +kernel
theorem dX7_goes_221 : decode cX7_goes 221 = .ok (.iload 6, 2) := by decide +kernel
theorem dX7_goes_223 : decode cX7_goes 223 = .ok (.iastore, 1) := by decide +kernel
theorem dX7_goes_224 : decode cX7_goes 224 = .ok (.aload_n 0, 1) := by decide +kernel
theorem dX7_goes_225 : decode cX7_goes 225 = .ok (.getfield 43, 3) := by decide +kernel
theorem dX7_goes_228 : decode cX7_goes 228 = .ok (.iload_n 1, 1) := by decide +kernel
theorem dX7_goes_229 : decode cX7_goes 229 = .ok (.iconst 1, 1) := by decide +kernel
theorem dX7_goes_230 : decode cX7_goes 230 = .ok (.iadd, 1) := by decide +kernel
theorem dX7_goes_231 : decode cX7_goes 231 = .ok (.iload 8, 2) := by decide +kernel
theorem dX7_goes_233 : decode cX7_goes 233 = .ok (.iastore, 1) := by decide +kernel
theorem dX7_goes_234 : decode cX7_goes 234 = .ok (.aload_n 0, 1) := by decide +kernel
theorem dX7_goes_235 : decode cX7_goes 235 = .ok (.getfield 52, 3) := by decide +kernel
theorem dX7_goes_238 : decode cX7_goes 238 = .ok (.iload_n 1, 1) := by decide +kernel
theorem dX7_goes_239 : decode cX7_goes 239 = .ok (.iconst 1, 1) := by decide +kernel
theorem dX7_goes_240 : decode cX7_goes 240 = .ok (.iadd, 1) := by decide +kernel
theorem dX7_goes_241 : decode cX7_goes 241 = .ok (.iload_n 3, 1) := by decide +kernel
theorem dX7_goes_242 : decode cX7_goes 242 = .ok (.iastore, 1) := by decide +kernel
theorem dX7_goes_243 : decode cX7_goes 243 = .ok (.aload_n 0, 1) := by decide +kernel
theorem dX7_goes_244 : decode cX7_goes 244 = .ok (.getfield 55, 3) := by decide +kernel
theorem dX7_goes_247 : decode cX7_goes 247 = .ok (.iload_n 1, 1) := by decide +kernel
theorem dX7_goes_248 : decode cX7_goes 248 = .ok (.iconst 1, 1) := by decide +kernel
theorem dX7_goes_249 : decode cX7_goes 249 = .ok (.iadd, 1) := by decide +kernel
theorem dX7_goes_250 : decode cX7_goes 250 = .ok (.iload 4, 2) := by decide +kernel
theorem dX7_goes_252 : decode cX7_goes 252 = .ok (.iastore, 1) := by decide +kernel
theorem dX7_goes_253 : decode cX7_goes 253 = .ok (.aload_n 0, 1) := by decide +kernel
theorem dX7_goes_254 : decode cX7_goes 254 = .ok (.getfield 58, 3) := by decide +kernel
theorem dX7_goes_257 : decode cX7_goes 257 = .ok (.iload_n 1, 1) := by decide +kernel
theorem dX7_goes_258 : decode cX7_goes 258 = .ok (.iconst 1, 1) := by decide +kernel
theorem dX7_goes_259 : decode cX7_goes 259 = .ok (.iadd, 1) := by decide +kernel
theorem dX7_goes_260 : decode cX7_goes 260 = .ok (.iload 7, 2) := by decide +kernel
theorem dX7_goes_262 : decode cX7_goes 262 = .ok (.iastore, 1) := by decide +kernel
theorem dX7_goes_263 : decode cX7_goes 263 = .ok (.aload_n 0, 1) := by decide +kernel
theorem dX7_goes_264 : decode cX7_goes 264 = .ok (.getfield 61, 3) := by decide +kernel
theorem dX7_goes_267 : decode cX7_goes 267 = .ok (.iload_n 1, 1) := by decide +kernel
theorem dX7_goes_268 : decode cX7_goes 268 = .ok (.iconst 1, 1) := by decide +kernel
theorem dX7_goes_269 : decode cX7_goes 269 = .ok (.iadd, 1) := by decide +kernel
theorem dX7_goes_270 : decode cX7_goes 270 = .ok (.aload_n 0, 1) := by decide +kernel
theorem dX7_goes_271 : decode cX7_goes 271 = .ok (.getfield 61, 3) := by decide +kernel
theorem dX7_goes_274 : decode cX7_goes 274 = .ok (.iload_n 1, 1) := by decide +kernel
theorem dX7_goes_275 : decode cX7_goes 275 = .ok (.iaload, 1) := by decide +kernel
theorem dX7_goes_276 : decode cX7_goes 276 = .ok (.aload_n 0, 1) := by decide +kernel
theorem dX7_goes_277 : decode cX7_goes 277 = .ok (.iload_n 1, 1) := by decide +kernel
theorem dX7_goes_278 : decode cX7_goes 278 = .ok (.iconst 1, 1) := by decide +kernel
theorem dX7_goes_279 : decode cX7_goes 279 = .ok (.iadd, 1) := by decide +kernel
theorem dX7_goes_280 : decode cX7_goes 280 = .ok (.invokevirtual 180, 3) := by decide +kernel
theorem dX7_goes_283 : decode cX7_goes 283 = .ok (.imul, 1) := by decide +kernel
theorem dX7_goes_284 : decode cX7_goes 284 = .ok (.iastore, 1) := by decide +kernel
theorem dX7_goes_285 : decode cX7_goes 285 = .ok (.aload_n 0, 1) := by decide +kernel
theorem dX7_goes_286 : decode cX7_goes 286 = .ok (.getfield 61, 3) := by decide +kernel
theorem dX7_goes_289 : decode cX7_goes 289 = .ok (.iload_n 1, 1) := by decide +kernel
theorem dX7_goes_290 : decode cX7_goes 290 = .ok (.iconst 1, 1) := by decide +kernel
theorem dX7_goes_291 : decode cX7_goes 291 = .ok (.iadd, 1) := by decide +kernel
theorem dX7_goes_292 : decode cX7_goes 292 = .ok (.iaload, 1) := by decide +kernel
theorem dX7_goes_293 : decode cX7_goes 293 = .ok (.ifCond .le 7, 3) := by decide +kernel
theorem dX7_goes_296 : decode cX7_goes 296 = .ok (.iconst 1, 1) := by decide +kernel
theorem dX7_goes_297 : decode cX7_goes 297 = .ok (.goto 4, 3) := by decide +kernel
theorem dX7_goes_300 : decode cX7_goes 300 = .ok (.iconst 0, 1) := by decide +kernel
theorem dX7_goes_301 : decode cX7_goes 301 = .ok (.ireturn, 1) := by decide +kernel
set_option maxRecDepth 20000 in
theorem ggX7_goesOn_X7_goes : GoodIn wsX7_goesOn wsX7_goes := goodIn_r _ [8, 1, 3, 9, 10, 11, 12, 2, 13, 14, 15, 16, 17, 18, 7, 19, 20, 21, 22, 23, 24, 25, 26, 27, 28, 29, 30, 31, 32, 33, 34, 35, 36, 37, 38, 39, 40, 41, 42, 43, 44, 45, 46, 47, 48, 49, 50, 51, 52, 53, 54, 55, 56, 57, 58, 59, 60, 61, 62, 63, 64, 65, 66, 67, 68, 69, 70, 71, 72, 73, 74, 75, 76, 77, 78, 79, 80, 81, 82, 83] (by decide +kernel) (by decide +kernel)
set_option maxRecDepth 20000 in
theorem gX7_goesOn_X7_goes : GoodIn wsX7_goesOn (wsV RX7 183 RX7 yX7_goes wsX7_goes) := goodIn_app (goodIn_of _ (by decide +kernel)) ggX7_goesOn_X7_goes
theorem dX7_goesOn_0 : decode cX7_goesOn 0 = .ok (.aload_n 0, 1) := by decide +kernel
theorem dX7_goesOn_1 : decode cX7_goesOn 1 = .ok (.aload_n 0, 1) := by decide +kernel
theorem dX7_goesOn_2 : decode cX7_goesOn 2 = .ok (.getfield 164, 3) := by decide +kernel
theorem dX7_goesOn_5 : decode cX7_goesOn 5 = .ok (.aload_n 0, 1) := by decide +kernel
theorem dX7_goesOn_6 : decode cX7_goesOn 6 = .ok (.getfield 7, 3) := by decide +kernel
theorem dX7_goesOn_9 : decode cX7_goesOn 9 = .ok (.iconst 2, 1) := by decide +kernel
theorem dX7_goesOn_10 : decode cX7_goesOn 10 = .ok (.iaload, 1) := by decide +kernel
theorem dX7_goesOn_11 : decode cX7_goesOn 11 = .ok (.if_icmp .ne 12, 3) := by decide +kernel
theorem dX7_goesOn_14 : decode cX7_goesOn 14 = .ok (.aload_n 0, 1) := by decide +kernel
theorem dX7_goesOn_15 : decode cX7_goesOn 15 = .ok (.getfield 164, 3) := by decide +kernel
theorem dX7_goesOn_18 : decode cX7_goesOn 18 = .ok (.iconst 1, 1) := by decide +kernel
theorem dX7_goesOn_19 : decode cX7_goesOn 19 = .ok (.isub, 1) := by decide +kernel
theorem dX7_goesOn_20 : decode cX7_goesOn 20 = .ok (.goto 7, 3) := by decide +kernel
theorem dX7_goesOn_23 : decode cX7_goesOn 23 = .ok (.aload_n 0, 1) := by decide +kernel
theorem dX7_goesOn_24 : decode cX7_goesOn 24 = .ok (.getfield 164, 3) := by decide +kernel
theorem dX7_goesOn_27 : decode cX7_goesOn 27 = .ok (.putfield 164, 3) := by decide +kernel
theorem dX7_goesOn_30 : decode cX7_goesOn 30 = .ok (.aload_n 0, 1) := by decide +kernel
theorem dX7_goesOn_31 : decode cX7_goesOn 31 = .ok (.getfield 164, 3) := by decide +kernel
theorem dX7_goesOn_34 : decode cX7_goesOn 34 = .ok (.ifCond .lt 98, 3) := by decide +kernel
theorem dX7_goesOn_37 : decode cX7_goesOn 37 = .ok (.aload_n 0, 1) := by decide +kernel
theorem dX7_goesOn_38 : decode cX7_goesOn 38 = .ok (.getfield 164, 3) := by decide +kernel
theorem dX7_goesOn_41 : decode cX7_goesOn 41 = .ok (.aload_n 0, 1) := by decide +kernel
theorem dX7_goesOn_42 : decode cX7_goesOn 42 = .ok (.getfield 7, 3) := by decide +kernel
theorem dX7_goesOn_45 : decode cX7_goesOn 45 = .ok (.iconst 2, 1) := by decide +kernel
theorem dX7_goesOn_46 : decode cX7_goesOn 46 = .ok (.iaload, 1) := by decide +kernel
theorem dX7_goesOn_47 : decode cX7_goesOn 47 = .ok (.if_icmp .ge 85, 3) := by decide +kernel
theorem dX7_goesOn_50 : decode cX7_goesOn 50 = .ok (.aload_n 0, 1) := by decide +kernel
theorem dX7_goesOn_51 : decode cX7_goesOn 51 = .ok (.getfield 40, 3) := by decide +kernel
theorem dX7_goesOn_54 : decode cX7_goesOn 54 = .ok (.aload_n 0, 1) := by decide +kernel
theorem dX7_goesOn_55 : decode cX7_goesOn 55 = .ok (.getfield 164, 3) := by decide +kernel
theorem dX7_goesOn_58 : decode cX7_goesOn 58 = .ok (.dup2, 1) := by decide +kernel
theorem dX7_goesOn_59 : decode cX7_goesOn 59 = .ok (.iaload, 1) := by decide +kernel
theorem dX7_goesOn_60 : decode cX7_goesOn 60 = .ok (.iconst 1, 1) := by decide +kernel
theorem dX7_goesOn_61 : decode cX7_goesOn 61 = .ok (.iadd, 1) := by decide +kernel
theorem dX7_goesOn_62 : decode cX7_goesOn 62 = .ok (.iastore, 1) := by decide +kernel
theorem dX7_goesOn_63 : decode cX7_goesOn 63 = .ok (.aload_n 0, 1) := by decide +kernel
theorem dX7_goesOn_64 : decode cX7_goesOn 64 = .ok (.getfield 40, 3) := by decide +kernel
theorem dX7_goesOn_67 : decode cX7_goesOn 67 = .ok (.aload_n 0, 1) := by decide +kernel
theorem dX7_goesOn_68 : decode cX7_goesOn 68 = .ok (.getfield 164, 3) := by decide +kernel
theorem dX7_goesOn_71 : decode cX7_goesOn 71 = .ok (.iaload, 1) := by decide +kernel
theorem dX7_goesOn_72 : decode cX7_goesOn 72 = .ok (.aload_n 0, 1) := by decide +kernel
theorem dX7_goesOn_73 : decode cX7_goesOn 73 = .ok (.getfield 164, 3) := by decide +kernel
theorem dX7_goesOn_76 : decode cX7_goesOn 76 = .ok (.ifCond .ne 8, 3) := by decide +kernel
theorem dX7_goesOn_79 : decode cX7_goesOn 79 = .ok (.bipush 23, 2) := by decide +kernel
theorem dX7_goesOn_81 : decode cX7_goesOn 81 = .ok (.goto 5, 3) := by decide +kernel
theorem dX7_goesOn_84 : decode cX7_goesOn 84 = .ok (.bipush 17, 2) := by decide +kernel
theorem dX7_goesOn_86 : decode cX7_goesOn 86 = .ok (.if_icmp .le 16, 3) := by decide +kernel
theorem dX7_goesOn_89 : decode cX7_goesOn 89 = .ok (.aload_n 0, 1) := by decide +kernel
theorem dX7_goesOn_90 : decode cX7_goesOn 90 = .ok (.dup, 1) := by decide +kernel
theorem dX7_goesOn_91 : decode cX7_goesOn 91 = .ok (.getfield 164, 3) := by decide +kernel
theorem dX7_goesOn_94 : decode cX7_goesOn 94 = .ok (.iconst 1, 1) := by decide +kernel
theorem dX7_goesOn_95 : decode cX7_goesOn 95 = .ok (.isub, 1) := by decide +kernel
theorem dX7_goesOn_96 : decode cX7_goesOn 96 = .ok (.putfield 164, 3) := by decide +kernel
theorem dX7_goesOn_99 : decode cX7_goesOn 99 = .ok (.goto (-69), 3) := by decide +kernel
theorem dX7_goesOn_102 : decode cX7_goesOn 102 = .ok (.aload_n 0, 1) := by decide +kernel
theorem dX7_goesOn_103 : decode cX7_goesOn 103 = .ok (.invokevirtual 183, 3) := by decide +kernel
theorem dX7_goesOn_106 : decode cX7_goesOn 106 = .ok (.ifCond .eq (-76), 3) := by decide +kernel
theorem dX7_goesOn_109 : decode cX7_goesOn 109 = .ok (.aload_n 0, 1) := by decide +kernel
theorem dX7_goesOn_110 : decode cX7_goesOn 110 = .ok (.dup, 1) := by decide +kernel
theorem dX7_goesOn_111 : decode cX7_goesOn 111 = .ok (.getfield 164, 3) := by decide +kernel
theorem dX7_goesOn_114 : decode cX7_goesOn 114 = .ok (.iconst 1, 1) := by decide +kernel
theorem dX7_goesOn_115 : decode cX7_goesOn 115 = .ok (.iadd, 1) := by decide +kernel
theorem dX7_goesOn_116 : decode cX7_goesOn 116 = .ok (.putfield 164, 3) := by decide +kernel
theorem dX7_goesOn_119 : decode cX7_goesOn 119 = .ok (.aload_n 0, 1) := by decide +kernel
theorem dX7_goesOn_120 : decode cX7_goesOn 120 = .ok (.getfield 40, 3) := by decide +kernel
theorem dX7_goesOn_123 : decode cX7_goesOn 123 = .ok (.aload_n 0, 1) := by decide +kernel
theorem dX7_goesOn_124 : decode cX7_goesOn 124 = .ok (.getfield 164, 3) := by decide +kernel
theorem dX7_goesOn_127 : decode cX7_goesOn 127 = .ok (.iconst (-1), 1) := by decide +kernel
theorem dX7_goesOn_128 : decode cX7_goesOn 128 = .ok (.iastore, 1) := by decide +kernel
theorem dX7_goesOn_129 : decode cX7_goesOn 129 = .ok (.goto (-99), 3) := by decide +kernel
theorem dX7_goesOn_132 : decode cX7_goesOn 132 = .ok (.aload_n 0, 1) := by decide +kernel
theorem dX7_goesOn_133 : decode cX7_goesOn 133 = .ok (.getfield 164, 3) := by decide +kernel
theorem dX7_goesOn_136 : decode cX7_goesOn 136 = .ok (.ifCond .lt 7, 3) := by decide +kernel
theorem dX7_goesOn_139 : decode cX7_goesOn 139 = .ok (.iconst 1, 1) := by decide +kernel
theorem dX7_goesOn_140 : decode cX7_goesOn 140 = .ok (.goto 4, 3) := by decide +kernel
theorem dX7_goesOn_143 : decode cX7_goesOn 143 = .ok (.iconst 0, 1) := by decide +kernel
theorem dX7_goesOn_144 : decode cX7_goesOn 144 = .ok (.ireturn, 1) := by decide +kernel
theorem dX7_heavy_0 : decode cX7_heavy 0 = .ok (.aload_n 0, 1) := by decide +kernel
theorem dX7_heavy_1 : decode cX7_heavy 1 = .ok (.getfield 7, 3) := by decide +kernel
theorem dX7_heavy_4 : decode cX7_heavy 4 = .ok (.iconst 2, 1) := by decide +kernel
theorem dX7_heavy_5 : decode cX7_heavy 5 = .ok (.iaload, 1) := by decide +kernel
theorem dX7_heavy_6 : decode cX7_heavy 6 = .ok (.istore_n 1, 1) := by decide +kernel
theorem dX7_heavy_7 : decode cX7_heavy 7 = .ok (.bipush 32, 2) := by decide +kernel
theorem dX7_heavy_9 : decode cX7_heavy 9 = .ok (.istore_n 2, 1) := by decide +kernel
theorem dX7_heavy_10 : decode cX7_heavy 10 = .ok (.iconst 0, 1) := by decide +kernel
theorem dX7_heavy_11 : decode cX7_heavy 11 = .ok (.istore_n 3, 1) := by decide +kernel
theorem dX7_heavy_12 : decode cX7_heavy 12 = .ok (.iload_n 3, 1) := by decide +kernel
theorem dX7_heavy_13 : decode cX7_heavy 13 = .ok (.aload_n 0, 1) := by decide +kernel
theorem dX7_heavy_14 : decode cX7_heavy 14 = .ok (.getfield 52, 3) := by decide +kernel
theorem dX7_heavy_17 : decode cX7_heavy 17 = .ok (.iload_n 1, 1) := by decide +kernel
theorem dX7_heavy_18 : decode cX7_heavy 18 = .ok (.iaload, 1) := by decide +kernel
theorem dX7_heavy_19 : decode cX7_heavy 19 = .ok (.if_icmp .ge 13, 3) := by decide +kernel
theorem dX7_heavy_22 : decode cX7_heavy 22 = .ok (.iload_n 2, 1) := by decide +kernel
theorem dX7_heavy_23 : decode cX7_heavy 23 = .ok (.iconst 4, 1) := by decide +kernel
theorem dX7_heavy_24 : decode cX7_heavy 24 = .ok (.idiv, 1) := by decide +kernel
theorem dX7_heavy_25 : decode cX7_heavy 25 = .ok (.istore_n 2, 1) := by decide +kernel
theorem dX7_heavy_26 : decode cX7_heavy 26 = .ok (.iinc 3 1, 3) := by decide +kernel
theorem dX7_heavy_29 : decode cX7_heavy 29 = .ok (.goto (-17), 3) := by decide +kernel
theorem dX7_heavy_32 : decode cX7_heavy 32 = .ok (.iload_n 2, 1) := by decide +kernel
theorem dX7_heavy_33 : decode cX7_heavy 33 = .ok (.aload_n 0, 1) := by decide +kernel
theorem dX7_heavy_34 : decode cX7_heavy 34 = .ok (.getfield 55, 3) := by decide +kernel
theorem dX7_heavy_37 : decode cX7_heavy 37 = .ok (.iload_n 1, 1) := by decide +kernel
theorem dX7_heavy_38 : decode cX7_heavy 38 = .ok (.iaload, 1) := by decide +kernel
theorem dX7_heavy_39 : decode cX7_heavy 39 = .ok (.ifCond .le 7, 3) := by decide +kernel
theorem dX7_heavy_42 : decode cX7_heavy 42 = .ok (.iconst 2, 1) := by decide +kernel
theorem dX7_heavy_43 : decode cX7_heavy 43 = .ok (.goto 4, 3) := by decide +kernel
theorem dX7_heavy_46 : decode cX7_heavy 46 = .ok (.iconst 1, 1) := by decide +kernel
theorem dX7_heavy_47 : decode cX7_heavy 47 = .ok (.idiv, 1) := by decide +kernel
theorem dX7_heavy_48 : decode cX7_heavy 48 = .ok (.aload_n 0, 1) := by decide +kernel
theorem dX7_heavy_49 : decode cX7_heavy 49 = .ok (.getfield 61, 3) := by decide +kernel
theorem dX7_heavy_52 : decode cX7_heavy 52 = .ok (.iload_n 1, 1) := by decide +kernel
theorem dX7_heavy_53 : decode cX7_heavy 53 = .ok (.iaload, 1) := by decide +kernel
theorem dX7_heavy_54 : decode cX7_heavy 54 = .ok (.imul, 1) := by decide +kernel
theorem dX7_heavy_55 : decode cX7_heavy 55 = .ok (.ireturn, 1) := by decide +kernel
theorem dX7_asTold_0 : decode cX7_asTold 0 = .ok (.aload_n 0, 1) := by decide +kernel
theorem dX7_asTold_1 : decode cX7_asTold 1 = .ok (.iconst 0, 1) := by decide +kernel
theorem dX7_asTold_2 : decode cX7_asTold 2 = .ok (.putfield 167, 3) := by decide +kernel
theorem dX7_asTold_5 : decode cX7_asTold 5 = .ok (.aload_n 0, 1) := by decide +kernel
theorem dX7_asTold_6 : decode cX7_asTold 6 = .ok (.iconst 0, 1) := by decide +kernel
theorem dX7_asTold_7 : decode cX7_asTold 7 = .ok (.putfield 170, 3) := by decide +kernel
theorem dX7_asTold_10 : decode cX7_asTold 10 = .ok (.aload_n 0, 1) := by decide +kernel
theorem dX7_asTold_11 : decode cX7_asTold 11 = .ok (.iconst 0, 1) := by decide +kernel
theorem dX7_asTold_12 : decode cX7_asTold 12 = .ok (.putfield 177, 3) := by decide +kernel
theorem dX7_asTold_15 : decode cX7_asTold 15 = .ok (.return_, 1) := by decide +kernel
set_option maxRecDepth 20000 in
theorem ggX7_ways_X7_asTold : GoodIn wsX7_ways wsX7_asTold := goodIn_r _ [5, 6, 7, 8, 54, 55, 56, 57, 58, 59, 60, 61, 62, 63, 64, 65, 66, 67, 68, 69, 70, 71, 72, 73, 74, 75, 76, 77, 78, 79, 80, 81, 82, 83, 84, 85, 86, 87, 88, 89, 90, 91, 92, 93, 94, 95] (by decide +kernel) (by decide +kernel)
set_option maxRecDepth 20000 in
theorem gX7_ways_X7_asTold : GoodIn wsX7_ways (wsV RX7 187 RX7 yX7_asTold wsX7_asTold) := goodIn_app (goodIn_of _ (by decide +kernel)) ggX7_ways_X7_asTold
set_option maxRecDepth 20000 in
theorem ggX7_ways_X7_begins : GoodIn wsX7_ways wsX7_begins := goodIn_r _ [12, 13, 14, 15, 16, 17, 18, 19, 20, 54, 55, 56, 57, 58, 59, 60, 61, 62, 63, 64, 65, 66, 67, 68, 69, 70, 71, 72, 73, 74, 75, 76, 77, 78, 79, 80, 81, 82, 83, 84, 85, 86, 87, 88, 89, 90, 91, 92, 93, 94, 95] (by decide +kernel) (by decide +kernel)
set_option maxRecDepth 20000 in
theorem gX7_ways_X7_begins : GoodIn wsX7_ways (wsV RX7 190 RX7 yX7_begins wsX7_begins) := goodIn_app (goodIn_of _ (by decide +kernel)) ggX7_ways_X7_begins
set_option maxRecDepth 20000 in
theorem ggX7_ways_X7_goesOn : GoodIn wsX7_ways wsX7_goesOn := goodIn_r _ [24, 13, 16, 14, 25, 26, 27, 4, 28, 17, 18, 29, 30, 19, 15, 8, 20, 31, 32, 33, 34, 35, 36, 37, 38, 39, 40, 41, 42, 43, 44, 45, 46, 47, 6, 7, 48, 49, 50, 51, 52, 53, 54, 55, 56, 57, 58, 59, 60, 61, 62, 63, 64, 65, 66, 67, 68, 69, 70, 71, 72, 73, 74, 75, 76, 77, 78, 79, 80, 81, 82, 83, 84, 85, 86, 87, 88, 89, 90, 91, 92, 93, 94, 95] (by decide +kernel) (by decide +kernel)
set_option maxRecDepth 20000 in
theorem gX7_ways_X7_goesOn : GoodIn wsX7_ways (wsV RX7 193 RX7 yX7_goesOn wsX7_goesOn) := goodIn_app (goodIn_of _ (by decide +kernel)) ggX7_ways_X7_goesOn
theorem dX7_ways_0 : decode cX7_ways 0 = .ok (.aload_n 0, 1) := by decide +kernel
theorem dX7_ways_1 : decode cX7_ways 1 = .ok (.invokevirtual 187, 3) := by decide +kernel
theorem dX7_ways_4 : decode cX7_ways 4 = .ok (.aload_n 0, 1) := by decide +kernel
theorem dX7_ways_5 : decode cX7_ways 5 = .ok (.invokevirtual 190, 3) := by decide +kernel
theorem dX7_ways_8 : decode cX7_ways 8 = .ok (.iconst 0, 1) := by decide +kernel
theorem dX7_ways_9 : decode cX7_ways 9 = .ok (.istore_n 1, 1) := by decide +kernel
theorem dX7_ways_10 : decode cX7_ways 10 = .ok (.aload_n 0, 1) := by decide +kernel
theorem dX7_ways_11 : decode cX7_ways 11 = .ok (.invokevirtual 193, 3) := by decide +kernel
theorem dX7_ways_14 : decode cX7_ways 14 = .ok (.ifCond .eq 9, 3) := by decide +kernel
theorem dX7_ways_17 : decode cX7_ways 17 = .ok (.iinc 1 1, 3) := by decide +kernel
theorem dX7_ways_20 : decode cX7_ways 20 = .ok (.goto (-10), 3) := by decide +kernel
theorem dX7_ways_23 : decode cX7_ways 23 = .ok (.iload_n 1, 1) := by decide +kernel
theorem dX7_ways_24 : decode cX7_ways 24 = .ok (.ireturn, 1) := by decide +kernel
set_option maxRecDepth 20000 in
theorem ggX7_weight_X7_asTold : GoodIn wsX7_weight wsX7_asTold := goodIn_r _ [5, 6, 7, 8, 58, 59, 60, 61, 62, 63, 64, 65, 66, 67, 68, 69, 70, 71, 72, 73, 74, 75, 76, 77, 78, 79, 80, 81, 82, 83, 84, 85, 86, 87, 88, 89, 90, 91, 92, 93, 94, 95, 96, 97, 98, 99] (by decide +kernel) (by decide +kernel)
set_option maxRecDepth 20000 in
theorem gX7_weight_X7_asTold : GoodIn wsX7_weight (wsV RX7 187 RX7 yX7_asTold wsX7_asTold) := goodIn_app (goodIn_of _ (by decide +kernel)) ggX7_weight_X7_asTold
set_option maxRecDepth 20000 in
theorem ggX7_weight_X7_begins : GoodIn wsX7_weight wsX7_begins := goodIn_r _ [12, 13, 14, 15, 16, 17, 18, 19, 20, 58, 59, 60, 61, 62, 63, 64, 65, 66, 67, 68, 69, 70, 71, 72, 73, 74, 75, 76, 77, 78, 79, 80, 81, 82, 83, 84, 85, 86, 87, 88, 89, 90, 91, 92, 93, 94, 95, 96, 97, 98, 99] (by decide +kernel) (by decide +kernel)
set_option maxRecDepth 20000 in
theorem gX7_weight_X7_begins : GoodIn wsX7_weight (wsV RX7 190 RX7 yX7_begins wsX7_begins) := goodIn_app (goodIn_of _ (by decide +kernel)) ggX7_weight_X7_begins
set_option maxRecDepth 20000 in
theorem ggX7_weight_X7_goesOn : GoodIn wsX7_weight wsX7_goesOn := goodIn_r _ [24, 13, 16, 14, 25, 26, 27, 4, 28, 17, 18, 29, 30, 19, 15, 8, 20, 31, 32, 33, 34, 35, 36, 37, 38, 39, 40, 41, 42, 43, 44, 45, 46, 47, 6, 7, 48, 49, 50, 51, 52, 53, 58, 59, 60, 61, 62, 63, 64, 65, 66, 67, 68, 69, 70, 71, 72, 73, 74, 75, 76, 77, 78, 79, 80, 81, 82, 83, 84, 85, 86, 87, 88, 89, 90, 91, 92, 93, 94, 95, 96, 97, 98, 99] (by decide +kernel) (by decide +kernel)
set_option maxRecDepth 20000 in
theorem gX7_weight_X7_goesOn : GoodIn wsX7_weight (wsV RX7 193 RX7 yX7_goesOn wsX7_goesOn) := goodIn_app (goodIn_of _ (by decide +kernel)) ggX7_weight_X7_goesOn
set_option maxRecDepth 20000 in
theorem ggX7_weight_X7_heavy : GoodIn wsX7_weight wsX7_heavy := goodIn_r _ [57, 16, 17, 18, 20, 58, 59, 60, 61, 62, 63, 64, 65, 66, 67, 68, 69, 70, 71, 72, 73, 74, 75, 76, 77, 78, 79, 80, 81, 82, 83, 84, 85, 86, 87, 88, 89, 90, 91, 92, 93, 94, 95, 96, 97, 98, 99] (by decide +kernel) (by decide +kernel)
set_option maxRecDepth 20000 in
theorem gX7_weight_X7_heavy : GoodIn wsX7_weight (wsV RX7 196 RX7 yX7_heavy wsX7_heavy) := goodIn_app (goodIn_of _ (by decide +kernel)) ggX7_weight_X7_heavy
theorem dX7_weight_0 : decode cX7_weight 0 = .ok (.aload_n 0, 1) := by decide +kernel
theorem dX7_weight_1 : decode cX7_weight 1 = .ok (.invokevirtual 187, 3) := by decide +kernel
theorem dX7_weight_4 : decode cX7_weight 4 = .ok (.aload_n 0, 1) := by decide +kernel
theorem dX7_weight_5 : decode cX7_weight 5 = .ok (.invokevirtual 190, 3) := by decide +kernel
theorem dX7_weight_8 : decode cX7_weight 8 = .ok (.lconst 0, 1) := by decide +kernel
theorem dX7_weight_9 : decode cX7_weight 9 = .ok (.lstore_n 1, 1) := by decide +kernel
theorem dX7_weight_10 : decode cX7_weight 10 = .ok (.aload_n 0, 1) := by decide +kernel
theorem dX7_weight_11 : decode cX7_weight 11 = .ok (.invokevirtual 193, 3) := by decide +kernel
theorem dX7_weight_14 : decode cX7_weight 14 = .ok (.ifCond .eq 14, 3) := by decide +kernel
theorem dX7_weight_17 : decode cX7_weight 17 = .ok (.lload_n 1, 1) := by decide +kernel
theorem dX7_weight_18 : decode cX7_weight 18 = .ok (.aload_n 0, 1) := by decide +kernel
theorem dX7_weight_19 : decode cX7_weight 19 = .ok (.invokevirtual 196, 3) := by decide +kernel
theorem dX7_weight_22 : decode cX7_weight 22 = .ok (.i2l, 1) := by decide +kernel
theorem dX7_weight_23 : decode cX7_weight 23 = .ok (.ladd, 1) := by decide +kernel
theorem dX7_weight_24 : decode cX7_weight 24 = .ok (.lstore_n 1, 1) := by decide +kernel
theorem dX7_weight_25 : decode cX7_weight 25 = .ok (.goto (-15), 3) := by decide +kernel
theorem dX7_weight_28 : decode cX7_weight 28 = .ok (.lload_n 1, 1) := by decide +kernel
theorem dX7_weight_29 : decode cX7_weight 29 = .ok (.lreturn, 1) := by decide +kernel
set_option maxRecDepth 20000 in
theorem ggX7_finds_X7_asTold : GoodIn wsX7_finds wsX7_asTold := goodIn_r _ [5, 6, 7, 8, 54, 55, 56, 57, 58, 59, 60, 61, 62, 63, 64, 65, 66, 67, 68, 69, 70, 71, 72, 73, 74, 75, 76, 77, 78, 79, 80, 81, 82, 83, 84, 85, 86, 87, 88, 89, 90, 91, 92, 93, 94, 95] (by decide +kernel) (by decide +kernel)
set_option maxRecDepth 20000 in
theorem gX7_finds_X7_asTold : GoodIn wsX7_finds (wsV RX7 187 RX7 yX7_asTold wsX7_asTold) := goodIn_app (goodIn_of _ (by decide +kernel)) ggX7_finds_X7_asTold
set_option maxRecDepth 20000 in
theorem ggX7_finds_X7_begins : GoodIn wsX7_finds wsX7_begins := goodIn_r _ [12, 13, 14, 15, 16, 17, 18, 19, 20, 54, 55, 56, 57, 58, 59, 60, 61, 62, 63, 64, 65, 66, 67, 68, 69, 70, 71, 72, 73, 74, 75, 76, 77, 78, 79, 80, 81, 82, 83, 84, 85, 86, 87, 88, 89, 90, 91, 92, 93, 94, 95] (by decide +kernel) (by decide +kernel)
set_option maxRecDepth 20000 in
theorem gX7_finds_X7_begins : GoodIn wsX7_finds (wsV RX7 190 RX7 yX7_begins wsX7_begins) := goodIn_app (goodIn_of _ (by decide +kernel)) ggX7_finds_X7_begins
set_option maxRecDepth 20000 in
theorem ggX7_finds_X7_goesOn : GoodIn wsX7_finds wsX7_goesOn := goodIn_r _ [24, 13, 16, 14, 25, 26, 27, 4, 28, 17, 18, 29, 30, 19, 15, 8, 20, 31, 32, 33, 34, 35, 36, 37, 38, 39, 40, 41, 42, 43, 44, 45, 46, 47, 6, 7, 48, 49, 50, 51, 52, 53, 54, 55, 56, 57, 58, 59, 60, 61, 62, 63, 64, 65, 66, 67, 68, 69, 70, 71, 72, 73, 74, 75, 76, 77, 78, 79, 80, 81, 82, 83, 84, 85, 86, 87, 88, 89, 90, 91, 92, 93, 94, 95] (by decide +kernel) (by decide +kernel)
set_option maxRecDepth 20000 in
theorem gX7_finds_X7_goesOn : GoodIn wsX7_finds (wsV RX7 193 RX7 yX7_goesOn wsX7_goesOn) := goodIn_app (goodIn_of _ (by decide +kernel)) ggX7_finds_X7_goesOn
theorem dX7_finds_0 : decode cX7_finds 0 = .ok (.aload_n 0, 1) := by decide +kernel
theorem dX7_finds_1 : decode cX7_finds 1 = .ok (.invokevirtual 187, 3) := by decide +kernel
theorem dX7_finds_4 : decode cX7_finds 4 = .ok (.aload_n 0, 1) := by decide +kernel
theorem dX7_finds_5 : decode cX7_finds 5 = .ok (.invokevirtual 190, 3) := by decide +kernel
theorem dX7_finds_8 : decode cX7_finds 8 = .ok (.aload_n 0, 1) := by decide +kernel
theorem dX7_finds_9 : decode cX7_finds 9 = .ok (.invokevirtual 193, 3) := by decide +kernel
theorem dX7_finds_12 : decode cX7_finds 12 = .ok (.istore_n 2, 1) := by decide +kernel
theorem dX7_finds_13 : decode cX7_finds 13 = .ok (.iconst 0, 1) := by decide +kernel
theorem dX7_finds_14 : decode cX7_finds 14 = .ok (.istore_n 3, 1) := by decide +kernel
theorem dX7_finds_15 : decode cX7_finds 15 = .ok (.iload_n 3, 1) := by decide +kernel
theorem dX7_finds_16 : decode cX7_finds 16 = .ok (.iload_n 1, 1) := by decide +kernel
theorem dX7_finds_17 : decode cX7_finds 17 = .ok (.if_icmp .ge 18, 3) := by decide +kernel
theorem dX7_finds_20 : decode cX7_finds 20 = .ok (.iload_n 2, 1) := by decide +kernel
theorem dX7_finds_21 : decode cX7_finds 21 = .ok (.ifCond .eq 14, 3) := by decide +kernel
theorem dX7_finds_24 : decode cX7_finds 24 = .ok (.aload_n 0, 1) := by decide +kernel
theorem dX7_finds_25 : decode cX7_finds 25 = .ok (.invokevirtual 193, 3) := by decide +kernel
theorem dX7_finds_28 : decode cX7_finds 28 = .ok (.istore_n 2, 1) := by decide +kernel
theorem dX7_finds_29 : decode cX7_finds 29 = .ok (.iinc 3 1, 3) := by decide +kernel
theorem dX7_finds_32 : decode cX7_finds 32 = .ok (.goto (-17), 3) := by decide +kernel
theorem dX7_finds_35 : decode cX7_finds 35 = .ok (.iload_n 2, 1) := by decide +kernel
theorem dX7_finds_36 : decode cX7_finds 36 = .ok (.ireturn, 1) := by decide +kernel
set_option maxRecDepth 20000 in
theorem ggX7_way_X7_in : GoodIn wsX7_way wsX7_in := goodIn_r _ [9] (by decide +kernel) (by decide +kernel)
set_option maxRecDepth 20000 in
theorem gX7_way_X7_in : GoodIn wsX7_way (va_wsS RX7 100 yX7_in wsX7_in) := goodIn_app (goodIn_of _ (by decide +kernel)) ggX7_way_X7_in
set_option maxRecDepth 20000 in
theorem ggX7_way_X7_finds : GoodIn wsX7_way wsX7_finds := goodIn_r _ [13, 14, 15, 16, 8, 17, 18, 19, 20, 21, 22, 23, 24, 25, 26, 5, 2, 3, 4, 27, 28, 29, 30, 31, 32, 33, 34, 35, 36, 37, 38, 39, 40, 41, 42, 43, 44, 45, 46, 47, 48, 6, 7, 9, 49, 50, 51, 52, 53, 54, 55, 56, 57, 58, 63, 64, 65, 66, 67, 68, 69, 70, 71, 72, 73, 74, 75, 76, 77, 78, 79, 80, 81, 82, 83, 84, 85, 86, 87, 88, 89, 90, 91, 92, 93, 94, 95, 96, 97, 98, 99, 100, 101, 102, 103, 104] (by decide +kernel) (by decide +kernel)
set_option maxRecDepth 20000 in
theorem gX7_way_X7_finds : GoodIn wsX7_way (wsV RX7 201 RX7 yX7_finds wsX7_finds) := goodIn_app (goodIn_of _ (by decide +kernel)) ggX7_way_X7_finds
set_option maxRecDepth 20000 in
theorem ggX7_way_X7_heavy : GoodIn wsX7_way wsX7_heavy := goodIn_r _ [62, 2, 3, 4, 28, 63, 64, 65, 66, 67, 68, 69, 70, 71, 72, 73, 74, 75, 76, 77, 78, 79, 80, 81, 82, 83, 84, 85, 86, 87, 88, 89, 90, 91, 92, 93, 94, 95, 96, 97, 98, 99, 100, 101, 102, 103, 104] (by decide +kernel) (by decide +kernel)
set_option maxRecDepth 20000 in
theorem gX7_way_X7_heavy : GoodIn wsX7_way (wsV RX7 196 RX7 yX7_heavy wsX7_heavy) := goodIn_app (goodIn_of _ (by decide +kernel)) ggX7_way_X7_heavy
theorem dX7_way_0 : decode cX7_way 0 = .ok (.iload_n 1, 1) := by decide +kernel
theorem dX7_way_1 : decode cX7_way 1 = .ok (.ifCond .lt 21, 3) := by decide +kernel
theorem dX7_way_4 : decode cX7_way 4 = .ok (.iload_n 2, 1) := by decide +kernel
theorem dX7_way_5 : decode cX7_way 5 = .ok (.i2l, 1) := by decide +kernel
theorem dX7_way_6 : decode cX7_way 6 = .ok (.ldc2_w 199, 3) := by decide +kernel
theorem dX7_way_9 : decode cX7_way 9 = .ok (.aload_n 0, 1) := by decide +kernel
theorem dX7_way_10 : decode cX7_way 10 = .ok (.getfield 7, 3) := by decide +kernel
theorem dX7_way_13 : decode cX7_way 13 = .ok (.iconst 2, 1) := by decide +kernel
theorem dX7_way_14 : decode cX7_way 14 = .ok (.iaload, 1) := by decide +kernel
theorem dX7_way_15 : decode cX7_way 15 = .ok (.i2l, 1) := by decide +kernel
theorem dX7_way_16 : decode cX7_way 16 = .ok (.invokestatic 100, 3) := by decide +kernel
theorem dX7_way_19 : decode cX7_way 19 = .ok (.ifCond .ne 5, 3) := by decide +kernel
theorem dX7_way_22 : decode cX7_way 22 = .ok (.iconst (-1), 1) := by decide +kernel
theorem dX7_way_23 : decode cX7_way 23 = .ok (.ireturn, 1) := by decide +kernel
theorem dX7_way_24 : decode cX7_way 24 = .ok (.aload_n 0, 1) := by decide +kernel
theorem dX7_way_25 : decode cX7_way 25 = .ok (.iload_n 1, 1) := by decide +kernel
theorem dX7_way_26 : decode cX7_way 26 = .ok (.invokevirtual 201, 3) := by decide +kernel
theorem dX7_way_29 : decode cX7_way 29 = .ok (.ifCond .ne 6, 3) := by decide +kernel
theorem dX7_way_32 : decode cX7_way 32 = .ok (.bipush (-4), 2) := by decide +kernel
theorem dX7_way_34 : decode cX7_way 34 = .ok (.ireturn, 1) := by decide +kernel
theorem dX7_way_35 : decode cX7_way 35 = .ok (.iload_n 2, 1) := by decide +kernel
theorem dX7_way_36 : decode cX7_way 36 = .ok (.iconst (-1), 1) := by decide +kernel
theorem dX7_way_37 : decode cX7_way 37 = .ok (.if_icmp .ne 10, 3) := by decide +kernel
theorem dX7_way_40 : decode cX7_way 40 = .ok (.aload_n 0, 1) := by decide +kernel
theorem dX7_way_41 : decode cX7_way 41 = .ok (.invokevirtual 196, 3) := by decide +kernel
theorem dX7_way_44 : decode cX7_way 44 = .ok (.goto 49, 3) := by decide +kernel
theorem dX7_way_47 : decode cX7_way 47 = .ok (.iload_n 2, 1) := by decide +kernel
theorem dX7_way_48 : decode cX7_way 48 = .ok (.bipush (-2), 2) := by decide +kernel
theorem dX7_way_50 : decode cX7_way 50 = .ok (.if_icmp .ne 17, 3) := by decide +kernel
theorem dX7_way_53 : decode cX7_way 53 = .ok (.aload_n 0, 1) := by decide +kernel
theorem dX7_way_54 : decode cX7_way 54 = .ok (.getfield 52, 3) := by decide +kernel
theorem dX7_way_57 : decode cX7_way 57 = .ok (.aload_n 0, 1) := by decide +kernel
theorem dX7_way_58 : decode cX7_way 58 = .ok (.getfield 7, 3) := by decide +kernel
theorem dX7_way_61 : decode cX7_way 61 = .ok (.iconst 2, 1) := by decide +kernel
theorem dX7_way_62 : decode cX7_way 62 = .ok (.iaload, 1) := by decide +kernel
theorem dX7_way_63 : decode cX7_way 63 = .ok (.iaload, 1) := by decide +kernel
theorem dX7_way_64 : decode cX7_way 64 = .ok (.goto 29, 3) := by decide +kernel
theorem dX7_way_67 : decode cX7_way 67 = .ok (.iload_n 2, 1) := by decide +kernel
theorem dX7_way_68 : decode cX7_way 68 = .ok (.bipush (-3), 2) := by decide +kernel
theorem dX7_way_70 : decode cX7_way 70 = .ok (.if_icmp .ne 17, 3) := by decide +kernel
theorem dX7_way_73 : decode cX7_way 73 = .ok (.aload_n 0, 1) := by decide +kernel
theorem dX7_way_74 : decode cX7_way 74 = .ok (.getfield 55, 3) := by decide +kernel
theorem dX7_way_77 : decode cX7_way 77 = .ok (.aload_n 0, 1) := by decide +kernel
theorem dX7_way_78 : decode cX7_way 78 = .ok (.getfield 7, 3) := by decide +kernel
theorem dX7_way_81 : decode cX7_way 81 = .ok (.iconst 2, 1) := by decide +kernel
theorem dX7_way_82 : decode cX7_way 82 = .ok (.iaload, 1) := by decide +kernel
theorem dX7_way_83 : decode cX7_way 83 = .ok (.iaload, 1) := by decide +kernel
theorem dX7_way_84 : decode cX7_way 84 = .ok (.goto 9, 3) := by decide +kernel
theorem dX7_way_87 : decode cX7_way 87 = .ok (.aload_n 0, 1) := by decide +kernel
theorem dX7_way_88 : decode cX7_way 88 = .ok (.getfield 43, 3) := by decide +kernel
theorem dX7_way_91 : decode cX7_way 91 = .ok (.iload_n 2, 1) := by decide +kernel
theorem dX7_way_92 : decode cX7_way 92 = .ok (.iaload, 1) := by decide +kernel
theorem dX7_way_93 : decode cX7_way 93 = .ok (.ireturn, 1) := by decide +kernel
set_option maxRecDepth 20000 in
theorem ggX7_may_X7_in : GoodIn wsX7_may wsX7_in := goodIn_r _ [7] (by decide +kernel) (by decide +kernel)
set_option maxRecDepth 20000 in
theorem gX7_may_X7_in : GoodIn wsX7_may (va_wsS RX7 100 yX7_in wsX7_in) := goodIn_app (goodIn_of _ (by decide +kernel)) ggX7_may_X7_in
set_option maxRecDepth 20000 in
theorem ggX7_may_X7_asTold : GoodIn wsX7_may wsX7_asTold := goodIn_r _ [11, 12, 13, 14, 54, 55, 56, 57, 58, 59, 60, 61, 62, 63, 64, 65, 66, 67, 68, 69, 70, 71, 72, 73, 74, 75, 76, 77, 78, 79, 80, 81, 82, 83, 84, 85, 86, 87, 88, 89, 90, 91, 92, 93, 94, 95] (by decide +kernel) (by decide +kernel)
set_option maxRecDepth 20000 in
theorem gX7_may_X7_asTold : GoodIn wsX7_may (wsV RX7 187 RX7 yX7_asTold wsX7_asTold) := goodIn_app (goodIn_of _ (by decide +kernel)) ggX7_may_X7_asTold
set_option maxRecDepth 20000 in
theorem ggX7_may_X7_begins : GoodIn wsX7_may wsX7_begins := goodIn_r _ [18, 19, 20, 3, 1, 21, 22, 23, 24, 54, 55, 56, 57, 58, 59, 60, 61, 62, 63, 64, 65, 66, 67, 68, 69, 70, 71, 72, 73, 74, 75, 76, 77, 78, 79, 80, 81, 82, 83, 84, 85, 86, 87, 88, 89, 90, 91, 92, 93, 94, 95] (by decide +kernel) (by decide +kernel)
set_option maxRecDepth 20000 in
theorem gX7_may_X7_begins : GoodIn wsX7_may (wsV RX7 190 RX7 yX7_begins wsX7_begins) := goodIn_app (goodIn_of _ (by decide +kernel)) ggX7_may_X7_begins
set_option maxRecDepth 20000 in
theorem ggX7_may_X7_goesOn : GoodIn wsX7_may wsX7_goesOn := goodIn_r _ [28, 19, 1, 20, 29, 30, 31, 6, 32, 21, 22, 33, 34, 23, 3, 14, 24, 35, 36, 37, 2, 38, 39, 40, 41, 42, 43, 4, 5, 7, 44, 45, 46, 47, 12, 13, 48, 49, 50, 51, 52, 53, 54, 55, 56, 57, 58, 59, 60, 61, 62, 63, 64, 65, 66, 67, 68, 69, 70, 71, 72, 73, 74, 75, 76, 77, 78, 79, 80, 81, 82, 83, 84, 85, 86, 87, 88, 89, 90, 91, 92, 93, 94, 95] (by decide +kernel) (by decide +kernel)
set_option maxRecDepth 20000 in
theorem gX7_may_X7_goesOn : GoodIn wsX7_may (wsV RX7 193 RX7 yX7_goesOn wsX7_goesOn) := goodIn_app (goodIn_of _ (by decide +kernel)) ggX7_may_X7_goesOn
theorem dX7_may_0 : decode cX7_may 0 = .ok (.iload_n 1, 1) := by decide +kernel
theorem dX7_may_1 : decode cX7_may 1 = .ok (.i2l, 1) := by decide +kernel
theorem dX7_may_2 : decode cX7_may 2 = .ok (.lconst 0, 1) := by decide +kernel
theorem dX7_may_3 : decode cX7_may 3 = .ok (.aload_n 0, 1) := by decide +kernel
theorem dX7_may_4 : decode cX7_may 4 = .ok (.getfield 7, 3) := by decide +kernel
theorem dX7_may_7 : decode cX7_may 7 = .ok (.iconst 2, 1) := by decide +kernel
theorem dX7_may_8 : decode cX7_may 8 = .ok (.iaload, 1) := by decide +kernel
theorem dX7_may_9 : decode cX7_may 9 = .ok (.i2l, 1) := by decide +kernel
theorem dX7_may_10 : decode cX7_may 10 = .ok (.invokestatic 100, 3) := by decide +kernel
theorem dX7_may_13 : decode cX7_may 13 = .ok (.ifCond .eq 15, 3) := by decide +kernel
theorem dX7_may_16 : decode cX7_may 16 = .ok (.iload_n 2, 1) := by decide +kernel
theorem dX7_may_17 : decode cX7_may 17 = .ok (.i2l, 1) := by decide +kernel
theorem dX7_may_18 : decode cX7_may 18 = .ok (.lconst 0, 1) := by decide +kernel
theorem dX7_may_19 : decode cX7_may 19 = .ok (.ldc2_w 111, 3) := by decide +kernel
theorem dX7_may_22 : decode cX7_may 22 = .ok (.invokestatic 100, 3) := by decide +kernel
theorem dX7_may_25 : decode cX7_may 25 = .ok (.ifCond .ne 5, 3) := by decide +kernel
theorem dX7_may_28 : decode cX7_may 28 = .ok (.iconst (-1), 1) := by decide +kernel
theorem dX7_may_29 : decode cX7_may 29 = .ok (.ireturn, 1) := by decide +kernel
theorem dX7_may_30 : decode cX7_may 30 = .ok (.aload_n 0, 1) := by decide +kernel
theorem dX7_may_31 : decode cX7_may 31 = .ok (.invokevirtual 187, 3) := by decide +kernel
theorem dX7_may_34 : decode cX7_may 34 = .ok (.aload_n 0, 1) := by decide +kernel
theorem dX7_may_35 : decode cX7_may 35 = .ok (.invokevirtual 190, 3) := by decide +kernel
theorem dX7_may_38 : decode cX7_may 38 = .ok (.iconst 0, 1) := by decide +kernel
theorem dX7_may_39 : decode cX7_may 39 = .ok (.istore_n 3, 1) := by decide +kernel
theorem dX7_may_40 : decode cX7_may 40 = .ok (.aload_n 0, 1) := by decide +kernel
theorem dX7_may_41 : decode cX7_may 41 = .ok (.invokevirtual 193, 3) := by decide +kernel
theorem dX7_may_44 : decode cX7_may 44 = .ok (.ifCond .eq 37, 3) := by decide +kernel
theorem dX7_may_47 : decode cX7_may 47 = .ok (.iload_n 3, 1) := by decide +kernel
theorem dX7_may_48 : decode cX7_may 48 = .ok (.aload_n 0, 1) := by decide +kernel
theorem dX7_may_49 : decode cX7_may 49 = .ok (.getfield 43, 3) := by decide +kernel
theorem dX7_may_52 : decode cX7_may 52 = .ok (.iload_n 1, 1) := by decide +kernel
theorem dX7_may_53 : decode cX7_may 53 = .ok (.iaload, 1) := by decide +kernel
theorem dX7_may_54 : decode cX7_may 54 = .ok (.bipush 10, 2) := by decide +kernel
theorem dX7_may_56 : decode cX7_may 56 = .ok (.idiv, 1) := by decide +kernel
theorem dX7_may_57 : decode cX7_may 57 = .ok (.iload_n 2, 1) := by decide +kernel
theorem dX7_may_58 : decode cX7_may 58 = .ok (.if_icmp .ne 17, 3) := by decide +kernel
theorem dX7_may_61 : decode cX7_may 61 = .ok (.iconst 1, 1) := by decide +kernel
theorem dX7_may_62 : decode cX7_may 62 = .ok (.aload_n 0, 1) := by decide +kernel
theorem dX7_may_63 : decode cX7_may 63 = .ok (.getfield 43, 3) := by decide +kernel
theorem dX7_may_66 : decode cX7_may 66 = .ok (.iload_n 1, 1) := by decide +kernel
theorem dX7_may_67 : decode cX7_may 67 = .ok (.iaload, 1) := by decide +kernel
theorem dX7_may_68 : decode cX7_may 68 = .ok (.bipush 10, 2) := by decide +kernel
theorem dX7_may_70 : decode cX7_may 70 = .ok (.irem, 1) := by decide +kernel
theorem dX7_may_71 : decode cX7_may 71 = .ok (.ishl, 1) := by decide +kernel
theorem dX7_may_72 : decode cX7_may 72 = .ok (.goto 4, 3) := by decide +kernel
theorem dX7_may_75 : decode cX7_may 75 = .ok (.iconst 0, 1) := by decide +kernel
theorem dX7_may_76 : decode cX7_may 76 = .ok (.ior, 1) := by decide +kernel
theorem dX7_may_77 : decode cX7_may 77 = .ok (.istore_n 3, 1) := by decide +kernel
theorem dX7_may_78 : decode cX7_may 78 = .ok (.goto (-38), 3) := by decide +kernel
theorem dX7_may_81 : decode cX7_may 81 = .ok (.iload_n 3, 1) := by decide +kernel
theorem dX7_may_82 : decode cX7_may 82 = .ok (.ireturn, 1) := by decide +kernel
set_option maxRecDepth 20000 in
theorem ggX7_cell_X7_in : GoodIn wsX7_cell wsX7_in := goodIn_r _ [8] (by decide +kernel) (by decide +kernel)
set_option maxRecDepth 20000 in
theorem gX7_cell_X7_in : GoodIn wsX7_cell (va_wsS RX7 100 yX7_in wsX7_in) := goodIn_app (goodIn_of _ (by decide +kernel)) ggX7_cell_X7_in
set_option maxRecDepth 20000 in
theorem ggX7_cell_X7_isCell : GoodIn wsX7_cell wsX7_isCell := goodIn_r _ [11, 12, 5, 6, 7, 8] (by decide +kernel) (by decide +kernel)
set_option maxRecDepth 20000 in
theorem gX7_cell_X7_isCell : GoodIn wsX7_cell (va_wsS RX7 115 yX7_isCell wsX7_isCell) := goodIn_app (goodIn_of _ (by decide +kernel)) ggX7_cell_X7_isCell
theorem dX7_cell_0 : decode cX7_cell 0 = .ok (.iload_n 1, 1) := by decide +kernel
theorem dX7_cell_1 : decode cX7_cell 1 = .ok (.i2l, 1) := by decide +kernel
theorem dX7_cell_2 : decode cX7_cell 2 = .ok (.lconst 0, 1) := by decide +kernel
theorem dX7_cell_3 : decode cX7_cell 3 = .ok (.lconst 1, 1) := by decide +kernel
theorem dX7_cell_4 : decode cX7_cell 4 = .ok (.invokestatic 100, 3) := by decide +kernel
theorem dX7_cell_7 : decode cX7_cell 7 = .ok (.ifCond .eq 43, 3) := by decide +kernel
theorem dX7_cell_10 : decode cX7_cell 10 = .ok (.iload_n 2, 1) := by decide +kernel
theorem dX7_cell_11 : decode cX7_cell 11 = .ok (.invokestatic 115, 3) := by decide +kernel
theorem dX7_cell_14 : decode cX7_cell 14 = .ok (.ifCond .eq 36, 3) := by decide +kernel
theorem dX7_cell_17 : decode cX7_cell 17 = .ok (.iload_n 3, 1) := by decide +kernel
theorem dX7_cell_18 : decode cX7_cell 18 = .ok (.i2l, 1) := by decide +kernel
theorem dX7_cell_19 : decode cX7_cell 19 = .ok (.lconst 0, 1) := by decide +kernel
theorem dX7_cell_20 : decode cX7_cell 20 = .ok (.lconst 1, 1) := by decide +kernel
theorem dX7_cell_21 : decode cX7_cell 21 = .ok (.invokestatic 100, 3) := by decide +kernel
theorem dX7_cell_24 : decode cX7_cell 24 = .ok (.ifCond .eq 26, 3) := by decide +kernel
theorem dX7_cell_27 : decode cX7_cell 27 = .ok (.iload 4, 2) := by decide +kernel
theorem dX7_cell_29 : decode cX7_cell 29 = .ok (.i2l, 1) := by decide +kernel
theorem dX7_cell_30 : decode cX7_cell 30 = .ok (.lconst 0, 1) := by decide +kernel
theorem dX7_cell_31 : decode cX7_cell 31 = .ok (.iload_n 3, 1) := by decide +kernel
theorem dX7_cell_32 : decode cX7_cell 32 = .ok (.ifCond .ne 9, 3) := by decide +kernel
theorem dX7_cell_35 : decode cX7_cell 35 = .ok (.ldc2_w 130, 3) := by decide +kernel
theorem dX7_cell_38 : decode cX7_cell 38 = .ok (.goto 6, 3) := by decide +kernel
theorem dX7_cell_41 : decode cX7_cell 41 = .ok (.ldc2_w 111, 3) := by decide +kernel
theorem dX7_cell_44 : decode cX7_cell 44 = .ok (.invokestatic 100, 3) := by decide +kernel
theorem dX7_cell_47 : decode cX7_cell 47 = .ok (.ifCond .ne 5, 3) := by decide +kernel
theorem dX7_cell_50 : decode cX7_cell 50 = .ok (.iconst (-1), 1) := by decide +kernel
theorem dX7_cell_51 : decode cX7_cell 51 = .ok (.ireturn, 1) := by decide +kernel
theorem dX7_cell_52 : decode cX7_cell 52 = .ok (.bipush 100, 2) := by decide +kernel
theorem dX7_cell_54 : decode cX7_cell 54 = .ok (.iload_n 1, 1) := by decide +kernel
theorem dX7_cell_55 : decode cX7_cell 55 = .ok (.imul, 1) := by decide +kernel
theorem dX7_cell_56 : decode cX7_cell 56 = .ok (.iload_n 2, 1) := by decide +kernel
theorem dX7_cell_57 : decode cX7_cell 57 = .ok (.iadd, 1) := by decide +kernel
theorem dX7_cell_58 : decode cX7_cell 58 = .ok (.istore 5, 2) := by decide +kernel
theorem dX7_cell_60 : decode cX7_cell 60 = .ok (.iload_n 3, 1) := by decide +kernel
theorem dX7_cell_61 : decode cX7_cell 61 = .ok (.ifCond .ne 13, 3) := by decide +kernel
theorem dX7_cell_64 : decode cX7_cell 64 = .ok (.aload_n 0, 1) := by decide +kernel
theorem dX7_cell_65 : decode cX7_cell 65 = .ok (.getfield 19, 3) := by decide +kernel
theorem dX7_cell_68 : decode cX7_cell 68 = .ok (.iload 5, 2) := by decide +kernel
theorem dX7_cell_70 : decode cX7_cell 70 = .ok (.iaload, 1) := by decide +kernel
theorem dX7_cell_71 : decode cX7_cell 71 = .ok (.goto 10, 3) := by decide +kernel
theorem dX7_cell_74 : decode cX7_cell 74 = .ok (.aload_n 0, 1) := by decide +kernel
theorem dX7_cell_75 : decode cX7_cell 75 = .ok (.getfield 22, 3) := by decide +kernel
theorem dX7_cell_78 : decode cX7_cell 78 = .ok (.iload 5, 2) := by decide +kernel
theorem dX7_cell_80 : decode cX7_cell 80 = .ok (.iaload, 1) := by decide +kernel
theorem dX7_cell_81 : decode cX7_cell 81 = .ok (.istore 6, 2) := by decide +kernel
theorem dX7_cell_83 : decode cX7_cell 83 = .ok (.iload_n 3, 1) := by decide +kernel
theorem dX7_cell_84 : decode cX7_cell 84 = .ok (.ifCond .ne 15, 3) := by decide +kernel
theorem dX7_cell_87 : decode cX7_cell 87 = .ok (.aload_n 0, 1) := by decide +kernel
theorem dX7_cell_88 : decode cX7_cell 88 = .ok (.getfield 19, 3) := by decide +kernel
theorem dX7_cell_91 : decode cX7_cell 91 = .ok (.iload 5, 2) := by decide +kernel
theorem dX7_cell_93 : decode cX7_cell 93 = .ok (.iload 4, 2) := by decide +kernel
theorem dX7_cell_95 : decode cX7_cell 95 = .ok (.iastore, 1) := by decide +kernel
theorem dX7_cell_96 : decode cX7_cell 96 = .ok (.goto 12, 3) := by decide +kernel
theorem dX7_cell_99 : decode cX7_cell 99 = .ok (.aload_n 0, 1) := by decide +kernel
theorem dX7_cell_100 : decode cX7_cell 100 = .ok (.getfield 22, 3) := by decide +kernel
theorem dX7_cell_103 : decode cX7_cell 103 = .ok (.iload 5, 2) := by decide +kernel
theorem dX7_cell_105 : decode cX7_cell 105 = .ok (.iload 4, 2) := by decide +kernel
theorem dX7_cell_107 : decode cX7_cell 107 = .ok (.iastore, 1) := by decide +kernel
theorem dX7_cell_108 : decode cX7_cell 108 = .ok (.iload 6, 2) := by decide +kernel
theorem dX7_cell_110 : decode cX7_cell 110 = .ok (.ireturn, 1) := by decide +kernel
set_option maxRecDepth 20000 in
theorem ggX7_depth_X7_isCell : GoodIn wsX7_depth wsX7_isCell := goodIn_r _ [6, 7, 8, 9, 5, 10] (by decide +kernel) (by decide +kernel)
set_option maxRecDepth 20000 in
theorem gX7_depth_X7_isCell : GoodIn wsX7_depth (va_wsS RX7 115 yX7_isCell wsX7_isCell) := goodIn_app (goodIn_of _ (by decide +kernel)) ggX7_depth_X7_isCell
set_option maxRecDepth 20000 in
theorem ggX7_depth_X7_in : GoodIn wsX7_depth wsX7_in := goodIn_r _ [10] (by decide +kernel) (by decide +kernel)
set_option maxRecDepth 20000 in
theorem gX7_depth_X7_in : GoodIn wsX7_depth (va_wsS RX7 100 yX7_in wsX7_in) := goodIn_app (goodIn_of _ (by decide +kernel)) ggX7_depth_X7_in
theorem dX7_depth_0 : decode cX7_depth 0 = .ok (.iload_n 1, 1) := by decide +kernel
theorem dX7_depth_1 : decode cX7_depth 1 = .ok (.invokestatic 115, 3) := by decide +kernel
theorem dX7_depth_4 : decode cX7_depth 4 = .ok (.ifCond .eq 15, 3) := by decide +kernel
theorem dX7_depth_7 : decode cX7_depth 7 = .ok (.iload_n 2, 1) := by decide +kernel
theorem dX7_depth_8 : decode cX7_depth 8 = .ok (.i2l, 1) := by decide +kernel
theorem dX7_depth_9 : decode cX7_depth 9 = .ok (.lconst 1, 1) := by decide +kernel
theorem dX7_depth_10 : decode cX7_depth 10 = .ok (.ldc2_w 111, 3) := by decide +kernel
theorem dX7_depth_13 : decode cX7_depth 13 = .ok (.invokestatic 100, 3) := by decide +kernel
theorem dX7_depth_16 : decode cX7_depth 16 = .ok (.ifCond .ne 5, 3) := by decide +kernel
theorem dX7_depth_19 : decode cX7_depth 19 = .ok (.iconst (-1), 1) := by decide +kernel
theorem dX7_depth_20 : decode cX7_depth 20 = .ok (.ireturn, 1) := by decide +kernel
theorem dX7_depth_21 : decode cX7_depth 21 = .ok (.aload_n 0, 1) := by decide +kernel
theorem dX7_depth_22 : decode cX7_depth 22 = .ok (.getfield 25, 3) := by decide +kernel
theorem dX7_depth_25 : decode cX7_depth 25 = .ok (.iload_n 1, 1) := by decide +kernel
theorem dX7_depth_26 : decode cX7_depth 26 = .ok (.iaload, 1) := by decide +kernel
theorem dX7_depth_27 : decode cX7_depth 27 = .ok (.istore_n 3, 1) := by decide +kernel
theorem dX7_depth_28 : decode cX7_depth 28 = .ok (.aload_n 0, 1) := by decide +kernel
theorem dX7_depth_29 : decode cX7_depth 29 = .ok (.getfield 25, 3) := by decide +kernel
theorem dX7_depth_32 : decode cX7_depth 32 = .ok (.iload_n 1, 1) := by decide +kernel
theorem dX7_depth_33 : decode cX7_depth 33 = .ok (.iload_n 2, 1) := by decide +kernel
theorem dX7_depth_34 : decode cX7_depth 34 = .ok (.iastore, 1) := by decide +kernel
theorem dX7_depth_35 : decode cX7_depth 35 = .ok (.iload_n 3, 1) := by decide +kernel
theorem dX7_depth_36 : decode cX7_depth 36 = .ok (.ireturn, 1) := by decide +kernel
set_option maxRecDepth 20000 in
theorem ggX7_piece_X7_isCell : GoodIn wsX7_piece wsX7_isCell := goodIn_r _ [8, 9, 10, 11, 7, 12] (by decide +kernel) (by decide +kernel)
set_option maxRecDepth 20000 in
theorem gX7_piece_X7_isCell : GoodIn wsX7_piece (va_wsS RX7 115 yX7_isCell wsX7_isCell) := goodIn_app (goodIn_of _ (by decide +kernel)) ggX7_piece_X7_isCell
set_option maxRecDepth 20000 in
theorem ggX7_piece_X7_in : GoodIn wsX7_piece wsX7_in := goodIn_r _ [12] (by decide +kernel) (by decide +kernel)
set_option maxRecDepth 20000 in
theorem gX7_piece_X7_in : GoodIn wsX7_piece (va_wsS RX7 100 yX7_in wsX7_in) := goodIn_app (goodIn_of _ (by decide +kernel)) ggX7_piece_X7_in
theorem dX7_piece_0 : decode cX7_piece 0 = .ok (.iload_n 1, 1) := by decide +kernel
theorem dX7_piece_1 : decode cX7_piece 1 = .ok (.invokestatic 115, 3) := by decide +kernel
theorem dX7_piece_4 : decode cX7_piece 4 = .ok (.ifCond .eq 50, 3) := by decide +kernel
theorem dX7_piece_7 : decode cX7_piece 7 = .ok (.iload_n 2, 1) := by decide +kernel
theorem dX7_piece_8 : decode cX7_piece 8 = .ok (.i2l, 1) := by decide +kernel
theorem dX7_piece_9 : decode cX7_piece 9 = .ok (.lconst 1, 1) := by decide +kernel
theorem dX7_piece_10 : decode cX7_piece 10 = .ok (.ldc2_w 204, 3) := by decide +kernel
theorem dX7_piece_13 : decode cX7_piece 13 = .ok (.invokestatic 100, 3) := by decide +kernel
theorem dX7_piece_16 : decode cX7_piece 16 = .ok (.ifCond .eq 38, 3) := by decide +kernel
theorem dX7_piece_19 : decode cX7_piece 19 = .ok (.iload_n 3, 1) := by decide +kernel
theorem dX7_piece_20 : decode cX7_piece 20 = .ok (.i2l, 1) := by decide +kernel
theorem dX7_piece_21 : decode cX7_piece 21 = .ok (.lconst 0, 1) := by decide +kernel
theorem dX7_piece_22 : decode cX7_piece 22 = .ok (.lconst 1, 1) := by decide +kernel
theorem dX7_piece_23 : decode cX7_piece 23 = .ok (.invokestatic 100, 3) := by decide +kernel
theorem dX7_piece_26 : decode cX7_piece 26 = .ok (.ifCond .eq 28, 3) := by decide +kernel
theorem dX7_piece_29 : decode cX7_piece 29 = .ok (.iload 4, 2) := by decide +kernel
theorem dX7_piece_31 : decode cX7_piece 31 = .ok (.i2l, 1) := by decide +kernel
theorem dX7_piece_32 : decode cX7_piece 32 = .ok (.lconst 0, 1) := by decide +kernel
theorem dX7_piece_33 : decode cX7_piece 33 = .ok (.iload_n 2, 1) := by decide +kernel
theorem dX7_piece_34 : decode cX7_piece 34 = .ok (.i2l, 1) := by decide +kernel
theorem dX7_piece_35 : decode cX7_piece 35 = .ok (.invokestatic 100, 3) := by decide +kernel
theorem dX7_piece_38 : decode cX7_piece 38 = .ok (.ifCond .eq 16, 3) := by decide +kernel
theorem dX7_piece_41 : decode cX7_piece 41 = .ok (.iload 5, 2) := by decide +kernel
theorem dX7_piece_43 : decode cX7_piece 43 = .ok (.i2l, 1) := by decide +kernel
theorem dX7_piece_44 : decode cX7_piece 44 = .ok (.lconst 0, 1) := by decide +kernel
theorem dX7_piece_45 : decode cX7_piece 45 = .ok (.ldc2_w 111, 3) := by decide +kernel
theorem dX7_piece_48 : decode cX7_piece 48 = .ok (.invokestatic 100, 3) := by decide +kernel
theorem dX7_piece_51 : decode cX7_piece 51 = .ok (.ifCond .ne 5, 3) := by decide +kernel
theorem dX7_piece_54 : decode cX7_piece 54 = .ok (.iconst (-1), 1) := by decide +kernel
theorem dX7_piece_55 : decode cX7_piece 55 = .ok (.ireturn, 1) := by decide +kernel
theorem dX7_piece_56 : decode cX7_piece 56 = .ok (.aload_n 0, 1) := by decide +kernel
theorem dX7_piece_57 : decode cX7_piece 57 = .ok (.getfield 206, 3) := by decide +kernel
theorem dX7_piece_60 : decode cX7_piece 60 = .ok (.iconst 4, 1) := by decide +kernel
theorem dX7_piece_61 : decode cX7_piece 61 = .ok (.if_icmp .ne 6, 3) := by decide +kernel
theorem dX7_piece_64 : decode cX7_piece 64 = .ok (.bipush (-3), 2) := by decide +kernel
theorem dX7_piece_66 : decode cX7_piece 66 = .ok (.ireturn, 1) := by decide +kernel
theorem dX7_piece_67 : decode cX7_piece 67 = .ok (.iconst 5, 1) := by decide +kernel
theorem dX7_piece_68 : decode cX7_piece 68 = .ok (.aload_n 0, 1) := by decide +kernel
theorem dX7_piece_69 : decode cX7_piece 69 = .ok (.getfield 206, 3) := by decide +kernel
theorem dX7_piece_72 : decode cX7_piece 72 = .ok (.imul, 1) := by decide +kernel
theorem dX7_piece_73 : decode cX7_piece 73 = .ok (.istore 6, 2) := by decide +kernel
theorem dX7_piece_75 : decode cX7_piece 75 = .ok (.aload_n 0, 1) := by decide +kernel
theorem dX7_piece_76 : decode cX7_piece 76 = .ok (.getfield 64, 3) := by decide +kernel
theorem dX7_piece_79 : decode cX7_piece 79 = .ok (.iload 6, 2) := by decide +kernel
theorem dX7_piece_81 : decode cX7_piece 81 = .ok (.iload_n 1, 1) := by decide +kernel
theorem dX7_piece_82 : decode cX7_piece 82 = .ok (.iastore, 1) := by decide +kernel
theorem dX7_piece_83 : decode cX7_piece 83 = .ok (.aload_n 0, 1) := by decide +kernel
theorem dX7_piece_84 : decode cX7_piece 84 = .ok (.getfield 64, 3) := by decide +kernel
theorem dX7_piece_87 : decode cX7_piece 87 = .ok (.iload 6, 2) := by decide +kernel
theorem dX7_piece_89 : decode cX7_piece 89 = .ok (.iconst 1, 1) := by decide +kernel
theorem dX7_piece_90 : decode cX7_piece 90 = .ok (.iadd, 1) := by decide +kernel
theorem dX7_piece_91 : decode cX7_piece 91 = .ok (.iload_n 2, 1) := by decide +kernel
theorem dX7_piece_92 : decode cX7_piece 92 = .ok (.iastore, 1) := by decide +kernel
theorem dX7_piece_93 : decode cX7_piece 93 = .ok (.aload_n 0, 1) := by decide +kernel
theorem dX7_piece_94 : decode cX7_piece 94 = .ok (.getfield 64, 3) := by decide +kernel
theorem dX7_piece_97 : decode cX7_piece 97 = .ok (.iload 6, 2) := by decide +kernel
theorem dX7_piece_99 : decode cX7_piece 99 = .ok (.iconst 2, 1) := by decide +kernel
theorem dX7_piece_100 : decode cX7_piece 100 = .ok (.iadd, 1) := by decide +kernel
theorem dX7_piece_101 : decode cX7_piece 101 = .ok (.iload_n 3, 1) := by decide +kernel
theorem dX7_piece_102 : decode cX7_piece 102 = .ok (.iastore, 1) := by decide +kernel
theorem dX7_piece_103 : decode cX7_piece 103 = .ok (.aload_n 0, 1) := by decide +kernel
theorem dX7_piece_104 : decode cX7_piece 104 = .ok (.getfield 64, 3) := by decide +kernel
theorem dX7_piece_107 : decode cX7_piece 107 = .ok (.iload 6, 2) := by decide +kernel
theorem dX7_piece_109 : decode cX7_piece 109 = .ok (.iconst 3, 1) := by decide +kernel
theorem dX7_piece_110 : decode cX7_piece 110 = .ok (.iadd, 1) := by decide +kernel
theorem dX7_piece_111 : decode cX7_piece 111 = .ok (.iload 4, 2) := by decide +kernel
theorem dX7_piece_113 : decode cX7_piece 113 = .ok (.iastore, 1) := by decide +kernel
theorem dX7_piece_114 : decode cX7_piece 114 = .ok (.aload_n 0, 1) := by decide +kernel
theorem dX7_piece_115 : decode cX7_piece 115 = .ok (.getfield 64, 3) := by decide +kernel
theorem dX7_piece_118 : decode cX7_piece 118 = .ok (.iload 6, 2) := by decide +kernel
theorem dX7_piece_120 : decode cX7_piece 120 = .ok (.iconst 4, 1) := by decide +kernel
theorem dX7_piece_121 : decode cX7_piece 121 = .ok (.iadd, 1) := by decide +kernel
theorem dX7_piece_122 : decode cX7_piece 122 = .ok (.iload 5, 2) := by decide +kernel
theorem dX7_piece_124 : decode cX7_piece 124 = .ok (.iastore, 1) := by decide +kernel
theorem dX7_piece_125 : decode cX7_piece 125 = .ok (.aload_n 0, 1) := by decide +kernel
theorem dX7_piece_126 : decode cX7_piece 126 = .ok (.dup, 1) := by decide +kernel
theorem dX7_piece_127 : decode cX7_piece 127 = .ok (.getfield 206, 3) := by decide +kernel
theorem dX7_piece_130 : decode cX7_piece 130 = .ok (.iconst 1, 1) := by decide +kernel
theorem dX7_piece_131 : decode cX7_piece 131 = .ok (.iadd, 1) := by decide +kernel
theorem dX7_piece_132 : decode cX7_piece 132 = .ok (.putfield 206, 3) := by decide +kernel
theorem dX7_piece_135 : decode cX7_piece 135 = .ok (.aload_n 0, 1) := by decide +kernel
theorem dX7_piece_136 : decode cX7_piece 136 = .ok (.getfield 206, 3) := by decide +kernel
theorem dX7_piece_139 : decode cX7_piece 139 = .ok (.iconst 1, 1) := by decide +kernel
theorem dX7_piece_140 : decode cX7_piece 140 = .ok (.isub, 1) := by decide +kernel
theorem dX7_piece_141 : decode cX7_piece 141 = .ok (.ireturn, 1) := by decide +kernel
set_option maxRecDepth 20000 in
theorem ggX7_drifted_X7_gone : GoodIn wsX7_drifted wsX7_gone := goodIn_r _ [6, 7, 8, 9, 5, 10, 11, 12, 13, 14, 15, 16] (by decide +kernel) (by decide +kernel)
set_option maxRecDepth 20000 in
theorem gX7_drifted_X7_gone : GoodIn wsX7_drifted (va_wsS RX7 173 yX7_gone wsX7_gone) := goodIn_app (goodIn_of _ (by decide +kernel)) ggX7_drifted_X7_gone
theorem dX7_drifted_0 : decode cX7_drifted 0 = .ok (.aload_n 0, 1) := by decide +kernel
theorem dX7_drifted_1 : decode cX7_drifted 1 = .ok (.getfield 19, 3) := by decide +kernel
theorem dX7_drifted_4 : decode cX7_drifted 4 = .ok (.bipush 100, 2) := by decide +kernel
theorem dX7_drifted_6 : decode cX7_drifted 6 = .ok (.iload_n 2, 1) := by decide +kernel
theorem dX7_drifted_7 : decode cX7_drifted 7 = .ok (.iconst 2, 1) := by decide +kernel
theorem dX7_drifted_8 : decode cX7_drifted 8 = .ok (.irem, 1) := by decide +kernel
theorem dX7_drifted_9 : decode cX7_drifted 9 = .ok (.imul, 1) := by decide +kernel
theorem dX7_drifted_10 : decode cX7_drifted 10 = .ok (.iload_n 1, 1) := by decide +kernel
theorem dX7_drifted_11 : decode cX7_drifted 11 = .ok (.iadd, 1) := by decide +kernel
theorem dX7_drifted_12 : decode cX7_drifted 12 = .ok (.iaload, 1) := by decide +kernel
theorem dX7_drifted_13 : decode cX7_drifted 13 = .ok (.istore 4, 2) := by decide +kernel
theorem dX7_drifted_15 : decode cX7_drifted 15 = .ok (.iload 4, 2) := by decide +kernel
theorem dX7_drifted_17 : decode cX7_drifted 17 = .ok (.bipush 8, 2) := by decide +kernel
theorem dX7_drifted_19 : decode cX7_drifted 19 = .ok (.if_icmp .ne 7, 3) := by decide +kernel
theorem dX7_drifted_22 : decode cX7_drifted 22 = .ok (.iload_n 1, 1) := by decide +kernel
theorem dX7_drifted_23 : decode cX7_drifted 23 = .ok (.goto 10, 3) := by decide +kernel
theorem dX7_drifted_26 : decode cX7_drifted 26 = .ok (.iload_n 1, 1) := by decide +kernel
theorem dX7_drifted_27 : decode cX7_drifted 27 = .ok (.iload 4, 2) := by decide +kernel
theorem dX7_drifted_29 : decode cX7_drifted 29 = .ok (.iconst 1, 1) := by decide +kernel
theorem dX7_drifted_30 : decode cX7_drifted 30 = .ok (.invokestatic 173, 3) := by decide +kernel
theorem dX7_drifted_33 : decode cX7_drifted 33 = .ok (.istore 5, 2) := by decide +kernel
theorem dX7_drifted_35 : decode cX7_drifted 35 = .ok (.iload 5, 2) := by decide +kernel
theorem dX7_drifted_37 : decode cX7_drifted 37 = .ok (.ifCond .ge 7, 3) := by decide +kernel
theorem dX7_drifted_40 : decode cX7_drifted 40 = .ok (.iload_n 1, 1) := by decide +kernel
theorem dX7_drifted_41 : decode cX7_drifted 41 = .ok (.goto 5, 3) := by decide +kernel
theorem dX7_drifted_44 : decode cX7_drifted 44 = .ok (.iload 5, 2) := by decide +kernel
theorem dX7_drifted_46 : decode cX7_drifted 46 = .ok (.istore 5, 2) := by decide +kernel
theorem dX7_drifted_48 : decode cX7_drifted 48 = .ok (.iload_n 3, 1) := by decide +kernel
theorem dX7_drifted_49 : decode cX7_drifted 49 = .ok (.ifCond .eq 15, 3) := by decide +kernel
theorem dX7_drifted_52 : decode cX7_drifted 52 = .ok (.aload_n 0, 1) := by decide +kernel
theorem dX7_drifted_53 : decode cX7_drifted 53 = .ok (.getfield 7, 3) := by decide +kernel
theorem dX7_drifted_56 : decode cX7_drifted 56 = .ok (.bipush 7, 2) := by decide +kernel
theorem dX7_drifted_58 : decode cX7_drifted 58 = .ok (.iaload, 1) := by decide +kernel
theorem dX7_drifted_59 : decode cX7_drifted 59 = .ok (.bipush 8, 2) := by decide +kernel
theorem dX7_drifted_61 : decode cX7_drifted 61 = .ok (.if_icmp .ne 8, 3) := by decide +kernel
theorem dX7_drifted_64 : decode cX7_drifted 64 = .ok (.iload 5, 2) := by decide +kernel
theorem dX7_drifted_66 : decode cX7_drifted 66 = .ok (.goto 16, 3) := by decide +kernel
theorem dX7_drifted_69 : decode cX7_drifted 69 = .ok (.iload 5, 2) := by decide +kernel
theorem dX7_drifted_71 : decode cX7_drifted 71 = .ok (.aload_n 0, 1) := by decide +kernel
theorem dX7_drifted_72 : decode cX7_drifted 72 = .ok (.getfield 7, 3) := by decide +kernel
theorem dX7_drifted_75 : decode cX7_drifted 75 = .ok (.bipush 7, 2) := by decide +kernel
theorem dX7_drifted_77 : decode cX7_drifted 77 = .ok (.iaload, 1) := by decide +kernel
theorem dX7_drifted_78 : decode cX7_drifted 78 = .ok (.iconst 1, 1) := by decide +kernel
theorem dX7_drifted_79 : decode cX7_drifted 79 = .ok (.invokestatic 173, 3) := by decide +kernel
theorem dX7_drifted_82 : decode cX7_drifted 82 = .ok (.istore 6, 2) := by decide +kernel
theorem dX7_drifted_84 : decode cX7_drifted 84 = .ok (.iload 6, 2) := by decide +kernel
theorem dX7_drifted_86 : decode cX7_drifted 86 = .ok (.ifCond .ge 8, 3) := by decide +kernel
theorem dX7_drifted_89 : decode cX7_drifted 89 = .ok (.iload 5, 2) := by decide +kernel
theorem dX7_drifted_91 : decode cX7_drifted 91 = .ok (.goto 5, 3) := by decide +kernel
theorem dX7_drifted_94 : decode cX7_drifted 94 = .ok (.iload 6, 2) := by decide +kernel
theorem dX7_drifted_96 : decode cX7_drifted 96 = .ok (.ireturn, 1) := by decide +kernel
set_option maxRecDepth 20000 in
theorem ggX7_driftTo_X7_drifted : GoodIn wsX7_driftTo wsX7_drifted := goodIn_r _ [5, 6, 7, 8, 9, 4, 10, 11, 12, 13, 14, 15, 16, 17, 18, 19, 20, 21, 22, 23, 24, 25, 26, 27, 28, 29, 30, 31, 32, 33, 34, 35, 36, 37, 38, 39, 40, 41, 42, 43, 44, 45, 46, 47, 48, 49, 50, 51, 52, 53, 54, 55, 56, 57, 58, 59, 60, 61, 62] (by decide +kernel) (by decide +kernel)
set_option maxRecDepth 20000 in
theorem gX7_driftTo_X7_drifted : GoodIn wsX7_driftTo (wsV RX7 209 RX7 yX7_drifted wsX7_drifted) := goodIn_app (goodIn_of _ (by decide +kernel)) ggX7_driftTo_X7_drifted
theorem dX7_driftTo_0 : decode cX7_driftTo 0 = .ok (.iload_n 1, 1) := by decide +kernel
theorem dX7_driftTo_1 : decode cX7_driftTo 1 = .ok (.istore 4, 2) := by decide +kernel
theorem dX7_driftTo_3 : decode cX7_driftTo 3 = .ok (.iconst 0, 1) := by decide +kernel
theorem dX7_driftTo_4 : decode cX7_driftTo 4 = .ok (.istore 5, 2) := by decide +kernel
theorem dX7_driftTo_6 : decode cX7_driftTo 6 = .ok (.iload 5, 2) := by decide +kernel
theorem dX7_driftTo_8 : decode cX7_driftTo 8 = .ok (.iload_n 2, 1) := by decide +kernel
theorem dX7_driftTo_9 : decode cX7_driftTo 9 = .ok (.if_icmp .ge 20, 3) := by decide +kernel
theorem dX7_driftTo_12 : decode cX7_driftTo 12 = .ok (.aload_n 0, 1) := by decide +kernel
theorem dX7_driftTo_13 : decode cX7_driftTo 13 = .ok (.iload 4, 2) := by decide +kernel
theorem dX7_driftTo_15 : decode cX7_driftTo 15 = .ok (.iload 5, 2) := by decide +kernel
theorem dX7_driftTo_17 : decode cX7_driftTo 17 = .ok (.iload_n 3, 1) := by decide +kernel
theorem dX7_driftTo_18 : decode cX7_driftTo 18 = .ok (.invokevirtual 209, 3) := by decide +kernel
theorem dX7_driftTo_21 : decode cX7_driftTo 21 = .ok (.istore 4, 2) := by decide +kernel
theorem dX7_driftTo_23 : decode cX7_driftTo 23 = .ok (.iinc 5 1, 3) := by decide +kernel
theorem dX7_driftTo_26 : decode cX7_driftTo 26 = .ok (.goto (-20), 3) := by decide +kernel
theorem dX7_driftTo_29 : decode cX7_driftTo 29 = .ok (.iload 4, 2) := by decide +kernel
theorem dX7_driftTo_31 : decode cX7_driftTo 31 = .ok (.ireturn, 1) := by decide +kernel
set_option maxRecDepth 20000 in
theorem ggX7_drift_X7_isCell : GoodIn wsX7_drift wsX7_isCell := goodIn_r _ [5, 6, 7, 8, 4, 9] (by decide +kernel) (by decide +kernel)
