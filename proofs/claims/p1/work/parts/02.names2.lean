theorem dX5_begin_117 : decode cX5_begin 117 = .ok (.aload_n 0, 1) := by decide +kernel
theorem dX5_begin_118 : decode cX5_begin 118 = .ok (.aload_n 1, 1) := by decide +kernel
theorem dX5_begin_119 : decode cX5_begin 119 = .ok (.getfield 87, 3) := by decide +kernel
theorem dX5_begin_122 : decode cX5_begin 122 = .ok (.iconst 5, 1) := by decide +kernel
theorem dX5_begin_123 : decode cX5_begin 123 = .ok (.iaload, 1) := by decide +kernel
theorem dX5_begin_124 : decode cX5_begin 124 = .ok (.putfield 35, 3) := by decide +kernel
theorem dX5_begin_127 : decode cX5_begin 127 = .ok (.aload_n 0, 1) := by decide +kernel
theorem dX5_begin_128 : decode cX5_begin 128 = .ok (.aload_n 1, 1) := by decide +kernel
theorem dX5_begin_129 : decode cX5_begin 129 = .ok (.getfield 87, 3) := by decide +kernel
theorem dX5_begin_132 : decode cX5_begin 132 = .ok (.bipush 6, 2) := by decide +kernel
theorem dX5_begin_134 : decode cX5_begin 134 = .ok (.iaload, 1) := by decide +kernel
theorem dX5_begin_135 : decode cX5_begin 135 = .ok (.putfield 38, 3) := by decide +kernel
theorem dX5_begin_138 : decode cX5_begin 138 = .ok (.return_, 1) := by decide +kernel
theorem dX5_leaveOutRings_0 : decode cX5_leaveOutRings 0 = .ok (.iconst 0, 1) := by decide +kernel
theorem dX5_leaveOutRings_1 : decode cX5_leaveOutRings 1 = .ok (.istore_n 1, 1) := by decide +kernel
theorem dX5_leaveOutRings_2 : decode cX5_leaveOutRings 2 = .ok (.iload_n 1, 1) := by decide +kernel
theorem dX5_leaveOutRings_3 : decode cX5_leaveOutRings 3 = .ok (.bipush 6, 2) := by decide +kernel
theorem dX5_leaveOutRings_5 : decode cX5_leaveOutRings 5 = .ok (.if_icmp .gt 23, 3) := by decide +kernel
theorem dX5_leaveOutRings_8 : decode cX5_leaveOutRings 8 = .ok (.aload_n 0, 1) := by decide +kernel
theorem dX5_leaveOutRings_9 : decode cX5_leaveOutRings 9 = .ok (.getfield 9, 3) := by decide +kernel
theorem dX5_leaveOutRings_12 : decode cX5_leaveOutRings 12 = .ok (.iload_n 1, 1) := by decide +kernel
theorem dX5_leaveOutRings_13 : decode cX5_leaveOutRings 13 = .ok (.iconst (-1), 1) := by decide +kernel
theorem dX5_leaveOutRings_14 : decode cX5_leaveOutRings 14 = .ok (.iastore, 1) := by decide +kernel
theorem dX5_leaveOutRings_15 : decode cX5_leaveOutRings 15 = .ok (.aload_n 0, 1) := by decide +kernel
theorem dX5_leaveOutRings_16 : decode cX5_leaveOutRings 16 = .ok (.getfield 15, 3) := by decide +kernel
theorem dX5_leaveOutRings_19 : decode cX5_leaveOutRings 19 = .ok (.iload_n 1, 1) := by decide +kernel
theorem dX5_leaveOutRings_20 : decode cX5_leaveOutRings 20 = .ok (.iconst 0, 1) := by decide +kernel
theorem dX5_leaveOutRings_21 : decode cX5_leaveOutRings 21 = .ok (.iastore, 1) := by decide +kernel
theorem dX5_leaveOutRings_22 : decode cX5_leaveOutRings 22 = .ok (.iinc 1 1, 3) := by decide +kernel
theorem dX5_leaveOutRings_25 : decode cX5_leaveOutRings 25 = .ok (.goto (-23), 3) := by decide +kernel
theorem dX5_leaveOutRings_28 : decode cX5_leaveOutRings 28 = .ok (.return_, 1) := by decide +kernel
set_option maxRecDepth 20000 in
theorem ggX5_keepTo_X2_at : GoodIn wsX5_keepTo wsX2_at := goodIn_r _ [7, 8, 9, 10, 11, 6, 12, 13, 37, 38, 39] (by decide +kernel) (by decide +kernel)
set_option maxRecDepth 20000 in
theorem gX5_keepTo_X2_at : GoodIn wsX5_keepTo (wsV RX5 90 RX2 yX2_at wsX2_at) := goodIn_app (goodIn_of _ (by decide +kernel)) ggX5_keepTo_X2_at
set_option maxRecDepth 20000 in
theorem ggX5_keepTo_X6_isCell : GoodIn wsX5_keepTo wsX6_isCell := goodIn_r _ [16] (by decide +kernel) (by decide +kernel)
set_option maxRecDepth 20000 in
theorem gX5_keepTo_X6_isCell_n96 : GoodIn wsX5_keepTo (wsX6_isCell) := ggX5_keepTo_X6_isCell
theorem dX5_keepTo_0 : decode cX5_keepTo 0 = .ok (.iconst 0, 1) := by decide +kernel
theorem dX5_keepTo_1 : decode cX5_keepTo 1 = .ok (.istore_n 3, 1) := by decide +kernel
theorem dX5_keepTo_2 : decode cX5_keepTo 2 = .ok (.iload_n 3, 1) := by decide +kernel
theorem dX5_keepTo_3 : decode cX5_keepTo 3 = .ok (.aload_n 0, 1) := by decide +kernel
theorem dX5_keepTo_4 : decode cX5_keepTo 4 = .ok (.getfield 24, 3) := by decide +kernel
theorem dX5_keepTo_7 : decode cX5_keepTo 7 = .ok (.if_icmp .gt 45, 3) := by decide +kernel
theorem dX5_keepTo_10 : decode cX5_keepTo 10 = .ok (.iload_n 3, 1) := by decide +kernel
theorem dX5_keepTo_11 : decode cX5_keepTo 11 = .ok (.bipush 6, 2) := by decide +kernel
theorem dX5_keepTo_13 : decode cX5_keepTo 13 = .ok (.if_icmp .gt 39, 3) := by decide +kernel
theorem dX5_keepTo_16 : decode cX5_keepTo 16 = .ok (.aload_n 1, 1) := by decide +kernel
theorem dX5_keepTo_17 : decode cX5_keepTo 17 = .ok (.iload_n 2, 1) := by decide +kernel
theorem dX5_keepTo_18 : decode cX5_keepTo 18 = .ok (.iload_n 3, 1) := by decide +kernel
theorem dX5_keepTo_19 : decode cX5_keepTo 19 = .ok (.iadd, 1) := by decide +kernel
theorem dX5_keepTo_20 : decode cX5_keepTo 20 = .ok (.invokevirtual 90, 3) := by decide +kernel
theorem dX5_keepTo_23 : decode cX5_keepTo 23 = .ok (.istore 4, 2) := by decide +kernel
theorem dX5_keepTo_25 : decode cX5_keepTo 25 = .ok (.aload_n 0, 1) := by decide +kernel
theorem dX5_keepTo_26 : decode cX5_keepTo 26 = .ok (.getfield 18, 3) := by decide +kernel
theorem dX5_keepTo_29 : decode cX5_keepTo 29 = .ok (.iload_n 3, 1) := by decide +kernel
theorem dX5_keepTo_30 : decode cX5_keepTo 30 = .ok (.iload 4, 2) := by decide +kernel
theorem dX5_keepTo_32 : decode cX5_keepTo 32 = .ok (.invokestatic 96, 3) := by decide +kernel
theorem dX5_keepTo_35 : decode cX5_keepTo 35 = .ok (.ifCond .eq 8, 3) := by decide +kernel
theorem dX5_keepTo_38 : decode cX5_keepTo 38 = .ok (.iload 4, 2) := by decide +kernel
theorem dX5_keepTo_40 : decode cX5_keepTo 40 = .ok (.goto 5, 3) := by decide +kernel
theorem dX5_keepTo_43 : decode cX5_keepTo 43 = .ok (.bipush 100, 2) := by decide +kernel
theorem dX5_keepTo_45 : decode cX5_keepTo 45 = .ok (.iastore, 1) := by decide +kernel
theorem dX5_keepTo_46 : decode cX5_keepTo 46 = .ok (.iinc 3 1, 3) := by decide +kernel
theorem dX5_keepTo_49 : decode cX5_keepTo 49 = .ok (.goto (-47), 3) := by decide +kernel
theorem dX5_keepTo_52 : decode cX5_keepTo 52 = .ok (.return_, 1) := by decide +kernel
set_option maxRecDepth 20000 in
theorem ggX5_takeRingsOf_X5_leaveOutRings : GoodIn wsX5_takeRingsOf wsX5_leaveOutRings := goodIn_r _ [8, 2, 9, 24, 25, 26, 27, 28, 29, 30, 31, 32, 33, 34, 35, 36, 37, 38, 39, 40, 41, 42, 43] (by decide +kernel) (by decide +kernel)
set_option maxRecDepth 20000 in
theorem gX5_takeRingsOf_X5_leaveOutRings : GoodIn wsX5_takeRingsOf (wsV RX5 100 RX5 yX5_leaveOutRings wsX5_leaveOutRings) := goodIn_app (goodIn_of _ (by decide +kernel)) ggX5_takeRingsOf_X5_leaveOutRings
set_option maxRecDepth 20000 in
theorem ggX5_takeRingsOf_X2_at : GoodIn wsX5_takeRingsOf wsX2_at := goodIn_r _ [14, 15, 16, 17, 18, 13, 19, 20, 44, 45, 46] (by decide +kernel) (by decide +kernel)
set_option maxRecDepth 20000 in
theorem gX5_takeRingsOf_X2_at : GoodIn wsX5_takeRingsOf (wsV RX5 90 RX2 yX2_at wsX2_at) := goodIn_app (goodIn_of _ (by decide +kernel)) ggX5_takeRingsOf_X2_at
set_option maxRecDepth 20000 in
theorem ggX5_takeRingsOf_X6_isCell : GoodIn wsX5_takeRingsOf wsX6_isCell := goodIn_r _ [23] (by decide +kernel) (by decide +kernel)
set_option maxRecDepth 20000 in
theorem gX5_takeRingsOf_X6_isCell_n96 : GoodIn wsX5_takeRingsOf (wsX6_isCell) := ggX5_takeRingsOf_X6_isCell
theorem dX5_takeRingsOf_0 : decode cX5_takeRingsOf 0 = .ok (.aload_n 0, 1) := by decide +kernel
theorem dX5_takeRingsOf_1 : decode cX5_takeRingsOf 1 = .ok (.invokevirtual 100, 3) := by decide +kernel
theorem dX5_takeRingsOf_4 : decode cX5_takeRingsOf 4 = .ok (.iconst 1, 1) := by decide +kernel
theorem dX5_takeRingsOf_5 : decode cX5_takeRingsOf 5 = .ok (.istore_n 3, 1) := by decide +kernel
theorem dX5_takeRingsOf_6 : decode cX5_takeRingsOf 6 = .ok (.iload_n 3, 1) := by decide +kernel
theorem dX5_takeRingsOf_7 : decode cX5_takeRingsOf 7 = .ok (.aload_n 0, 1) := by decide +kernel
theorem dX5_takeRingsOf_8 : decode cX5_takeRingsOf 8 = .ok (.getfield 24, 3) := by decide +kernel
theorem dX5_takeRingsOf_11 : decode cX5_takeRingsOf 11 = .ok (.if_icmp .gt 49, 3) := by decide +kernel
theorem dX5_takeRingsOf_14 : decode cX5_takeRingsOf 14 = .ok (.iload_n 3, 1) := by decide +kernel
theorem dX5_takeRingsOf_15 : decode cX5_takeRingsOf 15 = .ok (.bipush 6, 2) := by decide +kernel
theorem dX5_takeRingsOf_17 : decode cX5_takeRingsOf 17 = .ok (.if_icmp .gt 43, 3) := by decide +kernel
theorem dX5_takeRingsOf_20 : decode cX5_takeRingsOf 20 = .ok (.aload_n 1, 1) := by decide +kernel
theorem dX5_takeRingsOf_21 : decode cX5_takeRingsOf 21 = .ok (.iload_n 2, 1) := by decide +kernel
theorem dX5_takeRingsOf_22 : decode cX5_takeRingsOf 22 = .ok (.iload_n 3, 1) := by decide +kernel
theorem dX5_takeRingsOf_23 : decode cX5_takeRingsOf 23 = .ok (.iadd, 1) := by decide +kernel
theorem dX5_takeRingsOf_24 : decode cX5_takeRingsOf 24 = .ok (.invokevirtual 90, 3) := by decide +kernel
theorem dX5_takeRingsOf_27 : decode cX5_takeRingsOf 27 = .ok (.istore 4, 2) := by decide +kernel
theorem dX5_takeRingsOf_29 : decode cX5_takeRingsOf 29 = .ok (.aload_n 0, 1) := by decide +kernel
theorem dX5_takeRingsOf_30 : decode cX5_takeRingsOf 30 = .ok (.getfield 9, 3) := by decide +kernel
theorem dX5_takeRingsOf_33 : decode cX5_takeRingsOf 33 = .ok (.iload_n 3, 1) := by decide +kernel
theorem dX5_takeRingsOf_34 : decode cX5_takeRingsOf 34 = .ok (.iload 4, 2) := by decide +kernel
theorem dX5_takeRingsOf_36 : decode cX5_takeRingsOf 36 = .ok (.invokestatic 96, 3) := by decide +kernel
theorem dX5_takeRingsOf_39 : decode cX5_takeRingsOf 39 = .ok (.ifCond .eq 13, 3) := by decide +kernel
theorem dX5_takeRingsOf_42 : decode cX5_takeRingsOf 42 = .ok (.aload_n 0, 1) := by decide +kernel
theorem dX5_takeRingsOf_43 : decode cX5_takeRingsOf 43 = .ok (.getfield 21, 3) := by decide +kernel
theorem dX5_takeRingsOf_46 : decode cX5_takeRingsOf 46 = .ok (.iload 4, 2) := by decide +kernel
theorem dX5_takeRingsOf_48 : decode cX5_takeRingsOf 48 = .ok (.iaload, 1) := by decide +kernel
theorem dX5_takeRingsOf_49 : decode cX5_takeRingsOf 49 = .ok (.goto 4, 3) := by decide +kernel
theorem dX5_takeRingsOf_52 : decode cX5_takeRingsOf 52 = .ok (.iconst (-1), 1) := by decide +kernel
theorem dX5_takeRingsOf_53 : decode cX5_takeRingsOf 53 = .ok (.iastore, 1) := by decide +kernel
theorem dX5_takeRingsOf_54 : decode cX5_takeRingsOf 54 = .ok (.iinc 3 1, 3) := by decide +kernel
theorem dX5_takeRingsOf_57 : decode cX5_takeRingsOf 57 = .ok (.goto (-51), 3) := by decide +kernel
theorem dX5_takeRingsOf_60 : decode cX5_takeRingsOf 60 = .ok (.return_, 1) := by decide +kernel
theorem dX5_leaveOut_0 : decode cX5_leaveOut 0 = .ok (.iload_n 1, 1) := by decide +kernel
theorem dX5_leaveOut_1 : decode cX5_leaveOut 1 = .ok (.bipush 7, 2) := by decide +kernel
theorem dX5_leaveOut_3 : decode cX5_leaveOut 3 = .ok (.if_icmp .ne 31, 3) := by decide +kernel
theorem dX5_leaveOut_6 : decode cX5_leaveOut 6 = .ok (.aload_n 0, 1) := by decide +kernel
theorem dX5_leaveOut_7 : decode cX5_leaveOut 7 = .ok (.getfield 35, 3) := by decide +kernel
theorem dX5_leaveOut_10 : decode cX5_leaveOut 10 = .ok (.bipush 9, 2) := by decide +kernel
theorem dX5_leaveOut_12 : decode cX5_leaveOut 12 = .ok (.aload_n 0, 1) := by decide +kernel
theorem dX5_leaveOut_13 : decode cX5_leaveOut 13 = .ok (.getfield 24, 3) := by decide +kernel
theorem dX5_leaveOut_16 : decode cX5_leaveOut 16 = .ok (.imul, 1) := by decide +kernel
theorem dX5_leaveOut_17 : decode cX5_leaveOut 17 = .ok (.if_icmp .ge 7, 3) := by decide +kernel
theorem dX5_leaveOut_20 : decode cX5_leaveOut 20 = .ok (.iconst 1, 1) := by decide +kernel
theorem dX5_leaveOut_21 : decode cX5_leaveOut 21 = .ok (.goto 4, 3) := by decide +kernel
theorem dX5_leaveOut_24 : decode cX5_leaveOut 24 = .ok (.iconst 0, 1) := by decide +kernel
theorem dX5_leaveOut_25 : decode cX5_leaveOut 25 = .ok (.istore_n 2, 1) := by decide +kernel
theorem dX5_leaveOut_26 : decode cX5_leaveOut 26 = .ok (.aload_n 0, 1) := by decide +kernel
theorem dX5_leaveOut_27 : decode cX5_leaveOut 27 = .ok (.bipush 54, 2) := by decide +kernel
theorem dX5_leaveOut_29 : decode cX5_leaveOut 29 = .ok (.putfield 35, 3) := by decide +kernel
theorem dX5_leaveOut_32 : decode cX5_leaveOut 32 = .ok (.iload_n 2, 1) := by decide +kernel
theorem dX5_leaveOut_33 : decode cX5_leaveOut 33 = .ok (.ireturn, 1) := by decide +kernel
theorem dX5_leaveOut_34 : decode cX5_leaveOut 34 = .ok (.iconst 0, 1) := by decide +kernel
theorem dX5_leaveOut_35 : decode cX5_leaveOut 35 = .ok (.istore_n 2, 1) := by decide +kernel
theorem dX5_leaveOut_36 : decode cX5_leaveOut 36 = .ok (.iconst 1, 1) := by decide +kernel
theorem dX5_leaveOut_37 : decode cX5_leaveOut 37 = .ok (.istore_n 3, 1) := by decide +kernel
theorem dX5_leaveOut_38 : decode cX5_leaveOut 38 = .ok (.iload_n 3, 1) := by decide +kernel
theorem dX5_leaveOut_39 : decode cX5_leaveOut 39 = .ok (.bipush 6, 2) := by decide +kernel
theorem dX5_leaveOut_41 : decode cX5_leaveOut 41 = .ok (.if_icmp .gt 93, 3) := by decide +kernel
theorem dX5_leaveOut_44 : decode cX5_leaveOut 44 = .ok (.iload_n 1, 1) := by decide +kernel
theorem dX5_leaveOut_45 : decode cX5_leaveOut 45 = .ok (.iload_n 3, 1) := by decide +kernel
theorem dX5_leaveOut_46 : decode cX5_leaveOut 46 = .ok (.iconst 1, 1) := by decide +kernel
theorem dX5_leaveOut_47 : decode cX5_leaveOut 47 = .ok (.isub, 1) := by decide +kernel
theorem dX5_leaveOut_48 : decode cX5_leaveOut 48 = .ok (.if_icmp .ne 7, 3) := by decide +kernel
theorem dX5_leaveOut_51 : decode cX5_leaveOut 51 = .ok (.iconst 1, 1) := by decide +kernel
theorem dX5_leaveOut_52 : decode cX5_leaveOut 52 = .ok (.goto 4, 3) := by decide +kernel
theorem dX5_leaveOut_55 : decode cX5_leaveOut 55 = .ok (.iconst 0, 1) := by decide +kernel
theorem dX5_leaveOut_56 : decode cX5_leaveOut 56 = .ok (.istore 4, 2) := by decide +kernel
theorem dX5_leaveOut_58 : decode cX5_leaveOut 58 = .ok (.iload 4, 2) := by decide +kernel
theorem dX5_leaveOut_60 : decode cX5_leaveOut 60 = .ok (.ifCond .ne 9, 3) := by decide +kernel
theorem dX5_leaveOut_63 : decode cX5_leaveOut 63 = .ok (.iload_n 1, 1) := by decide +kernel
theorem dX5_leaveOut_64 : decode cX5_leaveOut 64 = .ok (.bipush 6, 2) := by decide +kernel
theorem dX5_leaveOut_66 : decode cX5_leaveOut 66 = .ok (.if_icmp .ne 50, 3) := by decide +kernel
theorem dX5_leaveOut_69 : decode cX5_leaveOut 69 = .ok (.iload_n 2, 1) := by decide +kernel
theorem dX5_leaveOut_70 : decode cX5_leaveOut 70 = .ok (.iload_n 3, 1) := by decide +kernel
theorem dX5_leaveOut_71 : decode cX5_leaveOut 71 = .ok (.aload_n 0, 1) := by decide +kernel
theorem dX5_leaveOut_72 : decode cX5_leaveOut 72 = .ok (.getfield 24, 3) := by decide +kernel
theorem dX5_leaveOut_75 : decode cX5_leaveOut 75 = .ok (.if_icmp .gt 31, 3) := by decide +kernel
theorem dX5_leaveOut_78 : decode cX5_leaveOut 78 = .ok (.aload_n 0, 1) := by decide +kernel
theorem dX5_leaveOut_79 : decode cX5_leaveOut 79 = .ok (.getfield 15, 3) := by decide +kernel
theorem dX5_leaveOut_82 : decode cX5_leaveOut 82 = .ok (.iload_n 3, 1) := by decide +kernel
theorem dX5_leaveOut_83 : decode cX5_leaveOut 83 = .ok (.iaload, 1) := by decide +kernel
theorem dX5_leaveOut_84 : decode cX5_leaveOut 84 = .ok (.ifCond .ne 18, 3) := by decide +kernel
theorem dX5_leaveOut_87 : decode cX5_leaveOut 87 = .ok (.iload 4, 2) := by decide +kernel
theorem dX5_leaveOut_89 : decode cX5_leaveOut 89 = .ok (.ifCond .eq 17, 3) := by decide +kernel
theorem dX5_leaveOut_92 : decode cX5_leaveOut 92 = .ok (.aload_n 0, 1) := by decide +kernel
theorem dX5_leaveOut_93 : decode cX5_leaveOut 93 = .ok (.getfield 9, 3) := by decide +kernel
theorem dX5_leaveOut_96 : decode cX5_leaveOut 96 = .ok (.iload_n 3, 1) := by decide +kernel
theorem dX5_leaveOut_97 : decode cX5_leaveOut 97 = .ok (.iaload, 1) := by decide +kernel
theorem dX5_leaveOut_98 : decode cX5_leaveOut 98 = .ok (.iconst (-1), 1) := by decide +kernel
theorem dX5_leaveOut_99 : decode cX5_leaveOut 99 = .ok (.if_icmp .eq 7, 3) := by decide +kernel
theorem dX5_leaveOut_102 : decode cX5_leaveOut 102 = .ok (.iconst 1, 1) := by decide +kernel
theorem dX5_leaveOut_103 : decode cX5_leaveOut 103 = .ok (.goto 4, 3) := by decide +kernel
theorem dX5_leaveOut_106 : decode cX5_leaveOut 106 = .ok (.iconst 0, 1) := by decide +kernel
theorem dX5_leaveOut_107 : decode cX5_leaveOut 107 = .ok (.ior, 1) := by decide +kernel
theorem dX5_leaveOut_108 : decode cX5_leaveOut 108 = .ok (.istore_n 2, 1) := by decide +kernel
theorem dX5_leaveOut_109 : decode cX5_leaveOut 109 = .ok (.aload_n 0, 1) := by decide +kernel
theorem dX5_leaveOut_110 : decode cX5_leaveOut 110 = .ok (.getfield 15, 3) := by decide +kernel
theorem dX5_leaveOut_113 : decode cX5_leaveOut 113 = .ok (.iload_n 3, 1) := by decide +kernel
theorem dX5_leaveOut_114 : decode cX5_leaveOut 114 = .ok (.iconst 0, 1) := by decide +kernel
theorem dX5_leaveOut_115 : decode cX5_leaveOut 115 = .ok (.iastore, 1) := by decide +kernel
theorem dX5_leaveOut_116 : decode cX5_leaveOut 116 = .ok (.iload 4, 2) := by decide +kernel
theorem dX5_leaveOut_118 : decode cX5_leaveOut 118 = .ok (.ifCond .eq 10, 3) := by decide +kernel
theorem dX5_leaveOut_121 : decode cX5_leaveOut 121 = .ok (.aload_n 0, 1) := by decide +kernel
theorem dX5_leaveOut_122 : decode cX5_leaveOut 122 = .ok (.getfield 9, 3) := by decide +kernel
theorem dX5_leaveOut_125 : decode cX5_leaveOut 125 = .ok (.iload_n 3, 1) := by decide +kernel
theorem dX5_leaveOut_126 : decode cX5_leaveOut 126 = .ok (.iconst (-1), 1) := by decide +kernel
theorem dX5_leaveOut_127 : decode cX5_leaveOut 127 = .ok (.iastore, 1) := by decide +kernel
theorem dX5_leaveOut_128 : decode cX5_leaveOut 128 = .ok (.iinc 3 1, 3) := by decide +kernel
theorem dX5_leaveOut_131 : decode cX5_leaveOut 131 = .ok (.goto (-93), 3) := by decide +kernel
theorem dX5_leaveOut_134 : decode cX5_leaveOut 134 = .ok (.iload_n 2, 1) := by decide +kernel
theorem dX5_leaveOut_135 : decode cX5_leaveOut 135 = .ok (.ireturn, 1) := by decide +kernel
set_option maxRecDepth 20000 in
theorem ggX5_goAll_X5_fly : GoodIn wsX5_goAll wsX5_fly := goodIn_r _ [14, 15, 9, 16, 1, 17, 18, 19, 20, 21, 22, 23, 24, 25, 26, 13, 27, 28, 29, 30, 31, 32, 33, 34, 35, 36, 37, 38, 39, 40, 41, 42, 3, 43, 44, 45, 2, 46, 5, 47, 48, 49, 50, 51, 52, 53, 6, 54, 55, 56, 10, 11, 12, 57, 58, 59, 60, 61, 62, 63, 64, 65, 66, 67, 68, 69, 70, 71, 72, 73, 74, 75, 76, 77, 78, 79, 80] (by decide +kernel) (by decide +kernel)
set_option maxRecDepth 20000 in
theorem gX5_goAll_X5_fly : GoodIn wsX5_goAll (wsV RX5 103 RX5 yX5_fly wsX5_fly) := goodIn_app (goodIn_of _ (by decide +kernel)) ggX5_goAll_X5_fly
set_option maxRecDepth 20000 in
theorem ggX5_goAll_X5_see : GoodIn wsX5_goAll wsX5_see := goodIn_r _ [53, 6, 61, 62, 63, 64, 65, 66, 67, 68, 69, 70, 71, 72, 73, 74, 75, 76, 77, 78, 79, 80] (by decide +kernel) (by decide +kernel)
set_option maxRecDepth 20000 in
theorem gX5_goAll_X5_see : GoodIn wsX5_goAll (wsV RX5 107 RX5 yX5_see wsX5_see) := goodIn_app (goodIn_of _ (by decide +kernel)) ggX5_goAll_X5_see
theorem dX5_goAll_0 : decode cX5_goAll 0 = .ok (.aload_n 0, 1) := by decide +kernel
theorem dX5_goAll_1 : decode cX5_goAll 1 = .ok (.iconst 0, 1) := by decide +kernel
theorem dX5_goAll_2 : decode cX5_goAll 2 = .ok (.putfield 54, 3) := by decide +kernel
theorem dX5_goAll_5 : decode cX5_goAll 5 = .ok (.aload_n 0, 1) := by decide +kernel
theorem dX5_goAll_6 : decode cX5_goAll 6 = .ok (.lconst 0, 1) := by decide +kernel
theorem dX5_goAll_7 : decode cX5_goAll 7 = .ok (.putfield 57, 3) := by decide +kernel
theorem dX5_goAll_10 : decode cX5_goAll 10 = .ok (.aload_n 0, 1) := by decide +kernel
theorem dX5_goAll_11 : decode cX5_goAll 11 = .ok (.iconst (-1), 1) := by decide +kernel
theorem dX5_goAll_12 : decode cX5_goAll 12 = .ok (.putfield 61, 3) := by decide +kernel
theorem dX5_goAll_15 : decode cX5_goAll 15 = .ok (.aload_n 0, 1) := by decide +kernel
theorem dX5_goAll_16 : decode cX5_goAll 16 = .ok (.iconst (-1), 1) := by decide +kernel
theorem dX5_goAll_17 : decode cX5_goAll 17 = .ok (.putfield 64, 3) := by decide +kernel
theorem dX5_goAll_20 : decode cX5_goAll 20 = .ok (.iconst 0, 1) := by decide +kernel
theorem dX5_goAll_21 : decode cX5_goAll 21 = .ok (.istore_n 1, 1) := by decide +kernel
theorem dX5_goAll_22 : decode cX5_goAll 22 = .ok (.iload_n 1, 1) := by decide +kernel
theorem dX5_goAll_23 : decode cX5_goAll 23 = .ok (.bipush 100, 2) := by decide +kernel
theorem dX5_goAll_25 : decode cX5_goAll 25 = .ok (.if_icmp .ge 16, 3) := by decide +kernel
theorem dX5_goAll_28 : decode cX5_goAll 28 = .ok (.aload_n 0, 1) := by decide +kernel
theorem dX5_goAll_29 : decode cX5_goAll 29 = .ok (.getfield 44, 3) := by decide +kernel
theorem dX5_goAll_32 : decode cX5_goAll 32 = .ok (.iload_n 1, 1) := by decide +kernel
theorem dX5_goAll_33 : decode cX5_goAll 33 = .ok (.lconst 0, 1) := by decide +kernel
theorem dX5_goAll_34 : decode cX5_goAll 34 = .ok (.lastore, 1) := by decide +kernel
theorem dX5_goAll_35 : decode cX5_goAll 35 = .ok (.iinc 1 1, 3) := by decide +kernel
theorem dX5_goAll_38 : decode cX5_goAll 38 = .ok (.goto (-16), 3) := by decide +kernel
theorem dX5_goAll_41 : decode cX5_goAll 41 = .ok (.iconst 0, 1) := by decide +kernel
theorem dX5_goAll_42 : decode cX5_goAll 42 = .ok (.istore_n 1, 1) := by decide +kernel
theorem dX5_goAll_43 : decode cX5_goAll 43 = .ok (.iload_n 1, 1) := by decide +kernel
theorem dX5_goAll_44 : decode cX5_goAll 44 = .ok (.bipush 70, 2) := by decide +kernel
theorem dX5_goAll_46 : decode cX5_goAll 46 = .ok (.if_icmp .ge 16, 3) := by decide +kernel
theorem dX5_goAll_49 : decode cX5_goAll 49 = .ok (.aload_n 0, 1) := by decide +kernel
theorem dX5_goAll_50 : decode cX5_goAll 50 = .ok (.getfield 48, 3) := by decide +kernel
theorem dX5_goAll_53 : decode cX5_goAll 53 = .ok (.iload_n 1, 1) := by decide +kernel
theorem dX5_goAll_54 : decode cX5_goAll 54 = .ok (.iconst 0, 1) := by decide +kernel
theorem dX5_goAll_55 : decode cX5_goAll 55 = .ok (.iastore, 1) := by decide +kernel
theorem dX5_goAll_56 : decode cX5_goAll 56 = .ok (.iinc 1 1, 3) := by decide +kernel
theorem dX5_goAll_59 : decode cX5_goAll 59 = .ok (.goto (-16), 3) := by decide +kernel
theorem dX5_goAll_62 : decode cX5_goAll 62 = .ok (.iconst 0, 1) := by decide +kernel
theorem dX5_goAll_63 : decode cX5_goAll 63 = .ok (.istore_n 1, 1) := by decide +kernel
theorem dX5_goAll_64 : decode cX5_goAll 64 = .ok (.iload_n 1, 1) := by decide +kernel
theorem dX5_goAll_65 : decode cX5_goAll 65 = .ok (.bipush 24, 2) := by decide +kernel
theorem dX5_goAll_67 : decode cX5_goAll 67 = .ok (.if_icmp .ge 46, 3) := by decide +kernel
theorem dX5_goAll_70 : decode cX5_goAll 70 = .ok (.aload_n 0, 1) := by decide +kernel
theorem dX5_goAll_71 : decode cX5_goAll 71 = .ok (.getfield 54, 3) := by decide +kernel
theorem dX5_goAll_74 : decode cX5_goAll 74 = .ok (.istore_n 2, 1) := by decide +kernel
theorem dX5_goAll_75 : decode cX5_goAll 75 = .ok (.aload_n 0, 1) := by decide +kernel
theorem dX5_goAll_76 : decode cX5_goAll 76 = .ok (.iconst 0, 1) := by decide +kernel
theorem dX5_goAll_77 : decode cX5_goAll 77 = .ok (.iload_n 1, 1) := by decide +kernel
theorem dX5_goAll_78 : decode cX5_goAll 78 = .ok (.iconst 3, 1) := by decide +kernel
theorem dX5_goAll_79 : decode cX5_goAll 79 = .ok (.idiv, 1) := by decide +kernel
theorem dX5_goAll_80 : decode cX5_goAll 80 = .ok (.iload_n 1, 1) := by decide +kernel
theorem dX5_goAll_81 : decode cX5_goAll 81 = .ok (.iconst 3, 1) := by decide +kernel
theorem dX5_goAll_82 : decode cX5_goAll 82 = .ok (.irem, 1) := by decide +kernel
theorem dX5_goAll_83 : decode cX5_goAll 83 = .ok (.iconst 1, 1) := by decide +kernel
theorem dX5_goAll_84 : decode cX5_goAll 84 = .ok (.iadd, 1) := by decide +kernel
theorem dX5_goAll_85 : decode cX5_goAll 85 = .ok (.iconst 0, 1) := by decide +kernel
theorem dX5_goAll_86 : decode cX5_goAll 86 = .ok (.iconst 0, 1) := by decide +kernel
theorem dX5_goAll_87 : decode cX5_goAll 87 = .ok (.iconst 1, 1) := by decide +kernel
theorem dX5_goAll_88 : decode cX5_goAll 88 = .ok (.aload_n 0, 1) := by decide +kernel
theorem dX5_goAll_89 : decode cX5_goAll 89 = .ok (.getfield 35, 3) := by decide +kernel
theorem dX5_goAll_92 : decode cX5_goAll 92 = .ok (.invokevirtual 103, 3) := by decide +kernel
theorem dX5_goAll_95 : decode cX5_goAll 95 = .ok (.aload_n 0, 1) := by decide +kernel
theorem dX5_goAll_96 : decode cX5_goAll 96 = .ok (.getfield 51, 3) := by decide +kernel
theorem dX5_goAll_99 : decode cX5_goAll 99 = .ok (.iload_n 1, 1) := by decide +kernel
theorem dX5_goAll_100 : decode cX5_goAll 100 = .ok (.aload_n 0, 1) := by decide +kernel
theorem dX5_goAll_101 : decode cX5_goAll 101 = .ok (.getfield 54, 3) := by decide +kernel
theorem dX5_goAll_104 : decode cX5_goAll 104 = .ok (.iload_n 2, 1) := by decide +kernel
theorem dX5_goAll_105 : decode cX5_goAll 105 = .ok (.isub, 1) := by decide +kernel
theorem dX5_goAll_106 : decode cX5_goAll 106 = .ok (.iastore, 1) := by decide +kernel
theorem dX5_goAll_107 : decode cX5_goAll 107 = .ok (.iinc 1 1, 3) := by decide +kernel
theorem dX5_goAll_110 : decode cX5_goAll 110 = .ok (.goto (-46), 3) := by decide +kernel
theorem dX5_goAll_113 : decode cX5_goAll 113 = .ok (.aload_n 0, 1) := by decide +kernel
theorem dX5_goAll_114 : decode cX5_goAll 114 = .ok (.getfield 54, 3) := by decide +kernel
theorem dX5_goAll_117 : decode cX5_goAll 117 = .ok (.ifCond .le 14, 3) := by decide +kernel
theorem dX5_goAll_120 : decode cX5_goAll 120 = .ok (.aload_n 0, 1) := by decide +kernel
theorem dX5_goAll_121 : decode cX5_goAll 121 = .ok (.iconst 0, 1) := by decide +kernel
theorem dX5_goAll_122 : decode cX5_goAll 122 = .ok (.aload_n 0, 1) := by decide +kernel
theorem dX5_goAll_123 : decode cX5_goAll 123 = .ok (.getfield 41, 3) := by decide +kernel
theorem dX5_goAll_126 : decode cX5_goAll 126 = .ok (.iconst 0, 1) := by decide +kernel
theorem dX5_goAll_127 : decode cX5_goAll 127 = .ok (.iaload, 1) := by decide +kernel
theorem dX5_goAll_128 : decode cX5_goAll 128 = .ok (.invokevirtual 107, 3) := by decide +kernel
theorem dX5_goAll_131 : decode cX5_goAll 131 = .ok (.return_, 1) := by decide +kernel
set_option maxRecDepth 20000 in
theorem ggX5_find_X5_fly : GoodIn wsX5_find wsX5_fly := goodIn_r _ [10, 11, 12, 13, 1, 14, 15, 16, 17, 18, 19, 20, 21, 22, 23, 9, 24, 25, 26, 27, 28, 29, 30, 31, 32, 33, 34, 35, 36, 37, 38, 39, 4, 40, 41, 42, 43, 44, 45, 46, 47, 48, 49, 50, 51, 52, 53, 54, 55, 56, 6, 7, 8, 57, 58, 59, 60, 61, 62, 63, 64, 65, 66, 67, 68, 69, 70, 71, 72, 73, 74, 75, 76, 77, 78, 79, 80] (by decide +kernel) (by decide +kernel)
set_option maxRecDepth 20000 in
theorem gX5_find_X5_fly : GoodIn wsX5_find (wsV RX5 103 RX5 yX5_fly wsX5_fly) := goodIn_app (goodIn_of _ (by decide +kernel)) ggX5_find_X5_fly
theorem dX5_find_0 : decode cX5_find 0 = .ok (.iload_n 1, 1) := by decide +kernel
theorem dX5_find_1 : decode cX5_find 1 = .ok (.ifCond .lt 11, 3) := by decide +kernel
theorem dX5_find_4 : decode cX5_find 4 = .ok (.iload_n 1, 1) := by decide +kernel
theorem dX5_find_5 : decode cX5_find 5 = .ok (.aload_n 0, 1) := by decide +kernel
theorem dX5_find_6 : decode cX5_find 6 = .ok (.getfield 54, 3) := by decide +kernel
theorem dX5_find_9 : decode cX5_find 9 = .ok (.if_icmp .lt 5, 3) := by decide +kernel
theorem dX5_find_12 : decode cX5_find 12 = .ok (.iconst 0, 1) := by decide +kernel
theorem dX5_find_13 : decode cX5_find 13 = .ok (.ireturn, 1) := by decide +kernel
theorem dX5_find_14 : decode cX5_find 14 = .ok (.iload_n 1, 1) := by decide +kernel
theorem dX5_find_15 : decode cX5_find 15 = .ok (.aload_n 0, 1) := by decide +kernel
theorem dX5_find_16 : decode cX5_find 16 = .ok (.getfield 64, 3) := by decide +kernel
theorem dX5_find_19 : decode cX5_find 19 = .ok (.if_icmp .ne 5, 3) := by decide +kernel
theorem dX5_find_22 : decode cX5_find 22 = .ok (.iconst 1, 1) := by decide +kernel
theorem dX5_find_23 : decode cX5_find 23 = .ok (.ireturn, 1) := by decide +kernel
theorem dX5_find_24 : decode cX5_find 24 = .ok (.iload_n 1, 1) := by decide +kernel
theorem dX5_find_25 : decode cX5_find 25 = .ok (.istore_n 2, 1) := by decide +kernel
theorem dX5_find_26 : decode cX5_find 26 = .ok (.aload_n 0, 1) := by decide +kernel
theorem dX5_find_27 : decode cX5_find 27 = .ok (.iconst (-1), 1) := by decide +kernel
theorem dX5_find_28 : decode cX5_find 28 = .ok (.putfield 64, 3) := by decide +kernel
theorem dX5_find_31 : decode cX5_find 31 = .ok (.iconst 0, 1) := by decide +kernel
theorem dX5_find_32 : decode cX5_find 32 = .ok (.istore_n 3, 1) := by decide +kernel
theorem dX5_find_33 : decode cX5_find 33 = .ok (.iload_n 3, 1) := by decide +kernel
theorem dX5_find_34 : decode cX5_find 34 = .ok (.bipush 24, 2) := by decide +kernel
theorem dX5_find_36 : decode cX5_find 36 = .ok (.if_icmp .ge 60, 3) := by decide +kernel
theorem dX5_find_39 : decode cX5_find 39 = .ok (.iload_n 2, 1) := by decide +kernel
theorem dX5_find_40 : decode cX5_find 40 = .ok (.aload_n 0, 1) := by decide +kernel
theorem dX5_find_41 : decode cX5_find 41 = .ok (.getfield 51, 3) := by decide +kernel
theorem dX5_find_44 : decode cX5_find 44 = .ok (.iload_n 3, 1) := by decide +kernel
theorem dX5_find_45 : decode cX5_find 45 = .ok (.iaload, 1) := by decide +kernel
theorem dX5_find_46 : decode cX5_find 46 = .ok (.if_icmp .ge 35, 3) := by decide +kernel
theorem dX5_find_49 : decode cX5_find 49 = .ok (.aload_n 0, 1) := by decide +kernel
theorem dX5_find_50 : decode cX5_find 50 = .ok (.iload_n 2, 1) := by decide +kernel
theorem dX5_find_51 : decode cX5_find 51 = .ok (.putfield 61, 3) := by decide +kernel
theorem dX5_find_54 : decode cX5_find 54 = .ok (.aload_n 0, 1) := by decide +kernel
theorem dX5_find_55 : decode cX5_find 55 = .ok (.iconst 0, 1) := by decide +kernel
theorem dX5_find_56 : decode cX5_find 56 = .ok (.iload_n 3, 1) := by decide +kernel
theorem dX5_find_57 : decode cX5_find 57 = .ok (.iconst 3, 1) := by decide +kernel
theorem dX5_find_58 : decode cX5_find 58 = .ok (.idiv, 1) := by decide +kernel
theorem dX5_find_59 : decode cX5_find 59 = .ok (.iload_n 3, 1) := by decide +kernel
theorem dX5_find_60 : decode cX5_find 60 = .ok (.iconst 3, 1) := by decide +kernel
theorem dX5_find_61 : decode cX5_find 61 = .ok (.irem, 1) := by decide +kernel
theorem dX5_find_62 : decode cX5_find 62 = .ok (.iconst 1, 1) := by decide +kernel
theorem dX5_find_63 : decode cX5_find 63 = .ok (.iadd, 1) := by decide +kernel
theorem dX5_find_64 : decode cX5_find 64 = .ok (.iconst 0, 1) := by decide +kernel
theorem dX5_find_65 : decode cX5_find 65 = .ok (.iconst 0, 1) := by decide +kernel
theorem dX5_find_66 : decode cX5_find 66 = .ok (.iconst 1, 1) := by decide +kernel
theorem dX5_find_67 : decode cX5_find 67 = .ok (.aload_n 0, 1) := by decide +kernel
theorem dX5_find_68 : decode cX5_find 68 = .ok (.getfield 35, 3) := by decide +kernel
theorem dX5_find_71 : decode cX5_find 71 = .ok (.invokevirtual 103, 3) := by decide +kernel
theorem dX5_find_74 : decode cX5_find 74 = .ok (.aload_n 0, 1) := by decide +kernel
theorem dX5_find_75 : decode cX5_find 75 = .ok (.iload_n 1, 1) := by decide +kernel
theorem dX5_find_76 : decode cX5_find 76 = .ok (.putfield 64, 3) := by decide +kernel
theorem dX5_find_79 : decode cX5_find 79 = .ok (.iconst 1, 1) := by decide +kernel
theorem dX5_find_80 : decode cX5_find 80 = .ok (.ireturn, 1) := by decide +kernel
theorem dX5_find_81 : decode cX5_find 81 = .ok (.iload_n 2, 1) := by decide +kernel
theorem dX5_find_82 : decode cX5_find 82 = .ok (.aload_n 0, 1) := by decide +kernel
theorem dX5_find_83 : decode cX5_find 83 = .ok (.getfield 51, 3) := by decide +kernel
theorem dX5_find_86 : decode cX5_find 86 = .ok (.iload_n 3, 1) := by decide +kernel
theorem dX5_find_87 : decode cX5_find 87 = .ok (.iaload, 1) := by decide +kernel
theorem dX5_find_88 : decode cX5_find 88 = .ok (.isub, 1) := by decide +kernel
theorem dX5_find_89 : decode cX5_find 89 = .ok (.istore_n 2, 1) := by decide +kernel
theorem dX5_find_90 : decode cX5_find 90 = .ok (.iinc 3 1, 3) := by decide +kernel
theorem dX5_find_93 : decode cX5_find 93 = .ok (.goto (-60), 3) := by decide +kernel
theorem dX5_find_96 : decode cX5_find 96 = .ok (.iconst 0, 1) := by decide +kernel
theorem dX5_find_97 : decode cX5_find 97 = .ok (.ireturn, 1) := by decide +kernel
set_option maxRecDepth 20000 in
theorem ggX5_fly_X6_ahead : GoodIn wsX5_fly wsX6_ahead := goodIn_r _ [7, 8, 9] (by decide +kernel) (by decide +kernel)
set_option maxRecDepth 20000 in
theorem gX5_fly_X6_ahead_n111 : GoodIn wsX5_fly (wsX6_ahead) := ggX5_fly_X6_ahead
set_option maxRecDepth 20000 in
theorem ggX5_fly_X6_isCell : GoodIn wsX5_fly wsX6_isCell := goodIn_r _ [11] (by decide +kernel) (by decide +kernel)
set_option maxRecDepth 20000 in
theorem gX5_fly_X6_isCell_n96 : GoodIn wsX5_fly (wsX6_isCell) := ggX5_fly_X6_isCell
set_option maxRecDepth 20000 in
theorem ggX5_fly_X5_isLet : GoodIn wsX5_fly wsX5_isLet := goodIn_r _ [16, 17, 57, 58, 59, 60, 61, 62, 63, 64, 65, 66, 67, 68, 69, 70, 71, 72, 73, 74, 75, 76] (by decide +kernel) (by decide +kernel)
set_option maxRecDepth 20000 in
theorem gX5_fly_X5_isLet : GoodIn wsX5_fly (wsV RX5 115 RX5 yX5_isLet wsX5_isLet) := goodIn_app (goodIn_of _ (by decide +kernel)) ggX5_fly_X5_isLet
set_option maxRecDepth 20000 in
theorem ggX5_fly_X5_ringGives : GoodIn wsX5_fly wsX5_ringGives := goodIn_r _ [21, 22, 23, 24, 25, 26, 27, 57, 58, 59, 60, 61, 62, 63, 64, 65, 66, 67, 68, 69, 70, 71, 72, 73, 74, 75, 76] (by decide +kernel) (by decide +kernel)
set_option maxRecDepth 20000 in
theorem gX5_fly_X5_ringGives : GoodIn wsX5_fly (wsV RX5 119 RX5 yX5_ringGives wsX5_ringGives) := goodIn_app (goodIn_of _ (by decide +kernel)) ggX5_fly_X5_ringGives
set_option maxRecDepth 20000 in
theorem ggX5_fly_X5_arrive : GoodIn wsX5_fly wsX5_arrive := goodIn_r _ [31, 32, 33, 34, 35, 4, 36, 37, 2, 1, 38, 5, 6, 7, 8, 9, 57, 58, 59, 60, 61, 62, 63, 64, 65, 66, 67, 68, 69, 70, 71, 72, 73, 74, 75, 76] (by decide +kernel) (by decide +kernel)
set_option maxRecDepth 20000 in
theorem gX5_fly_X5_arrive : GoodIn wsX5_fly (wsV RX5 122 RX5 yX5_arrive wsX5_arrive) := goodIn_app (goodIn_of _ (by decide +kernel)) ggX5_fly_X5_arrive
set_option maxRecDepth 20000 in
theorem ggX5_fly_X5_choose : GoodIn wsX5_fly wsX5_choose := goodIn_r _ [47, 48, 49, 50, 51, 52, 15, 53, 54, 55, 56, 32, 0, 1, 2, 3, 4, 5, 6, 7, 8, 9, 10, 11, 12, 13, 14, 16, 17, 18, 19, 20, 21, 22, 23, 24, 25, 26, 27, 28, 29, 30, 31, 33, 34, 35, 36, 37, 38, 39, 40, 41, 42, 43, 44, 45, 46, 57, 58, 59, 60, 61, 62, 63, 64, 65, 66, 67, 68, 69, 70, 71, 72, 73, 74, 75, 76] (by decide +kernel) (by decide +kernel)
set_option maxRecDepth 20000 in
theorem gX5_fly_X5_choose : GoodIn wsX5_fly (wsV RX5 126 RX5 yX5_choose wsX5_choose) := goodIn_app (goodIn_of _ (by decide +kernel)) ggX5_fly_X5_choose
set_option maxRecDepth 20000 in
theorem ggX5_fly_X5_see : GoodIn wsX5_fly wsX5_see := goodIn_r _ [45, 46, 57, 58, 59, 60, 61, 62, 63, 64, 65, 66, 67, 68, 69, 70, 71, 72, 73, 74, 75, 76] (by decide +kernel) (by decide +kernel)
set_option maxRecDepth 20000 in
theorem gX5_fly_X5_see : GoodIn wsX5_fly (wsV RX5 107 RX5 yX5_see wsX5_see) := goodIn_app (goodIn_of _ (by decide +kernel)) ggX5_fly_X5_see
theorem dX5_fly_0 : decode cX5_fly 0 = .ok (.iload 7, 2) := by decide +kernel
theorem dX5_fly_2 : decode cX5_fly 2 = .ok (.iload_n 3, 1) := by decide +kernel
theorem dX5_fly_3 : decode cX5_fly 3 = .ok (.iload_n 3, 1) := by decide +kernel
theorem dX5_fly_4 : decode cX5_fly 4 = .ok (.imul, 1) := by decide +kernel
theorem dX5_fly_5 : decode cX5_fly 5 = .ok (.isub, 1) := by decide +kernel
theorem dX5_fly_6 : decode cX5_fly 6 = .ok (.istore 8, 2) := by decide +kernel
theorem dX5_fly_8 : decode cX5_fly 8 = .ok (.iload_n 1, 1) := by decide +kernel
theorem dX5_fly_9 : decode cX5_fly 9 = .ok (.ifCond .lt 22, 3) := by decide +kernel
theorem dX5_fly_12 : decode cX5_fly 12 = .ok (.iload_n 1, 1) := by decide +kernel
theorem dX5_fly_13 : decode cX5_fly 13 = .ok (.aload_n 0, 1) := by decide +kernel
theorem dX5_fly_14 : decode cX5_fly 14 = .ok (.getfield 24, 3) := by decide +kernel
theorem dX5_fly_17 : decode cX5_fly 17 = .ok (.if_icmp .ge 14, 3) := by decide +kernel
theorem dX5_fly_20 : decode cX5_fly 20 = .ok (.iload_n 1, 1) := by decide +kernel
theorem dX5_fly_21 : decode cX5_fly 21 = .ok (.bipush 6, 2) := by decide +kernel
theorem dX5_fly_23 : decode cX5_fly 23 = .ok (.if_icmp .ge 8, 3) := by decide +kernel
theorem dX5_fly_26 : decode cX5_fly 26 = .ok (.iload 8, 2) := by decide +kernel
theorem dX5_fly_28 : decode cX5_fly 28 = .ok (.ifCond .ge 4, 3) := by decide +kernel
theorem dX5_fly_31 : decode cX5_fly 31 = .ok (.return_, 1) := by decide +kernel
theorem dX5_fly_32 : decode cX5_fly 32 = .ok (.aload_n 0, 1) := by decide +kernel
theorem dX5_fly_33 : decode cX5_fly 33 = .ok (.getfield 41, 3) := by decide +kernel
theorem dX5_fly_36 : decode cX5_fly 36 = .ok (.iload_n 1, 1) := by decide +kernel
theorem dX5_fly_37 : decode cX5_fly 37 = .ok (.iaload, 1) := by decide +kernel
theorem dX5_fly_38 : decode cX5_fly 38 = .ok (.istore 9, 2) := by decide +kernel
theorem dX5_fly_40 : decode cX5_fly 40 = .ok (.iload 9, 2) := by decide +kernel
theorem dX5_fly_42 : decode cX5_fly 42 = .ok (.iload_n 2, 1) := by decide +kernel
theorem dX5_fly_43 : decode cX5_fly 43 = .ok (.iload_n 3, 1) := by decide +kernel
theorem dX5_fly_44 : decode cX5_fly 44 = .ok (.invokestatic 111, 3) := by decide +kernel
theorem dX5_fly_47 : decode cX5_fly 47 = .ok (.istore 10, 2) := by decide +kernel
theorem dX5_fly_49 : decode cX5_fly 49 = .ok (.iload 10, 2) := by decide +kernel
theorem dX5_fly_51 : decode cX5_fly 51 = .ok (.iconst (-1), 1) := by decide +kernel
theorem dX5_fly_52 : decode cX5_fly 52 = .ok (.if_icmp .eq 33, 3) := by decide +kernel
theorem dX5_fly_55 : decode cX5_fly 55 = .ok (.iload 9, 2) := by decide +kernel
theorem dX5_fly_57 : decode cX5_fly 57 = .ok (.invokestatic 96, 3) := by decide +kernel
theorem dX5_fly_60 : decode cX5_fly 60 = .ok (.ifCond .eq 25, 3) := by decide +kernel
theorem dX5_fly_63 : decode cX5_fly 63 = .ok (.aload_n 0, 1) := by decide +kernel
theorem dX5_fly_64 : decode cX5_fly 64 = .ok (.iload_n 1, 1) := by decide +kernel
theorem dX5_fly_65 : decode cX5_fly 65 = .ok (.iload 9, 2) := by decide +kernel
theorem dX5_fly_67 : decode cX5_fly 67 = .ok (.invokevirtual 115, 3) := by decide +kernel
theorem dX5_fly_70 : decode cX5_fly 70 = .ok (.ifCond .eq 15, 3) := by decide +kernel
theorem dX5_fly_73 : decode cX5_fly 73 = .ok (.aload_n 0, 1) := by decide +kernel
theorem dX5_fly_74 : decode cX5_fly 74 = .ok (.iload_n 1, 1) := by decide +kernel
theorem dX5_fly_75 : decode cX5_fly 75 = .ok (.iconst 1, 1) := by decide +kernel
theorem dX5_fly_76 : decode cX5_fly 76 = .ok (.iadd, 1) := by decide +kernel
theorem dX5_fly_77 : decode cX5_fly 77 = .ok (.iload 10, 2) := by decide +kernel
theorem dX5_fly_79 : decode cX5_fly 79 = .ok (.invokevirtual 115, 3) := by decide +kernel
theorem dX5_fly_82 : decode cX5_fly 82 = .ok (.ifCond .ne 4, 3) := by decide +kernel
theorem dX5_fly_85 : decode cX5_fly 85 = .ok (.return_, 1) := by decide +kernel
theorem dX5_fly_86 : decode cX5_fly 86 = .ok (.iload 6, 2) := by decide +kernel
theorem dX5_fly_88 : decode cX5_fly 88 = .ok (.aload_n 0, 1) := by decide +kernel
theorem dX5_fly_89 : decode cX5_fly 89 = .ok (.iload_n 1, 1) := by decide +kernel
theorem dX5_fly_90 : decode cX5_fly 90 = .ok (.iconst 1, 1) := by decide +kernel
theorem dX5_fly_91 : decode cX5_fly 91 = .ok (.iadd, 1) := by decide +kernel
theorem dX5_fly_92 : decode cX5_fly 92 = .ok (.aload_n 0, 1) := by decide +kernel
theorem dX5_fly_93 : decode cX5_fly 93 = .ok (.getfield 21, 3) := by decide +kernel
theorem dX5_fly_96 : decode cX5_fly 96 = .ok (.iload 9, 2) := by decide +kernel
theorem dX5_fly_98 : decode cX5_fly 98 = .ok (.iaload, 1) := by decide +kernel
theorem dX5_fly_99 : decode cX5_fly 99 = .ok (.aload_n 0, 1) := by decide +kernel
theorem dX5_fly_100 : decode cX5_fly 100 = .ok (.getfield 21, 3) := by decide +kernel
theorem dX5_fly_103 : decode cX5_fly 103 = .ok (.iload 10, 2) := by decide +kernel
theorem dX5_fly_105 : decode cX5_fly 105 = .ok (.iaload, 1) := by decide +kernel
theorem dX5_fly_106 : decode cX5_fly 106 = .ok (.invokevirtual 119, 3) := by decide +kernel
theorem dX5_fly_109 : decode cX5_fly 109 = .ok (.imul, 1) := by decide +kernel
theorem dX5_fly_110 : decode cX5_fly 110 = .ok (.istore 11, 2) := by decide +kernel
theorem dX5_fly_112 : decode cX5_fly 112 = .ok (.iload 11, 2) := by decide +kernel
theorem dX5_fly_114 : decode cX5_fly 114 = .ok (.ifCond .ne 4, 3) := by decide +kernel
theorem dX5_fly_117 : decode cX5_fly 117 = .ok (.return_, 1) := by decide +kernel
theorem dX5_fly_118 : decode cX5_fly 118 = .ok (.aload_n 0, 1) := by decide +kernel
theorem dX5_fly_119 : decode cX5_fly 119 = .ok (.getfield 41, 3) := by decide +kernel
theorem dX5_fly_122 : decode cX5_fly 122 = .ok (.iload_n 1, 1) := by decide +kernel
theorem dX5_fly_123 : decode cX5_fly 123 = .ok (.iconst 1, 1) := by decide +kernel
theorem dX5_fly_124 : decode cX5_fly 124 = .ok (.iadd, 1) := by decide +kernel
theorem dX5_fly_125 : decode cX5_fly 125 = .ok (.iload 10, 2) := by decide +kernel
theorem dX5_fly_127 : decode cX5_fly 127 = .ok (.iastore, 1) := by decide +kernel
theorem dX5_fly_128 : decode cX5_fly 128 = .ok (.aload_n 0, 1) := by decide +kernel
theorem dX5_fly_129 : decode cX5_fly 129 = .ok (.getfield 54, 3) := by decide +kernel
theorem dX5_fly_132 : decode cX5_fly 132 = .ok (.istore 12, 2) := by decide +kernel
theorem dX5_fly_134 : decode cX5_fly 134 = .ok (.iload_n 1, 1) := by decide +kernel
theorem dX5_fly_135 : decode cX5_fly 135 = .ok (.iconst 1, 1) := by decide +kernel
theorem dX5_fly_136 : decode cX5_fly 136 = .ok (.iadd, 1) := by decide +kernel
theorem dX5_fly_137 : decode cX5_fly 137 = .ok (.aload_n 0, 1) := by decide +kernel
theorem dX5_fly_138 : decode cX5_fly 138 = .ok (.getfield 24, 3) := by decide +kernel
theorem dX5_fly_141 : decode cX5_fly 141 = .ok (.if_icmp .ne 17, 3) := by decide +kernel
theorem dX5_fly_144 : decode cX5_fly 144 = .ok (.aload_n 0, 1) := by decide +kernel
theorem dX5_fly_145 : decode cX5_fly 145 = .ok (.iload_n 2, 1) := by decide +kernel
theorem dX5_fly_146 : decode cX5_fly 146 = .ok (.iload 4, 2) := by decide +kernel
theorem dX5_fly_148 : decode cX5_fly 148 = .ok (.iload 5, 2) := by decide +kernel
theorem dX5_fly_150 : decode cX5_fly 150 = .ok (.iload 11, 2) := by decide +kernel
theorem dX5_fly_152 : decode cX5_fly 152 = .ok (.invokevirtual 122, 3) := by decide +kernel
theorem dX5_fly_155 : decode cX5_fly 155 = .ok (.goto 20, 3) := by decide +kernel
theorem dX5_fly_158 : decode cX5_fly 158 = .ok (.aload_n 0, 1) := by decide +kernel
theorem dX5_fly_159 : decode cX5_fly 159 = .ok (.iload_n 1, 1) := by decide +kernel
theorem dX5_fly_160 : decode cX5_fly 160 = .ok (.iconst 1, 1) := by decide +kernel
theorem dX5_fly_161 : decode cX5_fly 161 = .ok (.iadd, 1) := by decide +kernel
theorem dX5_fly_162 : decode cX5_fly 162 = .ok (.iload_n 2, 1) := by decide +kernel
theorem dX5_fly_163 : decode cX5_fly 163 = .ok (.iload_n 3, 1) := by decide +kernel
theorem dX5_fly_164 : decode cX5_fly 164 = .ok (.iload 4, 2) := by decide +kernel
theorem dX5_fly_166 : decode cX5_fly 166 = .ok (.iload 5, 2) := by decide +kernel
theorem dX5_fly_168 : decode cX5_fly 168 = .ok (.iload 11, 2) := by decide +kernel
theorem dX5_fly_170 : decode cX5_fly 170 = .ok (.iload 8, 2) := by decide +kernel
theorem dX5_fly_172 : decode cX5_fly 172 = .ok (.invokevirtual 126, 3) := by decide +kernel
theorem dX5_fly_175 : decode cX5_fly 175 = .ok (.aload_n 0, 1) := by decide +kernel
theorem dX5_fly_176 : decode cX5_fly 176 = .ok (.getfield 54, 3) := by decide +kernel
theorem dX5_fly_179 : decode cX5_fly 179 = .ok (.iload 12, 2) := by decide +kernel
theorem dX5_fly_181 : decode cX5_fly 181 = .ok (.if_icmp .le 12, 3) := by decide +kernel
theorem dX5_fly_184 : decode cX5_fly 184 = .ok (.aload_n 0, 1) := by decide +kernel
theorem dX5_fly_185 : decode cX5_fly 185 = .ok (.iload_n 1, 1) := by decide +kernel
theorem dX5_fly_186 : decode cX5_fly 186 = .ok (.iconst 1, 1) := by decide +kernel
theorem dX5_fly_187 : decode cX5_fly 187 = .ok (.iadd, 1) := by decide +kernel
theorem dX5_fly_188 : decode cX5_fly 188 = .ok (.iload 10, 2) := by decide +kernel
theorem dX5_fly_190 : decode cX5_fly 190 = .ok (.invokevirtual 107, 3) := by decide +kernel
theorem dX5_fly_193 : decode cX5_fly 193 = .ok (.return_, 1) := by decide +kernel
set_option maxRecDepth 20000 in
theorem ggX5_choose_X5_fly : GoodIn wsX5_choose wsX5_fly := goodIn_r _ [12, 13, 14, 15, 16, 17, 18, 19, 20, 21, 22, 23, 24, 25, 26, 6, 27, 28, 29, 30, 31, 32, 33, 34, 35, 36, 37, 38, 39, 40, 41, 42, 11, 43, 44, 45, 46, 47, 48, 49, 50, 51, 52, 53, 54, 55, 56, 0, 1, 2, 3, 4, 5, 7, 8, 9, 10, 57, 58, 59, 60, 61, 62, 63, 64, 65, 66, 67, 68, 69, 70, 71, 72, 73, 74, 75, 76] (by decide +kernel) (by decide +kernel)
set_option maxRecDepth 20000 in
theorem gX5_choose_X5_fly : GoodIn wsX5_choose (wsV RX5 103 RX5 yX5_fly wsX5_fly) := goodIn_app (goodIn_of _ (by decide +kernel)) ggX5_choose_X5_fly
set_option maxRecDepth 20000 in
theorem ggX5_choose_X5_isFound : GoodIn wsX5_choose wsX5_isFound := goodIn_r _ [10, 11, 57, 58, 59, 60, 61, 62, 63, 64, 65, 66, 67, 68, 69, 70, 71, 72, 73, 74, 75, 76] (by decide +kernel) (by decide +kernel)
set_option maxRecDepth 20000 in
theorem gX5_choose_X5_isFound : GoodIn wsX5_choose (wsV RX5 129 RX5 yX5_isFound wsX5_isFound) := goodIn_app (goodIn_of _ (by decide +kernel)) ggX5_choose_X5_isFound
theorem dX5_choose_0 : decode cX5_choose 0 = .ok (.aload_n 0, 1) := by decide +kernel
theorem dX5_choose_1 : decode cX5_choose 1 = .ok (.getfield 31, 3) := by decide +kernel
theorem dX5_choose_4 : decode cX5_choose 4 = .ok (.ifCond .eq 17, 3) := by decide +kernel
theorem dX5_choose_7 : decode cX5_choose 7 = .ok (.iload 5, 2) := by decide +kernel
theorem dX5_choose_9 : decode cX5_choose 9 = .ok (.ifCond .ne 12, 3) := by decide +kernel
theorem dX5_choose_12 : decode cX5_choose 12 = .ok (.iload_n 3, 1) := by decide +kernel
theorem dX5_choose_13 : decode cX5_choose 13 = .ok (.iconst 1, 1) := by decide +kernel
theorem dX5_choose_14 : decode cX5_choose 14 = .ok (.if_icmp .le 7, 3) := by decide +kernel
theorem dX5_choose_17 : decode cX5_choose 17 = .ok (.iconst 1, 1) := by decide +kernel
theorem dX5_choose_18 : decode cX5_choose 18 = .ok (.goto 4, 3) := by decide +kernel
theorem dX5_choose_21 : decode cX5_choose 21 = .ok (.iconst 0, 1) := by decide +kernel
theorem dX5_choose_22 : decode cX5_choose 22 = .ok (.istore 8, 2) := by decide +kernel
theorem dX5_choose_24 : decode cX5_choose 24 = .ok (.aload_n 0, 1) := by decide +kernel
theorem dX5_choose_25 : decode cX5_choose 25 = .ok (.iload_n 1, 1) := by decide +kernel
theorem dX5_choose_26 : decode cX5_choose 26 = .ok (.iload_n 2, 1) := by decide +kernel
theorem dX5_choose_27 : decode cX5_choose 27 = .ok (.iload_n 3, 1) := by decide +kernel
theorem dX5_choose_28 : decode cX5_choose 28 = .ok (.iload 4, 2) := by decide +kernel
theorem dX5_choose_30 : decode cX5_choose 30 = .ok (.iload 5, 2) := by decide +kernel
theorem dX5_choose_32 : decode cX5_choose 32 = .ok (.iload 6, 2) := by decide +kernel
theorem dX5_choose_34 : decode cX5_choose 34 = .ok (.iload 7, 2) := by decide +kernel
theorem dX5_choose_36 : decode cX5_choose 36 = .ok (.invokevirtual 103, 3) := by decide +kernel
theorem dX5_choose_39 : decode cX5_choose 39 = .ok (.iload 8, 2) := by decide +kernel
theorem dX5_choose_41 : decode cX5_choose 41 = .ok (.ifCond .eq 26, 3) := by decide +kernel
theorem dX5_choose_44 : decode cX5_choose 44 = .ok (.aload_n 0, 1) := by decide +kernel
theorem dX5_choose_45 : decode cX5_choose 45 = .ok (.invokevirtual 129, 3) := by decide +kernel
theorem dX5_choose_48 : decode cX5_choose 48 = .ok (.ifCond .ne 19, 3) := by decide +kernel
theorem dX5_choose_51 : decode cX5_choose 51 = .ok (.aload_n 0, 1) := by decide +kernel
theorem dX5_choose_52 : decode cX5_choose 52 = .ok (.iload_n 1, 1) := by decide +kernel
theorem dX5_choose_53 : decode cX5_choose 53 = .ok (.iload_n 2, 1) := by decide +kernel
theorem dX5_choose_54 : decode cX5_choose 54 = .ok (.iload_n 3, 1) := by decide +kernel
theorem dX5_choose_55 : decode cX5_choose 55 = .ok (.iconst 1, 1) := by decide +kernel
theorem dX5_choose_56 : decode cX5_choose 56 = .ok (.isub, 1) := by decide +kernel
theorem dX5_choose_57 : decode cX5_choose 57 = .ok (.iload 4, 2) := by decide +kernel
theorem dX5_choose_59 : decode cX5_choose 59 = .ok (.iconst 1, 1) := by decide +kernel
theorem dX5_choose_60 : decode cX5_choose 60 = .ok (.iload 6, 2) := by decide +kernel
theorem dX5_choose_62 : decode cX5_choose 62 = .ok (.iload 7, 2) := by decide +kernel
theorem dX5_choose_64 : decode cX5_choose 64 = .ok (.invokevirtual 103, 3) := by decide +kernel
theorem dX5_choose_67 : decode cX5_choose 67 = .ok (.iload 4, 2) := by decide +kernel
theorem dX5_choose_69 : decode cX5_choose 69 = .ok (.aload_n 0, 1) := by decide +kernel
theorem dX5_choose_70 : decode cX5_choose 70 = .ok (.getfield 28, 3) := by decide +kernel
theorem dX5_choose_73 : decode cX5_choose 73 = .ok (.if_icmp .lt 4, 3) := by decide +kernel
theorem dX5_choose_76 : decode cX5_choose 76 = .ok (.return_, 1) := by decide +kernel
theorem dX5_choose_77 : decode cX5_choose 77 = .ok (.iconst 0, 1) := by decide +kernel
theorem dX5_choose_78 : decode cX5_choose 78 = .ok (.istore 9, 2) := by decide +kernel
theorem dX5_choose_80 : decode cX5_choose 80 = .ok (.iload 9, 2) := by decide +kernel
theorem dX5_choose_82 : decode cX5_choose 82 = .ok (.bipush 8, 2) := by decide +kernel
theorem dX5_choose_84 : decode cX5_choose 84 = .ok (.if_icmp .ge 74, 3) := by decide +kernel
theorem dX5_choose_87 : decode cX5_choose 87 = .ok (.aload_n 0, 1) := by decide +kernel
theorem dX5_choose_88 : decode cX5_choose 88 = .ok (.invokevirtual 129, 3) := by decide +kernel
theorem dX5_choose_91 : decode cX5_choose 91 = .ok (.ifCond .ne 67, 3) := by decide +kernel
theorem dX5_choose_94 : decode cX5_choose 94 = .ok (.iload 9, 2) := by decide +kernel
theorem dX5_choose_96 : decode cX5_choose 96 = .ok (.iload_n 2, 1) := by decide +kernel
theorem dX5_choose_97 : decode cX5_choose 97 = .ok (.if_icmp .ne 6, 3) := by decide +kernel
theorem dX5_choose_100 : decode cX5_choose 100 = .ok (.goto 52, 3) := by decide +kernel
theorem dX5_choose_103 : decode cX5_choose 103 = .ok (.aload_n 0, 1) := by decide +kernel
theorem dX5_choose_104 : decode cX5_choose 104 = .ok (.iload_n 1, 1) := by decide +kernel
theorem dX5_choose_105 : decode cX5_choose 105 = .ok (.iload 9, 2) := by decide +kernel
theorem dX5_choose_107 : decode cX5_choose 107 = .ok (.iload_n 3, 1) := by decide +kernel
theorem dX5_choose_108 : decode cX5_choose 108 = .ok (.iload 4, 2) := by decide +kernel
theorem dX5_choose_110 : decode cX5_choose 110 = .ok (.iconst 1, 1) := by decide +kernel
theorem dX5_choose_111 : decode cX5_choose 111 = .ok (.iadd, 1) := by decide +kernel
theorem dX5_choose_112 : decode cX5_choose 112 = .ok (.iload 5, 2) := by decide +kernel
theorem dX5_choose_114 : decode cX5_choose 114 = .ok (.iload 6, 2) := by decide +kernel
theorem dX5_choose_116 : decode cX5_choose 116 = .ok (.iload 7, 2) := by decide +kernel
theorem dX5_choose_118 : decode cX5_choose 118 = .ok (.invokevirtual 103, 3) := by decide +kernel
theorem dX5_choose_121 : decode cX5_choose 121 = .ok (.iload 8, 2) := by decide +kernel
theorem dX5_choose_123 : decode cX5_choose 123 = .ok (.ifCond .eq 29, 3) := by decide +kernel
theorem dX5_choose_126 : decode cX5_choose 126 = .ok (.aload_n 0, 1) := by decide +kernel
theorem dX5_choose_127 : decode cX5_choose 127 = .ok (.invokevirtual 129, 3) := by decide +kernel
theorem dX5_choose_130 : decode cX5_choose 130 = .ok (.ifCond .ne 22, 3) := by decide +kernel
theorem dX5_choose_133 : decode cX5_choose 133 = .ok (.aload_n 0, 1) := by decide +kernel
theorem dX5_choose_134 : decode cX5_choose 134 = .ok (.iload_n 1, 1) := by decide +kernel
theorem dX5_choose_135 : decode cX5_choose 135 = .ok (.iload 9, 2) := by decide +kernel
theorem dX5_choose_137 : decode cX5_choose 137 = .ok (.iload_n 3, 1) := by decide +kernel
theorem dX5_choose_138 : decode cX5_choose 138 = .ok (.iconst 1, 1) := by decide +kernel
theorem dX5_choose_139 : decode cX5_choose 139 = .ok (.isub, 1) := by decide +kernel
theorem dX5_choose_140 : decode cX5_choose 140 = .ok (.iload 4, 2) := by decide +kernel
theorem dX5_choose_142 : decode cX5_choose 142 = .ok (.iconst 1, 1) := by decide +kernel
theorem dX5_choose_143 : decode cX5_choose 143 = .ok (.iadd, 1) := by decide +kernel
theorem dX5_choose_144 : decode cX5_choose 144 = .ok (.iconst 1, 1) := by decide +kernel
theorem dX5_choose_145 : decode cX5_choose 145 = .ok (.iload 6, 2) := by decide +kernel
theorem dX5_choose_147 : decode cX5_choose 147 = .ok (.iload 7, 2) := by decide +kernel
theorem dX5_choose_149 : decode cX5_choose 149 = .ok (.invokevirtual 103, 3) := by decide +kernel
theorem dX5_choose_152 : decode cX5_choose 152 = .ok (.iinc 9 1, 3) := by decide +kernel
theorem dX5_choose_155 : decode cX5_choose 155 = .ok (.goto (-75), 3) := by decide +kernel
theorem dX5_choose_158 : decode cX5_choose 158 = .ok (.return_, 1) := by decide +kernel
set_option maxRecDepth 20000 in
theorem ggX5_arrive_X6_ahead : GoodIn wsX5_arrive wsX6_ahead := goodIn_r _ [13, 14, 15] (by decide +kernel) (by decide +kernel)
set_option maxRecDepth 20000 in
theorem gX5_arrive_X6_ahead_n111 : GoodIn wsX5_arrive (wsX6_ahead) := ggX5_arrive_X6_ahead
theorem dX5_arrive_0 : decode cX5_arrive 0 = .ok (.bipush 32, 2) := by decide +kernel
theorem dX5_arrive_2 : decode cX5_arrive 2 = .ok (.iconst 2, 1) := by decide +kernel
theorem dX5_arrive_3 : decode cX5_arrive 3 = .ok (.iload_n 2, 1) := by decide +kernel
theorem dX5_arrive_4 : decode cX5_arrive 4 = .ok (.imul, 1) := by decide +kernel
theorem dX5_arrive_5 : decode cX5_arrive 5 = .ok (.iload_n 3, 1) := by decide +kernel
theorem dX5_arrive_6 : decode cX5_arrive 6 = .ok (.iadd, 1) := by decide +kernel
theorem dX5_arrive_7 : decode cX5_arrive 7 = .ok (.ishr, 1) := by decide +kernel
theorem dX5_arrive_8 : decode cX5_arrive 8 = .ok (.iload 4, 2) := by decide +kernel
theorem dX5_arrive_10 : decode cX5_arrive 10 = .ok (.imul, 1) := by decide +kernel
theorem dX5_arrive_11 : decode cX5_arrive 11 = .ok (.istore 5, 2) := by decide +kernel
theorem dX5_arrive_13 : decode cX5_arrive 13 = .ok (.aload_n 0, 1) := by decide +kernel
theorem dX5_arrive_14 : decode cX5_arrive 14 = .ok (.getfield 61, 3) := by decide +kernel
theorem dX5_arrive_17 : decode cX5_arrive 17 = .ok (.ifCond .le 14, 3) := by decide +kernel
theorem dX5_arrive_20 : decode cX5_arrive 20 = .ok (.aload_n 0, 1) := by decide +kernel
theorem dX5_arrive_21 : decode cX5_arrive 21 = .ok (.dup, 1) := by decide +kernel
theorem dX5_arrive_22 : decode cX5_arrive 22 = .ok (.getfield 61, 3) := by decide +kernel
theorem dX5_arrive_25 : decode cX5_arrive 25 = .ok (.iconst 1, 1) := by decide +kernel
theorem dX5_arrive_26 : decode cX5_arrive 26 = .ok (.isub, 1) := by decide +kernel
theorem dX5_arrive_27 : decode cX5_arrive 27 = .ok (.putfield 61, 3) := by decide +kernel
theorem dX5_arrive_30 : decode cX5_arrive 30 = .ok (.return_, 1) := by decide +kernel
theorem dX5_arrive_31 : decode cX5_arrive 31 = .ok (.aload_n 0, 1) := by decide +kernel
theorem dX5_arrive_32 : decode cX5_arrive 32 = .ok (.getfield 61, 3) := by decide +kernel
theorem dX5_arrive_35 : decode cX5_arrive 35 = .ok (.ifCond .ne 26, 3) := by decide +kernel
theorem dX5_arrive_38 : decode cX5_arrive 38 = .ok (.aload_n 0, 1) := by decide +kernel
theorem dX5_arrive_39 : decode cX5_arrive 39 = .ok (.bipush (-2), 2) := by decide +kernel
theorem dX5_arrive_41 : decode cX5_arrive 41 = .ok (.putfield 61, 3) := by decide +kernel
theorem dX5_arrive_44 : decode cX5_arrive 44 = .ok (.aload_n 0, 1) := by decide +kernel
theorem dX5_arrive_45 : decode cX5_arrive 45 = .ok (.iload 5, 2) := by decide +kernel
theorem dX5_arrive_47 : decode cX5_arrive 47 = .ok (.putfield 67, 3) := by decide +kernel
theorem dX5_arrive_50 : decode cX5_arrive 50 = .ok (.aload_n 0, 1) := by decide +kernel
theorem dX5_arrive_51 : decode cX5_arrive 51 = .ok (.iload_n 2, 1) := by decide +kernel
theorem dX5_arrive_52 : decode cX5_arrive 52 = .ok (.putfield 70, 3) := by decide +kernel
theorem dX5_arrive_55 : decode cX5_arrive 55 = .ok (.aload_n 0, 1) := by decide +kernel
theorem dX5_arrive_56 : decode cX5_arrive 56 = .ok (.iload_n 3, 1) := by decide +kernel
theorem dX5_arrive_57 : decode cX5_arrive 57 = .ok (.putfield 73, 3) := by decide +kernel
theorem dX5_arrive_60 : decode cX5_arrive 60 = .ok (.return_, 1) := by decide +kernel
theorem dX5_arrive_61 : decode cX5_arrive 61 = .ok (.aload_n 0, 1) := by decide +kernel
theorem dX5_arrive_62 : decode cX5_arrive 62 = .ok (.dup, 1) := by decide +kernel
theorem dX5_arrive_63 : decode cX5_arrive 63 = .ok (.getfield 54, 3) := by decide +kernel
theorem dX5_arrive_66 : decode cX5_arrive 66 = .ok (.iconst 1, 1) := by decide +kernel
theorem dX5_arrive_67 : decode cX5_arrive 67 = .ok (.iadd, 1) := by decide +kernel
theorem dX5_arrive_68 : decode cX5_arrive 68 = .ok (.putfield 54, 3) := by decide +kernel
theorem dX5_arrive_71 : decode cX5_arrive 71 = .ok (.aload_n 0, 1) := by decide +kernel
theorem dX5_arrive_72 : decode cX5_arrive 72 = .ok (.dup, 1) := by decide +kernel
theorem dX5_arrive_73 : decode cX5_arrive 73 = .ok (.getfield 57, 3) := by decide +kernel
theorem dX5_arrive_76 : decode cX5_arrive 76 = .ok (.iload 5, 2) := by decide +kernel
theorem dX5_arrive_78 : decode cX5_arrive 78 = .ok (.i2l, 1) := by decide +kernel
theorem dX5_arrive_79 : decode cX5_arrive 79 = .ok (.ladd, 1) := by decide +kernel
theorem dX5_arrive_80 : decode cX5_arrive 80 = .ok (.putfield 57, 3) := by decide +kernel
theorem dX5_arrive_83 : decode cX5_arrive 83 = .ok (.iconst 0, 1) := by decide +kernel
theorem dX5_arrive_84 : decode cX5_arrive 84 = .ok (.istore 6, 2) := by decide +kernel
theorem dX5_arrive_86 : decode cX5_arrive 86 = .ok (.iload 6, 2) := by decide +kernel
theorem dX5_arrive_88 : decode cX5_arrive 88 = .ok (.aload_n 0, 1) := by decide +kernel
theorem dX5_arrive_89 : decode cX5_arrive 89 = .ok (.getfield 38, 3) := by decide +kernel
theorem dX5_arrive_92 : decode cX5_arrive 92 = .ok (.if_icmp .gt 58, 3) := by decide +kernel
theorem dX5_arrive_95 : decode cX5_arrive 95 = .ok (.aload_n 0, 1) := by decide +kernel
theorem dX5_arrive_96 : decode cX5_arrive 96 = .ok (.getfield 41, 3) := by decide +kernel
theorem dX5_arrive_99 : decode cX5_arrive 99 = .ok (.aload_n 0, 1) := by decide +kernel
theorem dX5_arrive_100 : decode cX5_arrive 100 = .ok (.getfield 24, 3) := by decide +kernel
theorem dX5_arrive_103 : decode cX5_arrive 103 = .ok (.iaload, 1) := by decide +kernel
theorem dX5_arrive_104 : decode cX5_arrive 104 = .ok (.iload_n 1, 1) := by decide +kernel
theorem dX5_arrive_105 : decode cX5_arrive 105 = .ok (.iload 6, 2) := by decide +kernel
theorem dX5_arrive_107 : decode cX5_arrive 107 = .ok (.invokestatic 111, 3) := by decide +kernel
theorem dX5_arrive_110 : decode cX5_arrive 110 = .ok (.istore 7, 2) := by decide +kernel
theorem dX5_arrive_112 : decode cX5_arrive 112 = .ok (.iload 7, 2) := by decide +kernel
theorem dX5_arrive_114 : decode cX5_arrive 114 = .ok (.iconst (-1), 1) := by decide +kernel
theorem dX5_arrive_115 : decode cX5_arrive 115 = .ok (.if_icmp .eq 29, 3) := by decide +kernel
theorem dX5_arrive_118 : decode cX5_arrive 118 = .ok (.aload_n 0, 1) := by decide +kernel
theorem dX5_arrive_119 : decode cX5_arrive 119 = .ok (.getfield 44, 3) := by decide +kernel
theorem dX5_arrive_122 : decode cX5_arrive 122 = .ok (.iload 7, 2) := by decide +kernel
theorem dX5_arrive_124 : decode cX5_arrive 124 = .ok (.dup2, 1) := by decide +kernel
theorem dX5_arrive_125 : decode cX5_arrive 125 = .ok (.laload, 1) := by decide +kernel
theorem dX5_arrive_126 : decode cX5_arrive 126 = .ok (.iload 6, 2) := by decide +kernel
theorem dX5_arrive_128 : decode cX5_arrive 128 = .ok (.ifCond .ne 11, 3) := by decide +kernel
theorem dX5_arrive_131 : decode cX5_arrive 131 = .ok (.iconst 2, 1) := by decide +kernel
theorem dX5_arrive_132 : decode cX5_arrive 132 = .ok (.iload 5, 2) := by decide +kernel
theorem dX5_arrive_134 : decode cX5_arrive 134 = .ok (.imul, 1) := by decide +kernel
theorem dX5_arrive_135 : decode cX5_arrive 135 = .ok (.i2l, 1) := by decide +kernel
theorem dX5_arrive_136 : decode cX5_arrive 136 = .ok (.goto 6, 3) := by decide +kernel
theorem dX5_arrive_139 : decode cX5_arrive 139 = .ok (.iload 5, 2) := by decide +kernel
theorem dX5_arrive_141 : decode cX5_arrive 141 = .ok (.i2l, 1) := by decide +kernel
theorem dX5_arrive_142 : decode cX5_arrive 142 = .ok (.ladd, 1) := by decide +kernel
theorem dX5_arrive_143 : decode cX5_arrive 143 = .ok (.lastore, 1) := by decide +kernel
theorem dX5_arrive_144 : decode cX5_arrive 144 = .ok (.iinc 6 1, 3) := by decide +kernel
theorem dX5_arrive_147 : decode cX5_arrive 147 = .ok (.goto (-61), 3) := by decide +kernel
theorem dX5_arrive_150 : decode cX5_arrive 150 = .ok (.return_, 1) := by decide +kernel
theorem dX5_see_0 : decode cX5_see 0 = .ok (.aload_n 0, 1) := by decide +kernel
theorem dX5_see_1 : decode cX5_see 1 = .ok (.getfield 48, 3) := by decide +kernel
theorem dX5_see_4 : decode cX5_see 4 = .ok (.bipush 10, 2) := by decide +kernel
theorem dX5_see_6 : decode cX5_see 6 = .ok (.iload_n 1, 1) := by decide +kernel
theorem dX5_see_7 : decode cX5_see 7 = .ok (.imul, 1) := by decide +kernel
theorem dX5_see_8 : decode cX5_see 8 = .ok (.iload_n 2, 1) := by decide +kernel
theorem dX5_see_9 : decode cX5_see 9 = .ok (.bipush 10, 2) := by decide +kernel
theorem dX5_see_11 : decode cX5_see 11 = .ok (.idiv, 1) := by decide +kernel
theorem dX5_see_12 : decode cX5_see 12 = .ok (.iadd, 1) := by decide +kernel
theorem dX5_see_13 : decode cX5_see 13 = .ok (.dup2, 1) := by decide +kernel
theorem dX5_see_14 : decode cX5_see 14 = .ok (.iaload, 1) := by decide +kernel
theorem dX5_see_15 : decode cX5_see 15 = .ok (.iconst 1, 1) := by decide +kernel
theorem dX5_see_16 : decode cX5_see 16 = .ok (.iload_n 2, 1) := by decide +kernel
theorem dX5_see_17 : decode cX5_see 17 = .ok (.bipush 10, 2) := by decide +kernel
theorem dX5_see_19 : decode cX5_see 19 = .ok (.irem, 1) := by decide +kernel
theorem dX5_see_20 : decode cX5_see 20 = .ok (.ishl, 1) := by decide +kernel
theorem dX5_see_21 : decode cX5_see 21 = .ok (.ior, 1) := by decide +kernel
theorem dX5_see_22 : decode cX5_see 22 = .ok (.iastore, 1) := by decide +kernel
theorem dX5_see_23 : decode cX5_see 23 = .ok (.return_, 1) := by decide +kernel
theorem dX5_isLet_0 : decode cX5_isLet 0 = .ok (.aload_n 0, 1) := by decide +kernel
theorem dX5_isLet_1 : decode cX5_isLet 1 = .ok (.getfield 18, 3) := by decide +kernel
theorem dX5_isLet_4 : decode cX5_isLet 4 = .ok (.iload_n 1, 1) := by decide +kernel
theorem dX5_isLet_5 : decode cX5_isLet 5 = .ok (.iaload, 1) := by decide +kernel
theorem dX5_isLet_6 : decode cX5_isLet 6 = .ok (.iconst (-1), 1) := by decide +kernel
theorem dX5_isLet_7 : decode cX5_isLet 7 = .ok (.if_icmp .eq 13, 3) := by decide +kernel
theorem dX5_isLet_10 : decode cX5_isLet 10 = .ok (.aload_n 0, 1) := by decide +kernel
theorem dX5_isLet_11 : decode cX5_isLet 11 = .ok (.getfield 18, 3) := by decide +kernel
theorem dX5_isLet_14 : decode cX5_isLet 14 = .ok (.iload_n 1, 1) := by decide +kernel
theorem dX5_isLet_15 : decode cX5_isLet 15 = .ok (.iaload, 1) := by decide +kernel
theorem dX5_isLet_16 : decode cX5_isLet 16 = .ok (.iload_n 2, 1) := by decide +kernel
theorem dX5_isLet_17 : decode cX5_isLet 17 = .ok (.if_icmp .ne 7, 3) := by decide +kernel
theorem dX5_isLet_20 : decode cX5_isLet 20 = .ok (.iconst 1, 1) := by decide +kernel
theorem dX5_isLet_21 : decode cX5_isLet 21 = .ok (.goto 4, 3) := by decide +kernel
theorem dX5_isLet_24 : decode cX5_isLet 24 = .ok (.iconst 0, 1) := by decide +kernel
theorem dX5_isLet_25 : decode cX5_isLet 25 = .ok (.ireturn, 1) := by decide +kernel
theorem dX5_isFound_0 : decode cX5_isFound 0 = .ok (.aload_n 0, 1) := by decide +kernel
theorem dX5_isFound_1 : decode cX5_isFound 1 = .ok (.getfield 61, 3) := by decide +kernel
theorem dX5_isFound_4 : decode cX5_isFound 4 = .ok (.bipush (-2), 2) := by decide +kernel
theorem dX5_isFound_6 : decode cX5_isFound 6 = .ok (.if_icmp .ne 7, 3) := by decide +kernel
theorem dX5_isFound_9 : decode cX5_isFound 9 = .ok (.iconst 1, 1) := by decide +kernel
theorem dX5_isFound_10 : decode cX5_isFound 10 = .ok (.goto 4, 3) := by decide +kernel
theorem dX5_isFound_13 : decode cX5_isFound 13 = .ok (.iconst 0, 1) := by decide +kernel
theorem dX5_isFound_14 : decode cX5_isFound 14 = .ok (.ireturn, 1) := by decide +kernel
theorem dX5_ringGives_0 : decode cX5_ringGives 0 = .ok (.aload_n 0, 1) := by decide +kernel
theorem dX5_ringGives_1 : decode cX5_ringGives 1 = .ok (.getfield 15, 3) := by decide +kernel
theorem dX5_ringGives_4 : decode cX5_ringGives 4 = .ok (.iload_n 1, 1) := by decide +kernel
theorem dX5_ringGives_5 : decode cX5_ringGives 5 = .ok (.iaload, 1) := by decide +kernel
theorem dX5_ringGives_6 : decode cX5_ringGives 6 = .ok (.istore 4, 2) := by decide +kernel
theorem dX5_ringGives_8 : decode cX5_ringGives 8 = .ok (.iload 4, 2) := by decide +kernel
theorem dX5_ringGives_10 : decode cX5_ringGives 10 = .ok (.iconst 1, 1) := by decide +kernel
theorem dX5_ringGives_11 : decode cX5_ringGives 11 = .ok (.if_icmp .ne 8, 3) := by decide +kernel
theorem dX5_ringGives_14 : decode cX5_ringGives 14 = .ok (.iload_n 3, 1) := by decide +kernel
theorem dX5_ringGives_15 : decode cX5_ringGives 15 = .ok (.iload_n 2, 1) := by decide +kernel
theorem dX5_ringGives_16 : decode cX5_ringGives 16 = .ok (.if_icmp .ge 14, 3) := by decide +kernel
theorem dX5_ringGives_19 : decode cX5_ringGives 19 = .ok (.iload 4, 2) := by decide +kernel
theorem dX5_ringGives_21 : decode cX5_ringGives 21 = .ok (.iconst 2, 1) := by decide +kernel
theorem dX5_ringGives_22 : decode cX5_ringGives 22 = .ok (.if_icmp .ne 10, 3) := by decide +kernel
theorem dX5_ringGives_25 : decode cX5_ringGives 25 = .ok (.iload_n 3, 1) := by decide +kernel
theorem dX5_ringGives_26 : decode cX5_ringGives 26 = .ok (.iload_n 2, 1) := by decide +kernel
theorem dX5_ringGives_27 : decode cX5_ringGives 27 = .ok (.if_icmp .gt 5, 3) := by decide +kernel
theorem dX5_ringGives_30 : decode cX5_ringGives 30 = .ok (.iconst 0, 1) := by decide +kernel
theorem dX5_ringGives_31 : decode cX5_ringGives 31 = .ok (.ireturn, 1) := by decide +kernel
theorem dX5_ringGives_32 : decode cX5_ringGives 32 = .ok (.aload_n 0, 1) := by decide +kernel
theorem dX5_ringGives_33 : decode cX5_ringGives 33 = .ok (.getfield 9, 3) := by decide +kernel
theorem dX5_ringGives_36 : decode cX5_ringGives 36 = .ok (.iload_n 1, 1) := by decide +kernel
theorem dX5_ringGives_37 : decode cX5_ringGives 37 = .ok (.iaload, 1) := by decide +kernel
theorem dX5_ringGives_38 : decode cX5_ringGives 38 = .ok (.iconst (-1), 1) := by decide +kernel
theorem dX5_ringGives_39 : decode cX5_ringGives 39 = .ok (.if_icmp .ne 5, 3) := by decide +kernel
theorem dX5_ringGives_42 : decode cX5_ringGives 42 = .ok (.iconst 1, 1) := by decide +kernel
theorem dX5_ringGives_43 : decode cX5_ringGives 43 = .ok (.ireturn, 1) := by decide +kernel
theorem dX5_ringGives_44 : decode cX5_ringGives 44 = .ok (.iload_n 3, 1) := by decide +kernel
theorem dX5_ringGives_45 : decode cX5_ringGives 45 = .ok (.aload_n 0, 1) := by decide +kernel
theorem dX5_ringGives_46 : decode cX5_ringGives 46 = .ok (.getfield 9, 3) := by decide +kernel
theorem dX5_ringGives_49 : decode cX5_ringGives 49 = .ok (.iload_n 1, 1) := by decide +kernel
theorem dX5_ringGives_50 : decode cX5_ringGives 50 = .ok (.iaload, 1) := by decide +kernel
theorem dX5_ringGives_51 : decode cX5_ringGives 51 = .ok (.isub, 1) := by decide +kernel
theorem dX5_ringGives_52 : decode cX5_ringGives 52 = .ok (.invokestatic 133, 3) := by decide +kernel
theorem dX5_ringGives_55 : decode cX5_ringGives 55 = .ok (.istore 5, 2) := by decide +kernel
theorem dX5_ringGives_57 : decode cX5_ringGives 57 = .ok (.iload 5, 2) := by decide +kernel
theorem dX5_ringGives_59 : decode cX5_ringGives 59 = .ok (.ifCond .ne 7, 3) := by decide +kernel
theorem dX5_ringGives_62 : decode cX5_ringGives 62 = .ok (.iconst 2, 1) := by decide +kernel
theorem dX5_ringGives_63 : decode cX5_ringGives 63 = .ok (.goto 14, 3) := by decide +kernel
theorem dX5_ringGives_66 : decode cX5_ringGives 66 = .ok (.iload 5, 2) := by decide +kernel
theorem dX5_ringGives_68 : decode cX5_ringGives 68 = .ok (.iconst 1, 1) := by decide +kernel
theorem dX5_ringGives_69 : decode cX5_ringGives 69 = .ok (.if_icmp .ne 7, 3) := by decide +kernel
theorem dX5_ringGives_72 : decode cX5_ringGives 72 = .ok (.iconst 1, 1) := by decide +kernel
theorem dX5_ringGives_73 : decode cX5_ringGives 73 = .ok (.goto 4, 3) := by decide +kernel
theorem dX5_ringGives_76 : decode cX5_ringGives 76 = .ok (.iconst 0, 1) := by decide +kernel
theorem dX5_ringGives_77 : decode cX5_ringGives 77 = .ok (.ireturn, 1) := by decide +kernel
set_option maxRecDepth 20000 in
theorem ggX6_init_X4_init : GoodIn wsX6_init wsX4_init := goodIn_r _ [36, 37, 2, 3, 38, 39, 40, 41, 42, 43, 44, 45, 46, 47, 48, 49, 50, 51, 52, 53, 54, 55, 56, 57, 6, 58, 59, 60, 61, 119, 120, 121, 122, 123, 124, 125, 126, 127, 128, 129, 130, 131, 132, 133, 134] (by decide +kernel) (by decide +kernel)
set_option maxRecDepth 20000 in
theorem gX6_init_X4_init : GoodIn wsX6_init (wsX4_init) := ggX6_init_X4_init
set_option maxRecDepth 20000 in
theorem ggX6_init_X5_init : GoodIn wsX6_init wsX5_init := goodIn_r _ [63, 64, 2, 3, 38, 65, 66, 67, 68, 69, 70, 71, 72, 73, 74, 75, 76, 77, 78, 79, 80, 81, 82, 83, 84, 85, 147, 148, 149, 150, 151, 152, 153, 154, 155, 156, 157, 158, 159, 160, 161, 162, 163, 164, 165, 166] (by decide +kernel) (by decide +kernel)
set_option maxRecDepth 20000 in
theorem gX6_init_X5_init_n21 : GoodIn wsX6_init (wsX5_init) := ggX6_init_X5_init
set_option maxRecDepth 20000 in
theorem ggX6_init_X1_init : GoodIn wsX6_init wsX1_init := goodIn_r _ [88, 89, 2, 3, 38, 90, 91, 92, 93, 94, 16, 95, 167, 168] (by decide +kernel) (by decide +kernel)
set_option maxRecDepth 20000 in
theorem gX6_init_X1_init : GoodIn wsX6_init (wsX1_init) := ggX6_init_X1_init
set_option maxRecDepth 20000 in
theorem ggX6_init_X0_init : GoodIn wsX6_init wsX0_init := goodIn_r _ [98, 99, 2, 3, 75, 100, 101, 102, 103, 169, 170, 171, 172] (by decide +kernel) (by decide +kernel)
set_option maxRecDepth 20000 in
theorem gX6_init_X0_init : GoodIn wsX6_init (wsX0_init) := ggX6_init_X0_init
set_option maxRecDepth 20000 in
theorem ggX6_init_X3_init : GoodIn wsX6_init wsX3_init := goodIn_r _ [105, 106, 2, 3, 38, 107, 108, 109, 110, 111, 112, 173, 174, 175, 176, 177, 178] (by decide +kernel) (by decide +kernel)
set_option maxRecDepth 20000 in
theorem gX6_init_X3_init_n52 : GoodIn wsX6_init (wsX3_init) := ggX6_init_X3_init
set_option maxRecDepth 20000 in
theorem ggX6_init_X2_init : GoodIn wsX6_init wsX2_init := goodIn_r _ [114, 115, 2, 3, 38, 116, 117, 118, 179, 180, 181] (by decide +kernel) (by decide +kernel)
set_option maxRecDepth 20000 in
theorem gX6_init_X2_init_n73 : GoodIn wsX6_init (wsX2_init) := ggX6_init_X2_init
theorem dX6_init_0 : decode cX6_init 0 = .ok (.aload_n 0, 1) := by decide +kernel
theorem dX6_init_1 : decode cX6_init 1 = .ok (.invokespecial 1, 3) := by decide +kernel
theorem dX6_init_4 : decode cX6_init 4 = .ok (.aload_n 0, 1) := by decide +kernel
theorem dX6_init_5 : decode cX6_init 5 = .ok (.new 7, 3) := by decide +kernel
theorem dX6_init_8 : decode cX6_init 8 = .ok (.dup, 1) := by decide +kernel
theorem dX6_init_9 : decode cX6_init 9 = .ok (.invokespecial 9, 3) := by decide +kernel
theorem dX6_init_12 : decode cX6_init 12 = .ok (.putfield 10, 3) := by decide +kernel
theorem dX6_init_15 : decode cX6_init 15 = .ok (.aload_n 0, 1) := by decide +kernel
theorem dX6_init_16 : decode cX6_init 16 = .ok (.new 7, 3) := by decide +kernel
theorem dX6_init_19 : decode cX6_init 19 = .ok (.dup, 1) := by decide +kernel
theorem dX6_init_20 : decode cX6_init 20 = .ok (.invokespecial 9, 3) := by decide +kernel
theorem dX6_init_23 : decode cX6_init 23 = .ok (.putfield 16, 3) := by decide +kernel
theorem dX6_init_26 : decode cX6_init 26 = .ok (.aload_n 0, 1) := by decide +kernel
theorem dX6_init_27 : decode cX6_init 27 = .ok (.new 19, 3) := by decide +kernel
theorem dX6_init_30 : decode cX6_init 30 = .ok (.dup, 1) := by decide +kernel
theorem dX6_init_31 : decode cX6_init 31 = .ok (.invokespecial 21, 3) := by decide +kernel
theorem dX6_init_34 : decode cX6_init 34 = .ok (.putfield 22, 3) := by decide +kernel
theorem dX6_init_37 : decode cX6_init 37 = .ok (.aload_n 0, 1) := by decide +kernel
theorem dX6_init_38 : decode cX6_init 38 = .ok (.new 19, 3) := by decide +kernel
theorem dX6_init_41 : decode cX6_init 41 = .ok (.dup, 1) := by decide +kernel
theorem dX6_init_42 : decode cX6_init 42 = .ok (.invokespecial 21, 3) := by decide +kernel
theorem dX6_init_45 : decode cX6_init 45 = .ok (.putfield 26, 3) := by decide +kernel
theorem dX6_init_48 : decode cX6_init 48 = .ok (.aload_n 0, 1) := by decide +kernel
theorem dX6_init_49 : decode cX6_init 49 = .ok (.new 29, 3) := by decide +kernel
theorem dX6_init_52 : decode cX6_init 52 = .ok (.dup, 1) := by decide +kernel
theorem dX6_init_53 : decode cX6_init 53 = .ok (.aload_n 0, 1) := by decide +kernel
theorem dX6_init_54 : decode cX6_init 54 = .ok (.getfield 10, 3) := by decide +kernel
theorem dX6_init_57 : decode cX6_init 57 = .ok (.invokespecial 31, 3) := by decide +kernel
theorem dX6_init_60 : decode cX6_init 60 = .ok (.putfield 34, 3) := by decide +kernel
theorem dX6_init_63 : decode cX6_init 63 = .ok (.aload_n 0, 1) := by decide +kernel
theorem dX6_init_64 : decode cX6_init 64 = .ok (.new 38, 3) := by decide +kernel
theorem dX6_init_67 : decode cX6_init 67 = .ok (.dup, 1) := by decide +kernel
theorem dX6_init_68 : decode cX6_init 68 = .ok (.aload_n 0, 1) := by decide +kernel
theorem dX6_init_69 : decode cX6_init 69 = .ok (.getfield 10, 3) := by decide +kernel
theorem dX6_init_72 : decode cX6_init 72 = .ok (.aload_n 0, 1) := by decide +kernel
theorem dX6_init_73 : decode cX6_init 73 = .ok (.getfield 34, 3) := by decide +kernel
theorem dX6_init_76 : decode cX6_init 76 = .ok (.invokespecial 40, 3) := by decide +kernel
theorem dX6_init_79 : decode cX6_init 79 = .ok (.putfield 43, 3) := by decide +kernel
theorem dX6_init_82 : decode cX6_init 82 = .ok (.aload_n 0, 1) := by decide +kernel
theorem dX6_init_83 : decode cX6_init 83 = .ok (.new 38, 3) := by decide +kernel
theorem dX6_init_86 : decode cX6_init 86 = .ok (.dup, 1) := by decide +kernel
theorem dX6_init_87 : decode cX6_init 87 = .ok (.aload_n 0, 1) := by decide +kernel
theorem dX6_init_88 : decode cX6_init 88 = .ok (.getfield 10, 3) := by decide +kernel
theorem dX6_init_91 : decode cX6_init 91 = .ok (.aload_n 0, 1) := by decide +kernel
theorem dX6_init_92 : decode cX6_init 92 = .ok (.getfield 34, 3) := by decide +kernel
theorem dX6_init_95 : decode cX6_init 95 = .ok (.invokespecial 40, 3) := by decide +kernel
theorem dX6_init_98 : decode cX6_init 98 = .ok (.putfield 47, 3) := by decide +kernel
theorem dX6_init_101 : decode cX6_init 101 = .ok (.aload_n 0, 1) := by decide +kernel
theorem dX6_init_102 : decode cX6_init 102 = .ok (.new 50, 3) := by decide +kernel
theorem dX6_init_105 : decode cX6_init 105 = .ok (.dup, 1) := by decide +kernel
theorem dX6_init_106 : decode cX6_init 106 = .ok (.invokespecial 52, 3) := by decide +kernel
theorem dX6_init_109 : decode cX6_init 109 = .ok (.putfield 53, 3) := by decide +kernel
theorem dX6_init_112 : decode cX6_init 112 = .ok (.aload_n 0, 1) := by decide +kernel
theorem dX6_init_113 : decode cX6_init 113 = .ok (.iconst 4, 1) := by decide +kernel
theorem dX6_init_114 : decode cX6_init 114 = .ok (.anewarray 57, 3) := by decide +kernel
theorem dX6_init_117 : decode cX6_init 117 = .ok (.putfield 59, 3) := by decide +kernel
theorem dX6_init_120 : decode cX6_init 120 = .ok (.aload_n 0, 1) := by decide +kernel
theorem dX6_init_121 : decode cX6_init 121 = .ok (.iconst 0, 1) := by decide +kernel
theorem dX6_init_122 : decode cX6_init 122 = .ok (.putfield 63, 3) := by decide +kernel
theorem dX6_init_125 : decode cX6_init 125 = .ok (.aload_n 0, 1) := by decide +kernel
theorem dX6_init_126 : decode cX6_init 126 = .ok (.iconst 1, 1) := by decide +kernel
theorem dX6_init_127 : decode cX6_init 127 = .ok (.putfield 67, 3) := by decide +kernel
theorem dX6_init_130 : decode cX6_init 130 = .ok (.aload_n 0, 1) := by decide +kernel
theorem dX6_init_131 : decode cX6_init 131 = .ok (.iconst 1, 1) := by decide +kernel
theorem dX6_init_132 : decode cX6_init 132 = .ok (.putfield 70, 3) := by decide +kernel
theorem dX6_init_135 : decode cX6_init 135 = .ok (.iconst 0, 1) := by decide +kernel
theorem dX6_init_136 : decode cX6_init 136 = .ok (.istore_n 1, 1) := by decide +kernel
theorem dX6_init_137 : decode cX6_init 137 = .ok (.iload_n 1, 1) := by decide +kernel
theorem dX6_init_138 : decode cX6_init 138 = .ok (.iconst 4, 1) := by decide +kernel
theorem dX6_init_139 : decode cX6_init 139 = .ok (.if_icmp .ge 22, 3) := by decide +kernel
theorem dX6_init_142 : decode cX6_init 142 = .ok (.aload_n 0, 1) := by decide +kernel
theorem dX6_init_143 : decode cX6_init 143 = .ok (.getfield 59, 3) := by decide +kernel
theorem dX6_init_146 : decode cX6_init 146 = .ok (.iload_n 1, 1) := by decide +kernel
theorem dX6_init_147 : decode cX6_init 147 = .ok (.new 57, 3) := by decide +kernel
theorem dX6_init_150 : decode cX6_init 150 = .ok (.dup, 1) := by decide +kernel
theorem dX6_init_151 : decode cX6_init 151 = .ok (.invokespecial 73, 3) := by decide +kernel
theorem dX6_init_154 : decode cX6_init 154 = .ok (.aastore, 1) := by decide +kernel
theorem dX6_init_155 : decode cX6_init 155 = .ok (.iinc 1 1, 3) := by decide +kernel
theorem dX6_init_158 : decode cX6_init 158 = .ok (.goto (-21), 3) := by decide +kernel
theorem dX6_init_161 : decode cX6_init 161 = .ok (.return_, 1) := by decide +kernel
set_option maxRecDepth 20000 in
theorem ggX6_set_X6_within : GoodIn wsX6_set wsX6_within := goodIn_r _ [8] (by decide +kernel) (by decide +kernel)
set_option maxRecDepth 20000 in
theorem gX6_set_X6_within : GoodIn wsX6_set (va_wsS RX6 74 yX6_within wsX6_within) := goodIn_app (goodIn_of _ (by decide +kernel)) ggX6_set_X6_within
set_option maxRecDepth 20000 in
theorem ggX6_set_X4_look : GoodIn wsX6_set wsX4_look := goodIn_r _ [13, 14, 15, 16, 17, 12, 18, 48, 49, 50, 51, 52, 53, 54, 55, 56, 57, 58, 59, 60, 61, 62, 63] (by decide +kernel) (by decide +kernel)
set_option maxRecDepth 20000 in
theorem gX6_set_X4_look : GoodIn wsX6_set (wsV RX6 88 RX4 yX4_look wsX4_look) := goodIn_app (goodIn_of _ (by decide +kernel)) ggX6_set_X4_look
set_option maxRecDepth 20000 in
theorem ggX6_set_X6_seaChanged : GoodIn wsX6_set wsX6_seaChanged := goodIn_r _ [22, 23, 24, 25, 26, 27, 28, 29, 30, 36, 37, 38, 39, 40, 41, 42, 43, 44, 45, 46, 47, 64, 65] (by decide +kernel) (by decide +kernel)
set_option maxRecDepth 20000 in
theorem gX6_set_X6_seaChanged : GoodIn wsX6_set (wsV RX6 91 RX6 yX6_seaChanged wsX6_seaChanged) := goodIn_app (goodIn_of _ (by decide +kernel)) ggX6_set_X6_seaChanged
set_option maxRecDepth 20000 in
theorem ggX6_set_X6_waysChanged : GoodIn wsX6_set wsX6_waysChanged := goodIn_r _ [34, 35, 24, 36, 37, 38, 39, 40, 41, 42, 43, 44, 45, 46, 47] (by decide +kernel) (by decide +kernel)
set_option maxRecDepth 20000 in
theorem gX6_set_X6_waysChanged : GoodIn wsX6_set (wsV RX6 94 RX6 yX6_waysChanged wsX6_waysChanged) := goodIn_app (goodIn_of _ (by decide +kernel)) ggX6_set_X6_waysChanged
theorem dX6_set_0 : decode cX6_set 0 = .ok (.iload_n 1, 1) := by decide +kernel
theorem dX6_set_1 : decode cX6_set 1 = .ok (.iconst 0, 1) := by decide +kernel
theorem dX6_set_2 : decode cX6_set 2 = .ok (.bipush 7, 2) := by decide +kernel
theorem dX6_set_4 : decode cX6_set 4 = .ok (.invokestatic 74, 3) := by decide +kernel
theorem dX6_set_7 : decode cX6_set 7 = .ok (.ifCond .eq 20, 3) := by decide +kernel
theorem dX6_set_10 : decode cX6_set 10 = .ok (.iload_n 2, 1) := by decide +kernel
theorem dX6_set_11 : decode cX6_set 11 = .ok (.getstatic 78, 3) := by decide +kernel
theorem dX6_set_14 : decode cX6_set 14 = .ok (.iload_n 1, 1) := by decide +kernel
theorem dX6_set_15 : decode cX6_set 15 = .ok (.iaload, 1) := by decide +kernel
theorem dX6_set_16 : decode cX6_set 16 = .ok (.getstatic 82, 3) := by decide +kernel
theorem dX6_set_19 : decode cX6_set 19 = .ok (.iload_n 1, 1) := by decide +kernel
theorem dX6_set_20 : decode cX6_set 20 = .ok (.iaload, 1) := by decide +kernel
theorem dX6_set_21 : decode cX6_set 21 = .ok (.invokestatic 74, 3) := by decide +kernel
theorem dX6_set_24 : decode cX6_set 24 = .ok (.ifCond .ne 5, 3) := by decide +kernel
theorem dX6_set_27 : decode cX6_set 27 = .ok (.iconst (-1), 1) := by decide +kernel
theorem dX6_set_28 : decode cX6_set 28 = .ok (.ireturn, 1) := by decide +kernel
theorem dX6_set_29 : decode cX6_set 29 = .ok (.aload_n 0, 1) := by decide +kernel
theorem dX6_set_30 : decode cX6_set 30 = .ok (.getfield 10, 3) := by decide +kernel
theorem dX6_set_33 : decode cX6_set 33 = .ok (.getfield 85, 3) := by decide +kernel
theorem dX6_set_36 : decode cX6_set 36 = .ok (.iload_n 1, 1) := by decide +kernel
theorem dX6_set_37 : decode cX6_set 37 = .ok (.iaload, 1) := by decide +kernel
theorem dX6_set_38 : decode cX6_set 38 = .ok (.istore_n 3, 1) := by decide +kernel
theorem dX6_set_39 : decode cX6_set 39 = .ok (.aload_n 0, 1) := by decide +kernel
theorem dX6_set_40 : decode cX6_set 40 = .ok (.getfield 10, 3) := by decide +kernel
theorem dX6_set_43 : decode cX6_set 43 = .ok (.getfield 85, 3) := by decide +kernel
theorem dX6_set_46 : decode cX6_set 46 = .ok (.iload_n 1, 1) := by decide +kernel
theorem dX6_set_47 : decode cX6_set 47 = .ok (.iload_n 2, 1) := by decide +kernel
theorem dX6_set_48 : decode cX6_set 48 = .ok (.iastore, 1) := by decide +kernel
theorem dX6_set_49 : decode cX6_set 49 = .ok (.iload_n 1, 1) := by decide +kernel
theorem dX6_set_50 : decode cX6_set 50 = .ok (.ifCond .ne 10, 3) := by decide +kernel
theorem dX6_set_53 : decode cX6_set 53 = .ok (.aload_n 0, 1) := by decide +kernel
theorem dX6_set_54 : decode cX6_set 54 = .ok (.getfield 10, 3) := by decide +kernel
theorem dX6_set_57 : decode cX6_set 57 = .ok (.invokevirtual 88, 3) := by decide +kernel
theorem dX6_set_60 : decode cX6_set 60 = .ok (.iload_n 1, 1) := by decide +kernel
theorem dX6_set_61 : decode cX6_set 61 = .ok (.bipush 7, 2) := by decide +kernel
theorem dX6_set_63 : decode cX6_set 63 = .ok (.if_icmp .ne 10, 3) := by decide +kernel
theorem dX6_set_66 : decode cX6_set 66 = .ok (.aload_n 0, 1) := by decide +kernel
theorem dX6_set_67 : decode cX6_set 67 = .ok (.invokevirtual 91, 3) := by decide +kernel
theorem dX6_set_70 : decode cX6_set 70 = .ok (.goto 7, 3) := by decide +kernel
theorem dX6_set_73 : decode cX6_set 73 = .ok (.aload_n 0, 1) := by decide +kernel
theorem dX6_set_74 : decode cX6_set 74 = .ok (.invokevirtual 94, 3) := by decide +kernel
theorem dX6_set_77 : decode cX6_set 77 = .ok (.iload_n 3, 1) := by decide +kernel
theorem dX6_set_78 : decode cX6_set 78 = .ok (.ireturn, 1) := by decide +kernel
set_option maxRecDepth 20000 in
theorem ggX6_far_X6_isCell : GoodIn wsX6_far wsX6_isCell := goodIn_r _ [6] (by decide +kernel) (by decide +kernel)
set_option maxRecDepth 20000 in
theorem gX6_far_X6_isCell : GoodIn wsX6_far (va_wsS RX6 97 yX6_isCell wsX6_isCell) := goodIn_app (goodIn_of _ (by decide +kernel)) ggX6_far_X6_isCell
theorem dX6_far_0 : decode cX6_far 0 = .ok (.iload_n 1, 1) := by decide +kernel
theorem dX6_far_1 : decode cX6_far 1 = .ok (.invokestatic 97, 3) := by decide +kernel
theorem dX6_far_4 : decode cX6_far 4 = .ok (.ifCond .eq 15, 3) := by decide +kernel
theorem dX6_far_7 : decode cX6_far 7 = .ok (.aload_n 0, 1) := by decide +kernel
theorem dX6_far_8 : decode cX6_far 8 = .ok (.getfield 10, 3) := by decide +kernel
theorem dX6_far_11 : decode cX6_far 11 = .ok (.getfield 101, 3) := by decide +kernel
theorem dX6_far_14 : decode cX6_far 14 = .ok (.iload_n 1, 1) := by decide +kernel
theorem dX6_far_15 : decode cX6_far 15 = .ok (.iaload, 1) := by decide +kernel
theorem dX6_far_16 : decode cX6_far 16 = .ok (.goto 4, 3) := by decide +kernel
theorem dX6_far_19 : decode cX6_far 19 = .ok (.iconst (-1), 1) := by decide +kernel
theorem dX6_far_20 : decode cX6_far 20 = .ok (.ireturn, 1) := by decide +kernel
set_option maxRecDepth 20000 in
theorem ggX6_ring_X6_within : GoodIn wsX6_ring wsX6_within := goodIn_r _ [7] (by decide +kernel) (by decide +kernel)
set_option maxRecDepth 20000 in
theorem gX6_ring_X6_within : GoodIn wsX6_ring (va_wsS RX6 74 yX6_within wsX6_within) := goodIn_app (goodIn_of _ (by decide +kernel)) ggX6_ring_X6_within
set_option maxRecDepth 20000 in
theorem ggX6_ring_X6_waysChanged : GoodIn wsX6_ring wsX6_waysChanged := goodIn_r _ [11, 12, 13, 14, 15, 16, 17, 18, 19, 20, 21, 22, 23, 24, 25] (by decide +kernel) (by decide +kernel)
set_option maxRecDepth 20000 in
theorem gX6_ring_X6_waysChanged : GoodIn wsX6_ring (wsV RX6 94 RX6 yX6_waysChanged wsX6_waysChanged) := goodIn_app (goodIn_of _ (by decide +kernel)) ggX6_ring_X6_waysChanged
theorem dX6_ring_0 : decode cX6_ring 0 = .ok (.iload_n 1, 1) := by decide +kernel
theorem dX6_ring_1 : decode cX6_ring 1 = .ok (.iconst 1, 1) := by decide +kernel
theorem dX6_ring_2 : decode cX6_ring 2 = .ok (.bipush 6, 2) := by decide +kernel
theorem dX6_ring_4 : decode cX6_ring 4 = .ok (.invokestatic 74, 3) := by decide +kernel
theorem dX6_ring_7 : decode cX6_ring 7 = .ok (.ifCond .eq 12, 3) := by decide +kernel
theorem dX6_ring_10 : decode cX6_ring 10 = .ok (.iload_n 2, 1) := by decide +kernel
theorem dX6_ring_11 : decode cX6_ring 11 = .ok (.iconst 0, 1) := by decide +kernel
theorem dX6_ring_12 : decode cX6_ring 12 = .ok (.iconst 1, 1) := by decide +kernel
theorem dX6_ring_13 : decode cX6_ring 13 = .ok (.invokestatic 74, 3) := by decide +kernel
theorem dX6_ring_16 : decode cX6_ring 16 = .ok (.ifCond .ne 5, 3) := by decide +kernel
theorem dX6_ring_19 : decode cX6_ring 19 = .ok (.iconst (-1), 1) := by decide +kernel
theorem dX6_ring_20 : decode cX6_ring 20 = .ok (.ireturn, 1) := by decide +kernel
theorem dX6_ring_21 : decode cX6_ring 21 = .ok (.iload_n 2, 1) := by decide +kernel
theorem dX6_ring_22 : decode cX6_ring 22 = .ok (.ifCond .ne 16, 3) := by decide +kernel
theorem dX6_ring_25 : decode cX6_ring 25 = .ok (.iload_n 3, 1) := by decide +kernel
theorem dX6_ring_26 : decode cX6_ring 26 = .ok (.iconst (-1), 1) := by decide +kernel
theorem dX6_ring_27 : decode cX6_ring 27 = .ok (.bipush 40, 2) := by decide +kernel
theorem dX6_ring_29 : decode cX6_ring 29 = .ok (.invokestatic 74, 3) := by decide +kernel
theorem dX6_ring_32 : decode cX6_ring 32 = .ok (.ifCond .ne 17, 3) := by decide +kernel
theorem dX6_ring_35 : decode cX6_ring 35 = .ok (.goto 12, 3) := by decide +kernel
theorem dX6_ring_38 : decode cX6_ring 38 = .ok (.iload_n 3, 1) := by decide +kernel
theorem dX6_ring_39 : decode cX6_ring 39 = .ok (.iconst 0, 1) := by decide +kernel
theorem dX6_ring_40 : decode cX6_ring 40 = .ok (.iconst 2, 1) := by decide +kernel
theorem dX6_ring_41 : decode cX6_ring 41 = .ok (.invokestatic 74, 3) := by decide +kernel
theorem dX6_ring_44 : decode cX6_ring 44 = .ok (.ifCond .ne 5, 3) := by decide +kernel
theorem dX6_ring_47 : decode cX6_ring 47 = .ok (.iconst (-1), 1) := by decide +kernel
theorem dX6_ring_48 : decode cX6_ring 48 = .ok (.ireturn, 1) := by decide +kernel
theorem dX6_ring_49 : decode cX6_ring 49 = .ok (.iload_n 2, 1) := by decide +kernel
theorem dX6_ring_50 : decode cX6_ring 50 = .ok (.ifCond .ne 13, 3) := by decide +kernel
theorem dX6_ring_53 : decode cX6_ring 53 = .ok (.aload_n 0, 1) := by decide +kernel
theorem dX6_ring_54 : decode cX6_ring 54 = .ok (.getfield 10, 3) := by decide +kernel
theorem dX6_ring_57 : decode cX6_ring 57 = .ok (.getfield 104, 3) := by decide +kernel
theorem dX6_ring_60 : decode cX6_ring 60 = .ok (.goto 10, 3) := by decide +kernel
theorem dX6_ring_63 : decode cX6_ring 63 = .ok (.aload_n 0, 1) := by decide +kernel
theorem dX6_ring_64 : decode cX6_ring 64 = .ok (.getfield 10, 3) := by decide +kernel
theorem dX6_ring_67 : decode cX6_ring 67 = .ok (.getfield 107, 3) := by decide +kernel
theorem dX6_ring_70 : decode cX6_ring 70 = .ok (.astore 4, 2) := by decide +kernel
theorem dX6_ring_72 : decode cX6_ring 72 = .ok (.aload 4, 2) := by decide +kernel
theorem dX6_ring_74 : decode cX6_ring 74 = .ok (.iload_n 1, 1) := by decide +kernel
theorem dX6_ring_75 : decode cX6_ring 75 = .ok (.iaload, 1) := by decide +kernel
theorem dX6_ring_76 : decode cX6_ring 76 = .ok (.istore 5, 2) := by decide +kernel
theorem dX6_ring_78 : decode cX6_ring 78 = .ok (.aload 4, 2) := by decide +kernel
theorem dX6_ring_80 : decode cX6_ring 80 = .ok (.iload_n 1, 1) := by decide +kernel
theorem dX6_ring_81 : decode cX6_ring 81 = .ok (.iload_n 3, 1) := by decide +kernel
theorem dX6_ring_82 : decode cX6_ring 82 = .ok (.iastore, 1) := by decide +kernel
theorem dX6_ring_83 : decode cX6_ring 83 = .ok (.aload_n 0, 1) := by decide +kernel
theorem dX6_ring_84 : decode cX6_ring 84 = .ok (.invokevirtual 94, 3) := by decide +kernel
theorem dX6_ring_87 : decode cX6_ring 87 = .ok (.bipush 100, 2) := by decide +kernel
theorem dX6_ring_89 : decode cX6_ring 89 = .ok (.iload 5, 2) := by decide +kernel
theorem dX6_ring_91 : decode cX6_ring 91 = .ok (.iadd, 1) := by decide +kernel
theorem dX6_ring_92 : decode cX6_ring 92 = .ok (.ireturn, 1) := by decide +kernel
set_option maxRecDepth 20000 in
theorem ggX6_type_X3_add : GoodIn wsX6_type wsX3_add := goodIn_r _ [6, 7, 8, 9, 10, 5, 11, 24, 25, 26, 27, 28, 29] (by decide +kernel) (by decide +kernel)
set_option maxRecDepth 20000 in
theorem gX6_type_X3_add : GoodIn wsX6_type (wsV RX6 110 RX3 yX3_add wsX3_add) := goodIn_app (goodIn_of _ (by decide +kernel)) ggX6_type_X3_add
theorem dX6_type_0 : decode cX6_type 0 = .ok (.aload_n 0, 1) := by decide +kernel
theorem dX6_type_1 : decode cX6_type 1 = .ok (.getfield 53, 3) := by decide +kernel
theorem dX6_type_4 : decode cX6_type 4 = .ok (.lload_n 1, 1) := by decide +kernel
theorem dX6_type_5 : decode cX6_type 5 = .ok (.iload_n 3, 1) := by decide +kernel
theorem dX6_type_6 : decode cX6_type 6 = .ok (.invokevirtual 110, 3) := by decide +kernel
theorem dX6_type_9 : decode cX6_type 9 = .ok (.ireturn, 1) := by decide +kernel
set_option maxRecDepth 20000 in
theorem ggX6_rings_X3_readRings : GoodIn wsX6_rings wsX3_readRings := goodIn_r _ [9, 10, 11, 12, 13, 14, 8, 15, 16, 17, 18, 19, 20, 21, 22, 23, 24, 25, 26, 27, 28, 29, 30, 31, 32, 33, 34, 35, 36, 37, 38, 39, 40, 41, 42, 43, 44, 45, 46, 86, 87, 88, 89, 90, 91] (by decide +kernel) (by decide +kernel)
set_option maxRecDepth 20000 in
theorem gX6_rings_X3_readRings : GoodIn wsX6_rings (wsV RX6 114 RX3 yX3_readRings wsX3_readRings) := goodIn_app (goodIn_of _ (by decide +kernel)) ggX6_rings_X3_readRings
set_option maxRecDepth 20000 in
theorem ggX6_rings_X3_empty : GoodIn wsX6_rings wsX3_empty := goodIn_r _ [50, 21, 86, 87, 88, 89, 90, 91] (by decide +kernel) (by decide +kernel)
set_option maxRecDepth 20000 in
theorem gX6_rings_X3_empty : GoodIn wsX6_rings (wsV RX6 118 RX3 yX3_empty wsX3_empty) := goodIn_app (goodIn_of _ (by decide +kernel)) ggX6_rings_X3_empty
set_option maxRecDepth 20000 in
theorem ggX6_rings_X6_waysChanged : GoodIn wsX6_rings wsX6_waysChanged := goodIn_r _ [55, 56, 57, 58, 59, 60, 61, 62, 63, 64, 65, 66, 67, 68, 69] (by decide +kernel) (by decide +kernel)
set_option maxRecDepth 20000 in
theorem gX6_rings_X6_waysChanged : GoodIn wsX6_rings (wsV RX6 94 RX6 yX6_waysChanged wsX6_waysChanged) := goodIn_app (goodIn_of _ (by decide +kernel)) ggX6_rings_X6_waysChanged
theorem dX6_rings_0 : decode cX6_rings 0 = .ok (.aload_n 0, 1) := by decide +kernel
theorem dX6_rings_1 : decode cX6_rings 1 = .ok (.getfield 53, 3) := by decide +kernel
theorem dX6_rings_4 : decode cX6_rings 4 = .ok (.aload_n 0, 1) := by decide +kernel
theorem dX6_rings_5 : decode cX6_rings 5 = .ok (.getfield 10, 3) := by decide +kernel
theorem dX6_rings_8 : decode cX6_rings 8 = .ok (.getfield 104, 3) := by decide +kernel
theorem dX6_rings_11 : decode cX6_rings 11 = .ok (.aload_n 0, 1) := by decide +kernel
theorem dX6_rings_12 : decode cX6_rings 12 = .ok (.getfield 10, 3) := by decide +kernel
theorem dX6_rings_15 : decode cX6_rings 15 = .ok (.getfield 107, 3) := by decide +kernel
theorem dX6_rings_18 : decode cX6_rings 18 = .ok (.invokevirtual 114, 3) := by decide +kernel
theorem dX6_rings_21 : decode cX6_rings 21 = .ok (.istore_n 1, 1) := by decide +kernel
theorem dX6_rings_22 : decode cX6_rings 22 = .ok (.aload_n 0, 1) := by decide +kernel
theorem dX6_rings_23 : decode cX6_rings 23 = .ok (.getfield 53, 3) := by decide +kernel
theorem dX6_rings_26 : decode cX6_rings 26 = .ok (.invokevirtual 118, 3) := by decide +kernel
theorem dX6_rings_29 : decode cX6_rings 29 = .ok (.aload_n 0, 1) := by decide +kernel
theorem dX6_rings_30 : decode cX6_rings 30 = .ok (.invokevirtual 94, 3) := by decide +kernel
theorem dX6_rings_33 : decode cX6_rings 33 = .ok (.iload_n 1, 1) := by decide +kernel
theorem dX6_rings_34 : decode cX6_rings 34 = .ok (.ireturn, 1) := by decide +kernel
set_option maxRecDepth 20000 in
theorem ggX6_ways_X6_walked : GoodIn wsX6_ways wsX6_walked := goodIn_r _ [6, 7, 8, 9, 10, 11, 12, 13, 14, 15, 16, 17, 18, 19, 20, 21, 22, 23, 24, 25, 26, 27, 28, 29, 30, 31, 32, 33, 34, 35, 36, 37, 38, 39, 40, 41, 42, 43, 44, 45, 46, 47, 48, 5, 49, 50, 51, 52, 53, 54, 55, 56, 57, 58, 59, 60, 61, 62, 63, 64, 65, 66, 67, 68, 69, 70, 71, 72, 73, 74, 75, 76, 77, 78, 79, 80, 81, 82, 83, 84, 105, 106, 107, 108, 109, 110, 111, 112, 113, 114, 115, 116, 117, 118, 119, 120, 121, 122, 123, 124, 125, 126, 127, 128, 129, 130, 131, 132, 85, 86, 87, 88, 89, 90, 91, 92, 93, 94, 95, 96, 97, 98, 99, 100, 101, 102, 103, 104] (by decide +kernel) (by decide +kernel)
set_option maxRecDepth 20000 in
theorem gX6_ways_X6_walked : GoodIn wsX6_ways (wsV RX6 121 RX6 yX6_walked wsX6_walked) := goodIn_app (goodIn_of _ (by decide +kernel)) ggX6_ways_X6_walked
theorem dX6_ways_0 : decode cX6_ways 0 = .ok (.aload_n 0, 1) := by decide +kernel
theorem dX6_ways_1 : decode cX6_ways 1 = .ok (.invokevirtual 121, 3) := by decide +kernel
theorem dX6_ways_4 : decode cX6_ways 4 = .ok (.getfield 125, 3) := by decide +kernel
theorem dX6_ways_7 : decode cX6_ways 7 = .ok (.ireturn, 1) := by decide +kernel
set_option maxRecDepth 20000 in
theorem ggX6_weight_X6_walked : GoodIn wsX6_weight wsX6_walked := goodIn_r _ [6, 7, 8, 9, 10, 11, 12, 13, 14, 15, 16, 17, 18, 19, 20, 21, 22, 23, 24, 25, 26, 27, 28, 29, 30, 31, 32, 33, 34, 35, 36, 37, 38, 39, 40, 41, 42, 43, 44, 45, 46, 47, 48, 5, 49, 50, 51, 52, 53, 54, 55, 56, 57, 58, 59, 60, 61, 62, 63, 64, 65, 66, 67, 68, 69, 70, 71, 72, 73, 74, 75, 76, 77, 78, 79, 80, 81, 82, 83, 84, 105, 106, 107, 108, 109, 110, 111, 112, 113, 114, 115, 116, 117, 118, 119, 120, 121, 122, 123, 124, 125, 126, 127, 128, 129, 130, 131, 132, 85, 86, 87, 88, 89, 90, 91, 92, 93, 94, 95, 96, 97, 98, 99, 100, 101, 102, 103, 104] (by decide +kernel) (by decide +kernel)
set_option maxRecDepth 20000 in
theorem gX6_weight_X6_walked : GoodIn wsX6_weight (wsV RX6 121 RX6 yX6_walked wsX6_walked) := goodIn_app (goodIn_of _ (by decide +kernel)) ggX6_weight_X6_walked
theorem dX6_weight_0 : decode cX6_weight 0 = .ok (.aload_n 0, 1) := by decide +kernel
theorem dX6_weight_1 : decode cX6_weight 1 = .ok (.invokevirtual 121, 3) := by decide +kernel
theorem dX6_weight_4 : decode cX6_weight 4 = .ok (.getfield 129, 3) := by decide +kernel
theorem dX6_weight_7 : decode cX6_weight 7 = .ok (.lreturn, 1) := by decide +kernel
set_option maxRecDepth 20000 in
theorem ggX6_way_X6_within : GoodIn wsX6_way wsX6_within := goodIn_r _ [10] (by decide +kernel) (by decide +kernel)
set_option maxRecDepth 20000 in
theorem gX6_way_X6_within : GoodIn wsX6_way (va_wsS RX6 74 yX6_within wsX6_within) := goodIn_app (goodIn_of _ (by decide +kernel)) ggX6_way_X6_within
set_option maxRecDepth 20000 in
theorem ggX6_way_X6_walked : GoodIn wsX6_way wsX6_walked := goodIn_r _ [14, 15, 16, 1, 17, 18, 19, 20, 21, 22, 23, 24, 25, 26, 27, 28, 29, 30, 31, 32, 33, 34, 35, 36, 37, 38, 39, 40, 41, 42, 43, 44, 45, 46, 47, 48, 49, 50, 51, 52, 53, 54, 55, 9, 56, 57, 58, 59, 60, 61, 62, 63, 64, 65, 66, 67, 68, 69, 70, 71, 72, 73, 74, 75, 76, 77, 78, 79, 80, 81, 82, 83, 84, 85, 86, 87, 88, 89, 90, 91, 96, 97, 98, 99, 100, 101, 102, 103, 104, 105, 106, 107, 108, 109, 110, 111, 112, 113, 114, 115, 116, 117, 118, 119, 120, 121, 122, 123, 124, 125, 126, 127, 128, 129, 130, 131, 132, 133, 134, 135, 136, 137, 138, 139, 140, 141, 142, 143] (by decide +kernel) (by decide +kernel)
set_option maxRecDepth 20000 in
theorem gX6_way_X6_walked : GoodIn wsX6_way (wsV RX6 121 RX6 yX6_walked wsX6_walked) := goodIn_app (goodIn_of _ (by decide +kernel)) ggX6_way_X6_walked
set_option maxRecDepth 20000 in
theorem ggX6_way_X5_find : GoodIn wsX6_way wsX5_find := goodIn_r _ [95, 44, 47, 50, 46, 38, 51, 52, 53, 20, 54, 35, 33, 31, 55, 9, 56, 57, 58, 59, 60, 61, 62, 63, 64, 32, 65, 66, 67, 68, 29, 23, 69, 70, 71, 72, 73, 74, 75, 76, 77, 78, 79, 45, 39, 48, 80, 81, 82, 83, 84, 85, 86, 49, 87, 37, 36, 88, 89, 90, 91, 124, 125, 126, 127, 128, 129, 130, 131, 132, 133, 134, 135, 136, 137, 138, 139, 140, 141, 142, 143] (by decide +kernel) (by decide +kernel)
set_option maxRecDepth 20000 in
theorem gX6_way_X5_find : GoodIn wsX6_way (wsV RX6 133 RX5 yX5_find wsX5_find) := goodIn_app (goodIn_of _ (by decide +kernel)) ggX6_way_X5_find
theorem dX6_way_0 : decode cX6_way 0 = .ok (.iload_n 1, 1) := by decide +kernel
theorem dX6_way_1 : decode cX6_way 1 = .ok (.ifCond .lt 21, 3) := by decide +kernel
theorem dX6_way_4 : decode cX6_way 4 = .ok (.iload_n 2, 1) := by decide +kernel
theorem dX6_way_5 : decode cX6_way 5 = .ok (.bipush (-3), 2) := by decide +kernel
theorem dX6_way_7 : decode cX6_way 7 = .ok (.aload_n 0, 1) := by decide +kernel
theorem dX6_way_8 : decode cX6_way 8 = .ok (.getfield 10, 3) := by decide +kernel
theorem dX6_way_11 : decode cX6_way 11 = .ok (.getfield 85, 3) := by decide +kernel
theorem dX6_way_14 : decode cX6_way 14 = .ok (.iconst 2, 1) := by decide +kernel
theorem dX6_way_15 : decode cX6_way 15 = .ok (.iaload, 1) := by decide +kernel
theorem dX6_way_16 : decode cX6_way 16 = .ok (.invokestatic 74, 3) := by decide +kernel
theorem dX6_way_19 : decode cX6_way 19 = .ok (.ifCond .ne 5, 3) := by decide +kernel
theorem dX6_way_22 : decode cX6_way 22 = .ok (.iconst (-1), 1) := by decide +kernel
theorem dX6_way_23 : decode cX6_way 23 = .ok (.ireturn, 1) := by decide +kernel
theorem dX6_way_24 : decode cX6_way 24 = .ok (.aload_n 0, 1) := by decide +kernel
theorem dX6_way_25 : decode cX6_way 25 = .ok (.invokevirtual 121, 3) := by decide +kernel
theorem dX6_way_28 : decode cX6_way 28 = .ok (.astore_n 3, 1) := by decide +kernel
theorem dX6_way_29 : decode cX6_way 29 = .ok (.aload_n 3, 1) := by decide +kernel
theorem dX6_way_30 : decode cX6_way 30 = .ok (.iload_n 1, 1) := by decide +kernel
theorem dX6_way_31 : decode cX6_way 31 = .ok (.invokevirtual 133, 3) := by decide +kernel
theorem dX6_way_34 : decode cX6_way 34 = .ok (.ifCond .ne 6, 3) := by decide +kernel
theorem dX6_way_37 : decode cX6_way 37 = .ok (.bipush (-4), 2) := by decide +kernel
theorem dX6_way_39 : decode cX6_way 39 = .ok (.ireturn, 1) := by decide +kernel
theorem dX6_way_40 : decode cX6_way 40 = .ok (.iload_n 2, 1) := by decide +kernel
theorem dX6_way_41 : decode cX6_way 41 = .ok (.tableswitch 42 (-3) (-1) #[37, 32, 27], 27) := by decide +kernel
theorem dX6_way_68 : decode cX6_way 68 = .ok (.aload_n 3, 1) := by decide +kernel
theorem dX6_way_69 : decode cX6_way 69 = .ok (.getfield 136, 3) := by decide +kernel
theorem dX6_way_72 : decode cX6_way 72 = .ok (.ireturn, 1) := by decide +kernel
theorem dX6_way_73 : decode cX6_way 73 = .ok (.aload_n 3, 1) := by decide +kernel
theorem dX6_way_74 : decode cX6_way 74 = .ok (.getfield 139, 3) := by decide +kernel
theorem dX6_way_77 : decode cX6_way 77 = .ok (.ireturn, 1) := by decide +kernel
theorem dX6_way_78 : decode cX6_way 78 = .ok (.aload_n 3, 1) := by decide +kernel
theorem dX6_way_79 : decode cX6_way 79 = .ok (.getfield 142, 3) := by decide +kernel
theorem dX6_way_82 : decode cX6_way 82 = .ok (.ireturn, 1) := by decide +kernel
theorem dX6_way_83 : decode cX6_way 83 = .ok (.aload_n 3, 1) := by decide +kernel
theorem dX6_way_84 : decode cX6_way 84 = .ok (.getfield 145, 3) := by decide +kernel
theorem dX6_way_87 : decode cX6_way 87 = .ok (.iload_n 2, 1) := by decide +kernel
theorem dX6_way_88 : decode cX6_way 88 = .ok (.iaload, 1) := by decide +kernel
theorem dX6_way_89 : decode cX6_way 89 = .ok (.ireturn, 1) := by decide +kernel
set_option maxRecDepth 20000 in
theorem ggX6_may_X6_within : GoodIn wsX6_may wsX6_within := goodIn_r _ [7] (by decide +kernel) (by decide +kernel)
set_option maxRecDepth 20000 in
theorem gX6_may_X6_within : GoodIn wsX6_may (va_wsS RX6 74 yX6_within wsX6_within) := goodIn_app (goodIn_of _ (by decide +kernel)) ggX6_may_X6_within
set_option maxRecDepth 20000 in
theorem ggX6_may_X6_walked : GoodIn wsX6_may wsX6_walked := goodIn_r _ [11, 12, 13, 1, 14, 15, 16, 17, 18, 19, 20, 21, 22, 23, 24, 25, 26, 27, 28, 29, 30, 31, 32, 33, 34, 35, 36, 37, 38, 39, 40, 41, 42, 43, 44, 45, 46, 47, 48, 49, 50, 51, 52, 6, 53, 54, 55, 56, 57, 58, 59, 60, 61, 62, 63, 64, 65, 66, 67, 68, 69, 70, 71, 72, 73, 74, 75, 76, 77, 78, 79, 80, 81, 82, 83, 84, 85, 86, 87, 88, 89, 90, 91, 92, 93, 94, 95, 96, 97, 98, 99, 100, 101, 102, 103, 104, 105, 106, 107, 108, 109, 110, 111, 112, 113, 114, 115, 116, 117, 118, 119, 120, 121, 122, 123, 124, 125, 126, 127, 128, 129, 130, 131, 132, 133, 134, 135, 136] (by decide +kernel) (by decide +kernel)
set_option maxRecDepth 20000 in
theorem gX6_may_X6_walked : GoodIn wsX6_may (wsV RX6 121 RX6 yX6_walked wsX6_walked) := goodIn_app (goodIn_of _ (by decide +kernel)) ggX6_may_X6_walked
theorem dX6_may_0 : decode cX6_may 0 = .ok (.iload_n 1, 1) := by decide +kernel
theorem dX6_may_1 : decode cX6_may 1 = .ok (.iconst 0, 1) := by decide +kernel
theorem dX6_may_2 : decode cX6_may 2 = .ok (.aload_n 0, 1) := by decide +kernel
theorem dX6_may_3 : decode cX6_may 3 = .ok (.getfield 10, 3) := by decide +kernel
theorem dX6_may_6 : decode cX6_may 6 = .ok (.getfield 85, 3) := by decide +kernel
theorem dX6_may_9 : decode cX6_may 9 = .ok (.iconst 2, 1) := by decide +kernel
theorem dX6_may_10 : decode cX6_may 10 = .ok (.iaload, 1) := by decide +kernel
theorem dX6_may_11 : decode cX6_may 11 = .ok (.invokestatic 74, 3) := by decide +kernel
theorem dX6_may_14 : decode cX6_may 14 = .ok (.ifCond .eq 13, 3) := by decide +kernel
theorem dX6_may_17 : decode cX6_may 17 = .ok (.iload_n 2, 1) := by decide +kernel
theorem dX6_may_18 : decode cX6_may 18 = .ok (.iconst 0, 1) := by decide +kernel
theorem dX6_may_19 : decode cX6_may 19 = .ok (.bipush 9, 2) := by decide +kernel
theorem dX6_may_21 : decode cX6_may 21 = .ok (.invokestatic 74, 3) := by decide +kernel
theorem dX6_may_24 : decode cX6_may 24 = .ok (.ifCond .ne 5, 3) := by decide +kernel
theorem dX6_may_27 : decode cX6_may 27 = .ok (.iconst (-1), 1) := by decide +kernel
theorem dX6_may_28 : decode cX6_may 28 = .ok (.ireturn, 1) := by decide +kernel
theorem dX6_may_29 : decode cX6_may 29 = .ok (.aload_n 0, 1) := by decide +kernel
theorem dX6_may_30 : decode cX6_may 30 = .ok (.invokevirtual 121, 3) := by decide +kernel
theorem dX6_may_33 : decode cX6_may 33 = .ok (.getfield 148, 3) := by decide +kernel
theorem dX6_may_36 : decode cX6_may 36 = .ok (.bipush 10, 2) := by decide +kernel
theorem dX6_may_38 : decode cX6_may 38 = .ok (.iload_n 1, 1) := by decide +kernel
theorem dX6_may_39 : decode cX6_may 39 = .ok (.imul, 1) := by decide +kernel
theorem dX6_may_40 : decode cX6_may 40 = .ok (.iload_n 2, 1) := by decide +kernel
theorem dX6_may_41 : decode cX6_may 41 = .ok (.iadd, 1) := by decide +kernel
theorem dX6_may_42 : decode cX6_may 42 = .ok (.iaload, 1) := by decide +kernel
theorem dX6_may_43 : decode cX6_may 43 = .ok (.ireturn, 1) := by decide +kernel
set_option maxRecDepth 20000 in
theorem ggX6_sea_X6_within : GoodIn wsX6_sea wsX6_within := goodIn_r _ [7] (by decide +kernel) (by decide +kernel)
set_option maxRecDepth 20000 in
theorem gX6_sea_X6_within : GoodIn wsX6_sea (va_wsS RX6 74 yX6_within wsX6_within) := goodIn_app (goodIn_of _ (by decide +kernel)) ggX6_sea_X6_within
set_option maxRecDepth 20000 in
theorem ggX6_sea_X3_readSea : GoodIn wsX6_sea wsX3_readSea := goodIn_r _ [12, 13, 14, 15, 16, 17, 18, 19, 20, 21, 22, 11, 23, 24, 25, 26, 27, 28, 29, 30, 31, 32, 77, 78, 79, 80, 81, 82] (by decide +kernel) (by decide +kernel)
set_option maxRecDepth 20000 in
theorem gX6_sea_X3_readSea : GoodIn wsX6_sea (wsV RX6 154 RX3 yX3_readSea wsX3_readSea) := goodIn_app (goodIn_of _ (by decide +kernel)) ggX6_sea_X3_readSea
set_option maxRecDepth 20000 in
theorem ggX6_sea_X3_empty : GoodIn wsX6_sea wsX3_empty := goodIn_r _ [36, 24, 77, 78, 79, 80, 81, 82] (by decide +kernel) (by decide +kernel)
set_option maxRecDepth 20000 in
theorem gX6_sea_X3_empty : GoodIn wsX6_sea (wsV RX6 118 RX3 yX3_empty wsX3_empty) := goodIn_app (goodIn_of _ (by decide +kernel)) ggX6_sea_X3_empty
set_option maxRecDepth 20000 in
theorem ggX6_sea_X6_seaChanged : GoodIn wsX6_sea wsX6_seaChanged := goodIn_r _ [40, 41, 42, 43, 44, 45, 46, 47, 48, 49, 50, 51, 52, 53, 54, 55, 56, 57, 58, 59, 60, 83, 84] (by decide +kernel) (by decide +kernel)
set_option maxRecDepth 20000 in
theorem gX6_sea_X6_seaChanged : GoodIn wsX6_sea (wsV RX6 91 RX6 yX6_seaChanged wsX6_seaChanged) := goodIn_app (goodIn_of _ (by decide +kernel)) ggX6_sea_X6_seaChanged
theorem dX6_sea_0 : decode cX6_sea 0 = .ok (.iload_n 1, 1) := by decide +kernel
theorem dX6_sea_1 : decode cX6_sea 1 = .ok (.iconst 0, 1) := by decide +kernel
theorem dX6_sea_2 : decode cX6_sea 2 = .ok (.iconst 1, 1) := by decide +kernel
theorem dX6_sea_3 : decode cX6_sea 3 = .ok (.invokestatic 74, 3) := by decide +kernel
theorem dX6_sea_6 : decode cX6_sea 6 = .ok (.ifCond .eq 13, 3) := by decide +kernel
theorem dX6_sea_9 : decode cX6_sea 9 = .ok (.iload_n 2, 1) := by decide +kernel
theorem dX6_sea_10 : decode cX6_sea 10 = .ok (.iconst 0, 1) := by decide +kernel
theorem dX6_sea_11 : decode cX6_sea 11 = .ok (.bipush 9, 2) := by decide +kernel
theorem dX6_sea_13 : decode cX6_sea 13 = .ok (.invokestatic 74, 3) := by decide +kernel
theorem dX6_sea_16 : decode cX6_sea 16 = .ok (.ifCond .ne 5, 3) := by decide +kernel
theorem dX6_sea_19 : decode cX6_sea 19 = .ok (.iconst (-1), 1) := by decide +kernel
theorem dX6_sea_20 : decode cX6_sea 20 = .ok (.ireturn, 1) := by decide +kernel
theorem dX6_sea_21 : decode cX6_sea 21 = .ok (.aload_n 0, 1) := by decide +kernel
theorem dX6_sea_22 : decode cX6_sea 22 = .ok (.getfield 53, 3) := by decide +kernel
theorem dX6_sea_25 : decode cX6_sea 25 = .ok (.aload_n 0, 1) := by decide +kernel
theorem dX6_sea_26 : decode cX6_sea 26 = .ok (.getfield 10, 3) := by decide +kernel
theorem dX6_sea_29 : decode cX6_sea 29 = .ok (.getfield 151, 3) := by decide +kernel
theorem dX6_sea_32 : decode cX6_sea 32 = .ok (.bipush 100, 2) := by decide +kernel
theorem dX6_sea_34 : decode cX6_sea 34 = .ok (.iload_n 1, 1) := by decide +kernel
theorem dX6_sea_35 : decode cX6_sea 35 = .ok (.imul, 1) := by decide +kernel
theorem dX6_sea_36 : decode cX6_sea 36 = .ok (.bipush 10, 2) := by decide +kernel
theorem dX6_sea_38 : decode cX6_sea 38 = .ok (.iload_n 2, 1) := by decide +kernel
theorem dX6_sea_39 : decode cX6_sea 39 = .ok (.imul, 1) := by decide +kernel
theorem dX6_sea_40 : decode cX6_sea 40 = .ok (.iadd, 1) := by decide +kernel
theorem dX6_sea_41 : decode cX6_sea 41 = .ok (.invokevirtual 154, 3) := by decide +kernel
theorem dX6_sea_44 : decode cX6_sea 44 = .ok (.istore_n 3, 1) := by decide +kernel
theorem dX6_sea_45 : decode cX6_sea 45 = .ok (.aload_n 0, 1) := by decide +kernel
theorem dX6_sea_46 : decode cX6_sea 46 = .ok (.getfield 53, 3) := by decide +kernel
theorem dX6_sea_49 : decode cX6_sea 49 = .ok (.invokevirtual 118, 3) := by decide +kernel
theorem dX6_sea_52 : decode cX6_sea 52 = .ok (.aload_n 0, 1) := by decide +kernel
theorem dX6_sea_53 : decode cX6_sea 53 = .ok (.invokevirtual 91, 3) := by decide +kernel
theorem dX6_sea_56 : decode cX6_sea 56 = .ok (.iload_n 3, 1) := by decide +kernel
theorem dX6_sea_57 : decode cX6_sea 57 = .ok (.ireturn, 1) := by decide +kernel
set_option maxRecDepth 20000 in
theorem ggX6_cell_X6_within : GoodIn wsX6_cell wsX6_within := goodIn_r _ [7] (by decide +kernel) (by decide +kernel)
set_option maxRecDepth 20000 in
theorem gX6_cell_X6_within : GoodIn wsX6_cell (va_wsS RX6 74 yX6_within wsX6_within) := goodIn_app (goodIn_of _ (by decide +kernel)) ggX6_cell_X6_within
set_option maxRecDepth 20000 in
theorem ggX6_cell_X6_isCell : GoodIn wsX6_cell wsX6_isCell := goodIn_r _ [10] (by decide +kernel) (by decide +kernel)
set_option maxRecDepth 20000 in
theorem gX6_cell_X6_isCell : GoodIn wsX6_cell (va_wsS RX6 97 yX6_isCell wsX6_isCell) := goodIn_app (goodIn_of _ (by decide +kernel)) ggX6_cell_X6_isCell
set_option maxRecDepth 20000 in
theorem ggX6_cell_X6_seaChanged : GoodIn wsX6_cell wsX6_seaChanged := goodIn_r _ [14, 15, 16, 17, 18, 19, 20, 21, 22, 23, 24, 25, 26, 27, 28, 29, 30, 31, 32, 33, 34, 51, 52] (by decide +kernel) (by decide +kernel)
set_option maxRecDepth 20000 in
theorem gX6_cell_X6_seaChanged : GoodIn wsX6_cell (wsV RX6 91 RX6 yX6_seaChanged wsX6_seaChanged) := goodIn_app (goodIn_of _ (by decide +kernel)) ggX6_cell_X6_seaChanged
theorem dX6_cell_0 : decode cX6_cell 0 = .ok (.iload_n 1, 1) := by decide +kernel
theorem dX6_cell_1 : decode cX6_cell 1 = .ok (.iconst 0, 1) := by decide +kernel
theorem dX6_cell_2 : decode cX6_cell 2 = .ok (.iconst 1, 1) := by decide +kernel
theorem dX6_cell_3 : decode cX6_cell 3 = .ok (.invokestatic 74, 3) := by decide +kernel
theorem dX6_cell_6 : decode cX6_cell 6 = .ok (.ifCond .eq 19, 3) := by decide +kernel
theorem dX6_cell_9 : decode cX6_cell 9 = .ok (.iload_n 2, 1) := by decide +kernel
theorem dX6_cell_10 : decode cX6_cell 10 = .ok (.invokestatic 97, 3) := by decide +kernel
theorem dX6_cell_13 : decode cX6_cell 13 = .ok (.ifCond .eq 12, 3) := by decide +kernel
theorem dX6_cell_16 : decode cX6_cell 16 = .ok (.iload_n 3, 1) := by decide +kernel
theorem dX6_cell_17 : decode cX6_cell 17 = .ok (.iconst 0, 1) := by decide +kernel
theorem dX6_cell_18 : decode cX6_cell 18 = .ok (.iconst 1, 1) := by decide +kernel
theorem dX6_cell_19 : decode cX6_cell 19 = .ok (.invokestatic 74, 3) := by decide +kernel
theorem dX6_cell_22 : decode cX6_cell 22 = .ok (.ifCond .ne 5, 3) := by decide +kernel
theorem dX6_cell_25 : decode cX6_cell 25 = .ok (.iconst (-1), 1) := by decide +kernel
theorem dX6_cell_26 : decode cX6_cell 26 = .ok (.ireturn, 1) := by decide +kernel
theorem dX6_cell_27 : decode cX6_cell 27 = .ok (.iload 4, 2) := by decide +kernel
theorem dX6_cell_29 : decode cX6_cell 29 = .ok (.iconst 0, 1) := by decide +kernel
theorem dX6_cell_30 : decode cX6_cell 30 = .ok (.iload_n 3, 1) := by decide +kernel
theorem dX6_cell_31 : decode cX6_cell 31 = .ok (.ifCond .ne 8, 3) := by decide +kernel
theorem dX6_cell_34 : decode cX6_cell 34 = .ok (.bipush 8, 2) := by decide +kernel
theorem dX6_cell_36 : decode cX6_cell 36 = .ok (.goto 5, 3) := by decide +kernel
theorem dX6_cell_39 : decode cX6_cell 39 = .ok (.bipush 9, 2) := by decide +kernel
theorem dX6_cell_41 : decode cX6_cell 41 = .ok (.invokestatic 74, 3) := by decide +kernel
theorem dX6_cell_44 : decode cX6_cell 44 = .ok (.ifCond .ne 5, 3) := by decide +kernel
theorem dX6_cell_47 : decode cX6_cell 47 = .ok (.iconst (-1), 1) := by decide +kernel
theorem dX6_cell_48 : decode cX6_cell 48 = .ok (.ireturn, 1) := by decide +kernel
theorem dX6_cell_49 : decode cX6_cell 49 = .ok (.iload_n 3, 1) := by decide +kernel
theorem dX6_cell_50 : decode cX6_cell 50 = .ok (.ifCond .ne 13, 3) := by decide +kernel
theorem dX6_cell_53 : decode cX6_cell 53 = .ok (.aload_n 0, 1) := by decide +kernel
theorem dX6_cell_54 : decode cX6_cell 54 = .ok (.getfield 10, 3) := by decide +kernel
theorem dX6_cell_57 : decode cX6_cell 57 = .ok (.getfield 151, 3) := by decide +kernel
theorem dX6_cell_60 : decode cX6_cell 60 = .ok (.goto 10, 3) := by decide +kernel
theorem dX6_cell_63 : decode cX6_cell 63 = .ok (.aload_n 0, 1) := by decide +kernel
theorem dX6_cell_64 : decode cX6_cell 64 = .ok (.getfield 10, 3) := by decide +kernel
theorem dX6_cell_67 : decode cX6_cell 67 = .ok (.getfield 158, 3) := by decide +kernel
theorem dX6_cell_70 : decode cX6_cell 70 = .ok (.astore 5, 2) := by decide +kernel
theorem dX6_cell_72 : decode cX6_cell 72 = .ok (.aload 5, 2) := by decide +kernel
theorem dX6_cell_74 : decode cX6_cell 74 = .ok (.bipush 100, 2) := by decide +kernel
theorem dX6_cell_76 : decode cX6_cell 76 = .ok (.iload_n 1, 1) := by decide +kernel
theorem dX6_cell_77 : decode cX6_cell 77 = .ok (.imul, 1) := by decide +kernel
theorem dX6_cell_78 : decode cX6_cell 78 = .ok (.iload_n 2, 1) := by decide +kernel
theorem dX6_cell_79 : decode cX6_cell 79 = .ok (.iadd, 1) := by decide +kernel
theorem dX6_cell_80 : decode cX6_cell 80 = .ok (.iaload, 1) := by decide +kernel
theorem dX6_cell_81 : decode cX6_cell 81 = .ok (.istore 6, 2) := by decide +kernel
theorem dX6_cell_83 : decode cX6_cell 83 = .ok (.aload 5, 2) := by decide +kernel
theorem dX6_cell_85 : decode cX6_cell 85 = .ok (.bipush 100, 2) := by decide +kernel
theorem dX6_cell_87 : decode cX6_cell 87 = .ok (.iload_n 1, 1) := by decide +kernel
theorem dX6_cell_88 : decode cX6_cell 88 = .ok (.imul, 1) := by decide +kernel
theorem dX6_cell_89 : decode cX6_cell 89 = .ok (.iload_n 2, 1) := by decide +kernel
theorem dX6_cell_90 : decode cX6_cell 90 = .ok (.iadd, 1) := by decide +kernel
theorem dX6_cell_91 : decode cX6_cell 91 = .ok (.iload 4, 2) := by decide +kernel
theorem dX6_cell_93 : decode cX6_cell 93 = .ok (.iastore, 1) := by decide +kernel
theorem dX6_cell_94 : decode cX6_cell 94 = .ok (.aload_n 0, 1) := by decide +kernel
theorem dX6_cell_95 : decode cX6_cell 95 = .ok (.invokevirtual 91, 3) := by decide +kernel
theorem dX6_cell_98 : decode cX6_cell 98 = .ok (.iload 6, 2) := by decide +kernel
theorem dX6_cell_100 : decode cX6_cell 100 = .ok (.ireturn, 1) := by decide +kernel
set_option maxRecDepth 20000 in
theorem ggX6_depth_X6_isCell : GoodIn wsX6_depth wsX6_isCell := goodIn_r _ [6] (by decide +kernel) (by decide +kernel)
set_option maxRecDepth 20000 in
theorem gX6_depth_X6_isCell : GoodIn wsX6_depth (va_wsS RX6 97 yX6_isCell wsX6_isCell) := goodIn_app (goodIn_of _ (by decide +kernel)) ggX6_depth_X6_isCell
set_option maxRecDepth 20000 in
theorem ggX6_depth_X6_within : GoodIn wsX6_depth wsX6_within := goodIn_r _ [9] (by decide +kernel) (by decide +kernel)
set_option maxRecDepth 20000 in
theorem gX6_depth_X6_within : GoodIn wsX6_depth (va_wsS RX6 74 yX6_within wsX6_within) := goodIn_app (goodIn_of _ (by decide +kernel)) ggX6_depth_X6_within
theorem dX6_depth_0 : decode cX6_depth 0 = .ok (.iload_n 1, 1) := by decide +kernel
theorem dX6_depth_1 : decode cX6_depth 1 = .ok (.invokestatic 97, 3) := by decide +kernel
theorem dX6_depth_4 : decode cX6_depth 4 = .ok (.ifCond .eq 13, 3) := by decide +kernel
theorem dX6_depth_7 : decode cX6_depth 7 = .ok (.iload_n 2, 1) := by decide +kernel
theorem dX6_depth_8 : decode cX6_depth 8 = .ok (.iconst 1, 1) := by decide +kernel
theorem dX6_depth_9 : decode cX6_depth 9 = .ok (.bipush 9, 2) := by decide +kernel
theorem dX6_depth_11 : decode cX6_depth 11 = .ok (.invokestatic 74, 3) := by decide +kernel
theorem dX6_depth_14 : decode cX6_depth 14 = .ok (.ifCond .ne 5, 3) := by decide +kernel
theorem dX6_depth_17 : decode cX6_depth 17 = .ok (.iconst (-1), 1) := by decide +kernel
theorem dX6_depth_18 : decode cX6_depth 18 = .ok (.ireturn, 1) := by decide +kernel
theorem dX6_depth_19 : decode cX6_depth 19 = .ok (.aload_n 0, 1) := by decide +kernel
theorem dX6_depth_20 : decode cX6_depth 20 = .ok (.getfield 10, 3) := by decide +kernel
theorem dX6_depth_23 : decode cX6_depth 23 = .ok (.getfield 161, 3) := by decide +kernel
theorem dX6_depth_26 : decode cX6_depth 26 = .ok (.iload_n 1, 1) := by decide +kernel
theorem dX6_depth_27 : decode cX6_depth 27 = .ok (.iaload, 1) := by decide +kernel
theorem dX6_depth_28 : decode cX6_depth 28 = .ok (.istore_n 3, 1) := by decide +kernel
theorem dX6_depth_29 : decode cX6_depth 29 = .ok (.aload_n 0, 1) := by decide +kernel
theorem dX6_depth_30 : decode cX6_depth 30 = .ok (.getfield 10, 3) := by decide +kernel
theorem dX6_depth_33 : decode cX6_depth 33 = .ok (.getfield 161, 3) := by decide +kernel
theorem dX6_depth_36 : decode cX6_depth 36 = .ok (.iload_n 1, 1) := by decide +kernel
theorem dX6_depth_37 : decode cX6_depth 37 = .ok (.iload_n 2, 1) := by decide +kernel
theorem dX6_depth_38 : decode cX6_depth 38 = .ok (.iastore, 1) := by decide +kernel
theorem dX6_depth_39 : decode cX6_depth 39 = .ok (.iload_n 3, 1) := by decide +kernel
theorem dX6_depth_40 : decode cX6_depth 40 = .ok (.ireturn, 1) := by decide +kernel
set_option maxRecDepth 20000 in
theorem ggX6_piece_X6_isCell : GoodIn wsX6_piece wsX6_isCell := goodIn_r _ [11] (by decide +kernel) (by decide +kernel)
set_option maxRecDepth 20000 in
theorem gX6_piece_X6_isCell : GoodIn wsX6_piece (va_wsS RX6 97 yX6_isCell wsX6_isCell) := goodIn_app (goodIn_of _ (by decide +kernel)) ggX6_piece_X6_isCell
set_option maxRecDepth 20000 in
theorem ggX6_piece_X6_within : GoodIn wsX6_piece wsX6_within := goodIn_r _ [14] (by decide +kernel) (by decide +kernel)
set_option maxRecDepth 20000 in
theorem gX6_piece_X6_within : GoodIn wsX6_piece (va_wsS RX6 74 yX6_within wsX6_within) := goodIn_app (goodIn_of _ (by decide +kernel)) ggX6_piece_X6_within
set_option maxRecDepth 20000 in
theorem ggX6_piece_X6_seaChanged : GoodIn wsX6_piece wsX6_seaChanged := goodIn_r _ [18, 19, 20, 21, 22, 23, 24, 25, 26, 27, 28, 29, 30, 31, 32, 33, 34, 35, 36, 37, 38, 55, 56] (by decide +kernel) (by decide +kernel)
set_option maxRecDepth 20000 in
theorem gX6_piece_X6_seaChanged : GoodIn wsX6_piece (wsV RX6 91 RX6 yX6_seaChanged wsX6_seaChanged) := goodIn_app (goodIn_of _ (by decide +kernel)) ggX6_piece_X6_seaChanged
theorem dX6_piece_0 : decode cX6_piece 0 = .ok (.iload_n 1, 1) := by decide +kernel
theorem dX6_piece_1 : decode cX6_piece 1 = .ok (.invokestatic 97, 3) := by decide +kernel
theorem dX6_piece_4 : decode cX6_piece 4 = .ok (.ifCond .eq 22, 3) := by decide +kernel
theorem dX6_piece_7 : decode cX6_piece 7 = .ok (.iload_n 2, 1) := by decide +kernel
theorem dX6_piece_8 : decode cX6_piece 8 = .ok (.iconst 1, 1) := by decide +kernel
theorem dX6_piece_9 : decode cX6_piece 9 = .ok (.bipush 24, 2) := by decide +kernel
theorem dX6_piece_11 : decode cX6_piece 11 = .ok (.invokestatic 74, 3) := by decide +kernel
theorem dX6_piece_14 : decode cX6_piece 14 = .ok (.ifCond .eq 12, 3) := by decide +kernel
theorem dX6_piece_17 : decode cX6_piece 17 = .ok (.iload_n 3, 1) := by decide +kernel
theorem dX6_piece_18 : decode cX6_piece 18 = .ok (.iconst 0, 1) := by decide +kernel
theorem dX6_piece_19 : decode cX6_piece 19 = .ok (.iconst 1, 1) := by decide +kernel
theorem dX6_piece_20 : decode cX6_piece 20 = .ok (.invokestatic 74, 3) := by decide +kernel
theorem dX6_piece_23 : decode cX6_piece 23 = .ok (.ifCond .ne 5, 3) := by decide +kernel
theorem dX6_piece_26 : decode cX6_piece 26 = .ok (.iconst (-1), 1) := by decide +kernel
theorem dX6_piece_27 : decode cX6_piece 27 = .ok (.ireturn, 1) := by decide +kernel
theorem dX6_piece_28 : decode cX6_piece 28 = .ok (.iload 4, 2) := by decide +kernel
theorem dX6_piece_30 : decode cX6_piece 30 = .ok (.iconst 0, 1) := by decide +kernel
theorem dX6_piece_31 : decode cX6_piece 31 = .ok (.iload_n 2, 1) := by decide +kernel
theorem dX6_piece_32 : decode cX6_piece 32 = .ok (.invokestatic 74, 3) := by decide +kernel
theorem dX6_piece_35 : decode cX6_piece 35 = .ok (.ifCond .eq 14, 3) := by decide +kernel
theorem dX6_piece_38 : decode cX6_piece 38 = .ok (.iload 5, 2) := by decide +kernel
theorem dX6_piece_40 : decode cX6_piece 40 = .ok (.iconst 0, 1) := by decide +kernel
theorem dX6_piece_41 : decode cX6_piece 41 = .ok (.bipush 9, 2) := by decide +kernel
theorem dX6_piece_43 : decode cX6_piece 43 = .ok (.invokestatic 74, 3) := by decide +kernel
theorem dX6_piece_46 : decode cX6_piece 46 = .ok (.ifCond .ne 5, 3) := by decide +kernel
theorem dX6_piece_49 : decode cX6_piece 49 = .ok (.iconst (-1), 1) := by decide +kernel
theorem dX6_piece_50 : decode cX6_piece 50 = .ok (.ireturn, 1) := by decide +kernel
theorem dX6_piece_51 : decode cX6_piece 51 = .ok (.aload_n 0, 1) := by decide +kernel
theorem dX6_piece_52 : decode cX6_piece 52 = .ok (.getfield 10, 3) := by decide +kernel
theorem dX6_piece_55 : decode cX6_piece 55 = .ok (.getfield 164, 3) := by decide +kernel
theorem dX6_piece_58 : decode cX6_piece 58 = .ok (.istore 6, 2) := by decide +kernel
theorem dX6_piece_60 : decode cX6_piece 60 = .ok (.iload 6, 2) := by decide +kernel
theorem dX6_piece_62 : decode cX6_piece 62 = .ok (.iconst 4, 1) := by decide +kernel
theorem dX6_piece_63 : decode cX6_piece 63 = .ok (.if_icmp .lt 6, 3) := by decide +kernel
theorem dX6_piece_66 : decode cX6_piece 66 = .ok (.bipush (-3), 2) := by decide +kernel
theorem dX6_piece_68 : decode cX6_piece 68 = .ok (.ireturn, 1) := by decide +kernel
theorem dX6_piece_69 : decode cX6_piece 69 = .ok (.aload_n 0, 1) := by decide +kernel
theorem dX6_piece_70 : decode cX6_piece 70 = .ok (.getfield 10, 3) := by decide +kernel
theorem dX6_piece_73 : decode cX6_piece 73 = .ok (.getfield 167, 3) := by decide +kernel
theorem dX6_piece_76 : decode cX6_piece 76 = .ok (.iload 6, 2) := by decide +kernel
theorem dX6_piece_78 : decode cX6_piece 78 = .ok (.iload_n 1, 1) := by decide +kernel
theorem dX6_piece_79 : decode cX6_piece 79 = .ok (.iastore, 1) := by decide +kernel
theorem dX6_piece_80 : decode cX6_piece 80 = .ok (.aload_n 0, 1) := by decide +kernel
theorem dX6_piece_81 : decode cX6_piece 81 = .ok (.getfield 10, 3) := by decide +kernel
theorem dX6_piece_84 : decode cX6_piece 84 = .ok (.getfield 170, 3) := by decide +kernel
theorem dX6_piece_87 : decode cX6_piece 87 = .ok (.iload 6, 2) := by decide +kernel
theorem dX6_piece_89 : decode cX6_piece 89 = .ok (.iload_n 2, 1) := by decide +kernel
theorem dX6_piece_90 : decode cX6_piece 90 = .ok (.iastore, 1) := by decide +kernel
theorem dX6_piece_91 : decode cX6_piece 91 = .ok (.aload_n 0, 1) := by decide +kernel
theorem dX6_piece_92 : decode cX6_piece 92 = .ok (.getfield 10, 3) := by decide +kernel
theorem dX6_piece_95 : decode cX6_piece 95 = .ok (.getfield 173, 3) := by decide +kernel
theorem dX6_piece_98 : decode cX6_piece 98 = .ok (.iload 6, 2) := by decide +kernel
theorem dX6_piece_100 : decode cX6_piece 100 = .ok (.iload_n 3, 1) := by decide +kernel
theorem dX6_piece_101 : decode cX6_piece 101 = .ok (.iastore, 1) := by decide +kernel
theorem dX6_piece_102 : decode cX6_piece 102 = .ok (.aload_n 0, 1) := by decide +kernel
theorem dX6_piece_103 : decode cX6_piece 103 = .ok (.getfield 10, 3) := by decide +kernel
theorem dX6_piece_106 : decode cX6_piece 106 = .ok (.getfield 176, 3) := by decide +kernel
theorem dX6_piece_109 : decode cX6_piece 109 = .ok (.iload 6, 2) := by decide +kernel
theorem dX6_piece_111 : decode cX6_piece 111 = .ok (.iload 4, 2) := by decide +kernel
theorem dX6_piece_113 : decode cX6_piece 113 = .ok (.iastore, 1) := by decide +kernel
theorem dX6_piece_114 : decode cX6_piece 114 = .ok (.aload_n 0, 1) := by decide +kernel
theorem dX6_piece_115 : decode cX6_piece 115 = .ok (.getfield 10, 3) := by decide +kernel
theorem dX6_piece_118 : decode cX6_piece 118 = .ok (.getfield 179, 3) := by decide +kernel
theorem dX6_piece_121 : decode cX6_piece 121 = .ok (.iload 6, 2) := by decide +kernel
theorem dX6_piece_123 : decode cX6_piece 123 = .ok (.iload 5, 2) := by decide +kernel
theorem dX6_piece_125 : decode cX6_piece 125 = .ok (.iastore, 1) := by decide +kernel
theorem dX6_piece_126 : decode cX6_piece 126 = .ok (.aload_n 0, 1) := by decide +kernel
theorem dX6_piece_127 : decode cX6_piece 127 = .ok (.getfield 10, 3) := by decide +kernel
theorem dX6_piece_130 : decode cX6_piece 130 = .ok (.iload 6, 2) := by decide +kernel
theorem dX6_piece_132 : decode cX6_piece 132 = .ok (.iconst 1, 1) := by decide +kernel
theorem dX6_piece_133 : decode cX6_piece 133 = .ok (.iadd, 1) := by decide +kernel
theorem dX6_piece_134 : decode cX6_piece 134 = .ok (.putfield 164, 3) := by decide +kernel
theorem dX6_piece_137 : decode cX6_piece 137 = .ok (.aload_n 0, 1) := by decide +kernel
theorem dX6_piece_138 : decode cX6_piece 138 = .ok (.invokevirtual 91, 3) := by decide +kernel
theorem dX6_piece_141 : decode cX6_piece 141 = .ok (.iload 6, 2) := by decide +kernel
theorem dX6_piece_143 : decode cX6_piece 143 = .ok (.ireturn, 1) := by decide +kernel
set_option maxRecDepth 20000 in
theorem ggX6_drift_X6_isCell : GoodIn wsX6_drift wsX6_isCell := goodIn_r _ [5] (by decide +kernel) (by decide +kernel)
set_option maxRecDepth 20000 in
theorem gX6_drift_X6_isCell : GoodIn wsX6_drift (va_wsS RX6 97 yX6_isCell wsX6_isCell) := goodIn_app (goodIn_of _ (by decide +kernel)) ggX6_drift_X6_isCell
set_option maxRecDepth 20000 in
theorem ggX6_drift_X6_within : GoodIn wsX6_drift wsX6_within := goodIn_r _ [8] (by decide +kernel) (by decide +kernel)
set_option maxRecDepth 20000 in
theorem gX6_drift_X6_within : GoodIn wsX6_drift (va_wsS RX6 74 yX6_within wsX6_within) := goodIn_app (goodIn_of _ (by decide +kernel)) ggX6_drift_X6_within
set_option maxRecDepth 20000 in
theorem ggX6_drift_X1_behind : GoodIn wsX6_drift wsX1_behind := goodIn_r _ [13, 14, 15, 16, 12, 17, 18, 19, 20, 21, 22, 23, 24, 4, 25, 26, 27, 40, 41, 42, 43, 44, 45, 46, 47, 48, 49, 50, 51, 52, 53, 54, 55, 56, 57] (by decide +kernel) (by decide +kernel)
set_option maxRecDepth 20000 in
theorem gX6_drift_X1_behind : GoodIn wsX6_drift (wsV RX6 182 RX1 yX1_behind wsX1_behind) := goodIn_app (goodIn_of _ (by decide +kernel)) ggX6_drift_X1_behind
theorem dX6_drift_0 : decode cX6_drift 0 = .ok (.iload_n 1, 1) := by decide +kernel
theorem dX6_drift_1 : decode cX6_drift 1 = .ok (.invokestatic 97, 3) := by decide +kernel
theorem dX6_drift_4 : decode cX6_drift 4 = .ok (.ifCond .eq 22, 3) := by decide +kernel
theorem dX6_drift_7 : decode cX6_drift 7 = .ok (.iload_n 2, 1) := by decide +kernel
theorem dX6_drift_8 : decode cX6_drift 8 = .ok (.iconst 0, 1) := by decide +kernel
theorem dX6_drift_9 : decode cX6_drift 9 = .ok (.bipush 24, 2) := by decide +kernel
theorem dX6_drift_11 : decode cX6_drift 11 = .ok (.invokestatic 74, 3) := by decide +kernel
theorem dX6_drift_14 : decode cX6_drift 14 = .ok (.ifCond .eq 12, 3) := by decide +kernel
theorem dX6_drift_17 : decode cX6_drift 17 = .ok (.iload_n 3, 1) := by decide +kernel
theorem dX6_drift_18 : decode cX6_drift 18 = .ok (.iconst 0, 1) := by decide +kernel
theorem dX6_drift_19 : decode cX6_drift 19 = .ok (.iconst 1, 1) := by decide +kernel
theorem dX6_drift_20 : decode cX6_drift 20 = .ok (.invokestatic 74, 3) := by decide +kernel
theorem dX6_drift_23 : decode cX6_drift 23 = .ok (.ifCond .ne 5, 3) := by decide +kernel
theorem dX6_drift_26 : decode cX6_drift 26 = .ok (.iconst (-1), 1) := by decide +kernel
theorem dX6_drift_27 : decode cX6_drift 27 = .ok (.ireturn, 1) := by decide +kernel
theorem dX6_drift_28 : decode cX6_drift 28 = .ok (.aload_n 0, 1) := by decide +kernel
theorem dX6_drift_29 : decode cX6_drift 29 = .ok (.getfield 34, 3) := by decide +kernel
theorem dX6_drift_32 : decode cX6_drift 32 = .ok (.iload_n 1, 1) := by decide +kernel
theorem dX6_drift_33 : decode cX6_drift 33 = .ok (.iload_n 2, 1) := by decide +kernel
theorem dX6_drift_34 : decode cX6_drift 34 = .ok (.iload_n 3, 1) := by decide +kernel
theorem dX6_drift_35 : decode cX6_drift 35 = .ok (.invokevirtual 182, 3) := by decide +kernel
theorem dX6_drift_38 : decode cX6_drift 38 = .ok (.ireturn, 1) := by decide +kernel
set_option maxRecDepth 20000 in
theorem ggX6_fits_X6_isPiece : GoodIn wsX6_fits wsX6_isPiece := goodIn_r _ [6, 7, 8, 52, 53, 54, 55, 56, 57, 58, 59, 60, 61, 62, 63, 64, 65, 66, 67, 68, 69, 70, 71, 72, 73, 74, 75, 76, 77, 78, 79] (by decide +kernel) (by decide +kernel)
set_option maxRecDepth 20000 in
theorem gX6_fits_X6_isPiece : GoodIn wsX6_fits (wsV RX6 186 RX6 yX6_isPiece wsX6_isPiece) := goodIn_app (goodIn_of _ (by decide +kernel)) ggX6_fits_X6_isPiece
set_option maxRecDepth 20000 in
theorem ggX6_fits_X6_isCell : GoodIn wsX6_fits wsX6_isCell := goodIn_r _ [11] (by decide +kernel) (by decide +kernel)
set_option maxRecDepth 20000 in
theorem gX6_fits_X6_isCell : GoodIn wsX6_fits (va_wsS RX6 97 yX6_isCell wsX6_isCell) := goodIn_app (goodIn_of _ (by decide +kernel)) ggX6_fits_X6_isCell
set_option maxRecDepth 20000 in
theorem ggX6_fits_X1_fit : GoodIn wsX6_fits wsX1_fit := goodIn_r _ [16, 17, 18, 19, 20, 15, 21, 22, 23, 24, 25, 26, 27, 28, 29, 30, 31, 32, 33, 34, 35, 36, 37, 38, 5, 39, 40, 41, 42, 43, 44, 45, 46, 47, 48, 49, 50, 51, 80, 81, 64, 65, 66, 67, 68, 69, 70, 71, 72, 73, 74, 75, 76, 77, 78, 79] (by decide +kernel) (by decide +kernel)
set_option maxRecDepth 20000 in
theorem gX6_fits_X1_fit : GoodIn wsX6_fits (wsV RX6 189 RX1 yX1_fit wsX1_fit) := goodIn_app (goodIn_of _ (by decide +kernel)) ggX6_fits_X1_fit
theorem dX6_fits_0 : decode cX6_fits 0 = .ok (.aload_n 0, 1) := by decide +kernel
theorem dX6_fits_1 : decode cX6_fits 1 = .ok (.iload_n 1, 1) := by decide +kernel
theorem dX6_fits_2 : decode cX6_fits 2 = .ok (.invokevirtual 186, 3) := by decide +kernel
theorem dX6_fits_5 : decode cX6_fits 5 = .ok (.ifCond .eq 10, 3) := by decide +kernel
theorem dX6_fits_8 : decode cX6_fits 8 = .ok (.iload_n 2, 1) := by decide +kernel
theorem dX6_fits_9 : decode cX6_fits 9 = .ok (.invokestatic 97, 3) := by decide +kernel
theorem dX6_fits_12 : decode cX6_fits 12 = .ok (.ifCond .ne 5, 3) := by decide +kernel
theorem dX6_fits_15 : decode cX6_fits 15 = .ok (.iconst (-1), 1) := by decide +kernel
theorem dX6_fits_16 : decode cX6_fits 16 = .ok (.ireturn, 1) := by decide +kernel
theorem dX6_fits_17 : decode cX6_fits 17 = .ok (.aload_n 0, 1) := by decide +kernel
theorem dX6_fits_18 : decode cX6_fits 18 = .ok (.getfield 34, 3) := by decide +kernel
theorem dX6_fits_21 : decode cX6_fits 21 = .ok (.iload_n 1, 1) := by decide +kernel
theorem dX6_fits_22 : decode cX6_fits 22 = .ok (.iload_n 2, 1) := by decide +kernel
theorem dX6_fits_23 : decode cX6_fits 23 = .ok (.invokevirtual 189, 3) := by decide +kernel
theorem dX6_fits_26 : decode cX6_fits 26 = .ok (.ireturn, 1) := by decide +kernel
set_option maxRecDepth 20000 in
theorem ggX6_drag_X6_isCell : GoodIn wsX6_drag wsX6_isCell := goodIn_r _ [9] (by decide +kernel) (by decide +kernel)
set_option maxRecDepth 20000 in
theorem gX6_drag_X6_isCell : GoodIn wsX6_drag (va_wsS RX6 97 yX6_isCell wsX6_isCell) := goodIn_app (goodIn_of _ (by decide +kernel)) ggX6_drag_X6_isCell
set_option maxRecDepth 20000 in
theorem ggX6_drag_X6_within : GoodIn wsX6_drag wsX6_within := goodIn_r _ [12] (by decide +kernel) (by decide +kernel)
set_option maxRecDepth 20000 in
theorem gX6_drag_X6_within : GoodIn wsX6_drag (va_wsS RX6 74 yX6_within wsX6_within) := goodIn_app (goodIn_of _ (by decide +kernel)) ggX6_drag_X6_within
theorem dX6_drag_0 : decode cX6_drag 0 = .ok (.iload_n 1, 1) := by decide +kernel
theorem dX6_drag_1 : decode cX6_drag 1 = .ok (.invokestatic 97, 3) := by decide +kernel
theorem dX6_drag_4 : decode cX6_drag 4 = .ok (.ifCond .eq 13, 3) := by decide +kernel
theorem dX6_drag_7 : decode cX6_drag 7 = .ok (.iload_n 2, 1) := by decide +kernel
theorem dX6_drag_8 : decode cX6_drag 8 = .ok (.iconst 1, 1) := by decide +kernel
theorem dX6_drag_9 : decode cX6_drag 9 = .ok (.bipush 7, 2) := by decide +kernel
theorem dX6_drag_11 : decode cX6_drag 11 = .ok (.invokestatic 74, 3) := by decide +kernel
theorem dX6_drag_14 : decode cX6_drag 14 = .ok (.ifCond .ne 5, 3) := by decide +kernel
theorem dX6_drag_17 : decode cX6_drag 17 = .ok (.iconst (-1), 1) := by decide +kernel
theorem dX6_drag_18 : decode cX6_drag 18 = .ok (.ireturn, 1) := by decide +kernel
theorem dX6_drag_19 : decode cX6_drag 19 = .ok (.aload_n 0, 1) := by decide +kernel
theorem dX6_drag_20 : decode cX6_drag 20 = .ok (.getfield 10, 3) := by decide +kernel
theorem dX6_drag_23 : decode cX6_drag 23 = .ok (.getfield 193, 3) := by decide +kernel
theorem dX6_drag_26 : decode cX6_drag 26 = .ok (.istore_n 3, 1) := by decide +kernel
theorem dX6_drag_27 : decode cX6_drag 27 = .ok (.iload_n 3, 1) := by decide +kernel
theorem dX6_drag_28 : decode cX6_drag 28 = .ok (.iconst 4, 1) := by decide +kernel
theorem dX6_drag_29 : decode cX6_drag 29 = .ok (.if_icmp .lt 6, 3) := by decide +kernel
theorem dX6_drag_32 : decode cX6_drag 32 = .ok (.bipush (-3), 2) := by decide +kernel
theorem dX6_drag_34 : decode cX6_drag 34 = .ok (.ireturn, 1) := by decide +kernel
theorem dX6_drag_35 : decode cX6_drag 35 = .ok (.aload_n 0, 1) := by decide +kernel
theorem dX6_drag_36 : decode cX6_drag 36 = .ok (.getfield 10, 3) := by decide +kernel
theorem dX6_drag_39 : decode cX6_drag 39 = .ok (.getfield 196, 3) := by decide +kernel
theorem dX6_drag_42 : decode cX6_drag 42 = .ok (.iload_n 3, 1) := by decide +kernel
theorem dX6_drag_43 : decode cX6_drag 43 = .ok (.iload_n 1, 1) := by decide +kernel
theorem dX6_drag_44 : decode cX6_drag 44 = .ok (.iastore, 1) := by decide +kernel
theorem dX6_drag_45 : decode cX6_drag 45 = .ok (.aload_n 0, 1) := by decide +kernel
theorem dX6_drag_46 : decode cX6_drag 46 = .ok (.getfield 10, 3) := by decide +kernel
theorem dX6_drag_49 : decode cX6_drag 49 = .ok (.getfield 199, 3) := by decide +kernel
theorem dX6_drag_52 : decode cX6_drag 52 = .ok (.iload_n 3, 1) := by decide +kernel
theorem dX6_drag_53 : decode cX6_drag 53 = .ok (.iload_n 2, 1) := by decide +kernel
theorem dX6_drag_54 : decode cX6_drag 54 = .ok (.iastore, 1) := by decide +kernel
theorem dX6_drag_55 : decode cX6_drag 55 = .ok (.aload_n 0, 1) := by decide +kernel
theorem dX6_drag_56 : decode cX6_drag 56 = .ok (.getfield 10, 3) := by decide +kernel
theorem dX6_drag_59 : decode cX6_drag 59 = .ok (.iload_n 3, 1) := by decide +kernel
theorem dX6_drag_60 : decode cX6_drag 60 = .ok (.iconst 1, 1) := by decide +kernel
theorem dX6_drag_61 : decode cX6_drag 61 = .ok (.iadd, 1) := by decide +kernel
theorem dX6_drag_62 : decode cX6_drag 62 = .ok (.putfield 193, 3) := by decide +kernel
theorem dX6_drag_65 : decode cX6_drag 65 = .ok (.aload_n 0, 1) := by decide +kernel
theorem dX6_drag_66 : decode cX6_drag 66 = .ok (.iconst 1, 1) := by decide +kernel
theorem dX6_drag_67 : decode cX6_drag 67 = .ok (.putfield 70, 3) := by decide +kernel
theorem dX6_drag_70 : decode cX6_drag 70 = .ok (.iload_n 3, 1) := by decide +kernel
theorem dX6_drag_71 : decode cX6_drag 71 = .ok (.ireturn, 1) := by decide +kernel
set_option maxRecDepth 20000 in
theorem ggX6_odds_X6_isCell : GoodIn wsX6_odds wsX6_isCell := goodIn_r _ [7] (by decide +kernel) (by decide +kernel)
set_option maxRecDepth 20000 in
theorem gX6_odds_X6_isCell : GoodIn wsX6_odds (va_wsS RX6 97 yX6_isCell wsX6_isCell) := goodIn_app (goodIn_of _ (by decide +kernel)) ggX6_odds_X6_isCell
set_option maxRecDepth 20000 in
theorem ggX6_odds_X6_within : GoodIn wsX6_odds wsX6_within := goodIn_r _ [10] (by decide +kernel) (by decide +kernel)
set_option maxRecDepth 20000 in
theorem gX6_odds_X6_within : GoodIn wsX6_odds (va_wsS RX6 74 yX6_within wsX6_within) := goodIn_app (goodIn_of _ (by decide +kernel)) ggX6_odds_X6_within
set_option maxRecDepth 20000 in
theorem ggX6_odds_X6_weighed : GoodIn wsX6_odds wsX6_weighed := goodIn_r _ [14, 15, 16, 17, 18, 19, 20, 6, 21, 22, 23, 24, 25, 26, 27, 28, 29, 30, 31, 32, 33, 34, 35, 36, 37, 38, 39, 40, 41, 42, 43, 44, 45, 46, 47, 48, 49, 50, 51, 52, 53, 54, 55, 56, 57, 58, 59, 60, 61, 62, 63, 64, 65, 66, 5, 7, 67, 68, 69, 70, 71, 72, 73, 74, 75, 76, 77, 78, 79, 80, 81, 82, 83, 84, 85, 86, 87, 88, 89, 90, 91, 92, 93, 94, 95, 96, 97, 98, 99, 100, 101, 102, 103, 104, 105, 106, 107, 108, 109, 110, 111, 112, 113, 114, 115, 116, 117, 118, 119, 120, 121, 122, 123, 124, 125, 126, 127, 128, 129, 130, 131, 132, 133, 134, 135, 136, 137, 138, 139, 140, 141, 142, 143, 144, 145, 146, 147, 148, 149, 161, 162, 163, 164, 165, 166, 167, 168, 169, 170, 171, 172, 173, 174, 175, 176, 177, 178, 179, 180, 181, 182, 183, 184, 185, 186, 187, 188, 189, 190, 191, 192, 193, 194, 195, 196, 197, 198, 199, 200, 201, 202, 203, 204, 205, 206, 207, 208, 157, 158, 159, 160, 209, 210] (by decide +kernel) (by decide +kernel)
set_option maxRecDepth 20000 in
theorem gX6_odds_X6_weighed : GoodIn wsX6_odds (wsV RX6 204 RX6 yX6_weighed wsX6_weighed) := goodIn_app (goodIn_of _ (by decide +kernel)) ggX6_odds_X6_weighed
set_option maxRecDepth 20000 in
theorem ggX6_odds_X6_partOf : GoodIn wsX6_odds wsX6_partOf := goodIn_r _ [152, 153, 154, 155, 6, 156] (by decide +kernel) (by decide +kernel)
set_option maxRecDepth 20000 in
theorem gX6_odds_X6_partOf : GoodIn wsX6_odds (va_wsS RX6 215 yX6_partOf wsX6_partOf) := goodIn_app (goodIn_of _ (by decide +kernel)) ggX6_odds_X6_partOf
theorem dX6_odds_0 : decode cX6_odds 0 = .ok (.iload_n 1, 1) := by decide +kernel
theorem dX6_odds_1 : decode cX6_odds 1 = .ok (.invokestatic 97, 3) := by decide +kernel
theorem dX6_odds_4 : decode cX6_odds 4 = .ok (.ifCond .eq 12, 3) := by decide +kernel
theorem dX6_odds_7 : decode cX6_odds 7 = .ok (.iload_n 2, 1) := by decide +kernel
theorem dX6_odds_8 : decode cX6_odds 8 = .ok (.iconst 0, 1) := by decide +kernel
theorem dX6_odds_9 : decode cX6_odds 9 = .ok (.iconst 1, 1) := by decide +kernel
theorem dX6_odds_10 : decode cX6_odds 10 = .ok (.invokestatic 74, 3) := by decide +kernel
theorem dX6_odds_13 : decode cX6_odds 13 = .ok (.ifCond .ne 7, 3) := by decide +kernel
theorem dX6_odds_16 : decode cX6_odds 16 = .ok (.ldc2_w 202, 3) := by decide +kernel
theorem dX6_odds_19 : decode cX6_odds 19 = .ok (.lreturn, 1) := by decide +kernel
theorem dX6_odds_20 : decode cX6_odds 20 = .ok (.aload_n 0, 1) := by decide +kernel
theorem dX6_odds_21 : decode cX6_odds 21 = .ok (.invokevirtual 204, 3) := by decide +kernel
theorem dX6_odds_24 : decode cX6_odds 24 = .ok (.astore_n 3, 1) := by decide +kernel
theorem dX6_odds_25 : decode cX6_odds 25 = .ok (.aload_n 3, 1) := by decide +kernel
theorem dX6_odds_26 : decode cX6_odds 26 = .ok (.getfield 208, 3) := by decide +kernel
theorem dX6_odds_29 : decode cX6_odds 29 = .ok (.iload_n 1, 1) := by decide +kernel
theorem dX6_odds_30 : decode cX6_odds 30 = .ok (.laload, 1) := by decide +kernel
theorem dX6_odds_31 : decode cX6_odds 31 = .ok (.aload_n 3, 1) := by decide +kernel
theorem dX6_odds_32 : decode cX6_odds 32 = .ok (.getfield 212, 3) := by decide +kernel
theorem dX6_odds_35 : decode cX6_odds 35 = .ok (.iload_n 2, 1) := by decide +kernel
theorem dX6_odds_36 : decode cX6_odds 36 = .ok (.invokestatic 215, 3) := by decide +kernel
theorem dX6_odds_39 : decode cX6_odds 39 = .ok (.lreturn, 1) := by decide +kernel
set_option maxRecDepth 20000 in
theorem ggX6_where_X6_within : GoodIn wsX6_where wsX6_within := goodIn_r _ [5] (by decide +kernel) (by decide +kernel)
set_option maxRecDepth 20000 in
theorem gX6_where_X6_within : GoodIn wsX6_where (va_wsS RX6 74 yX6_within wsX6_within) := goodIn_app (goodIn_of _ (by decide +kernel)) ggX6_where_X6_within
set_option maxRecDepth 20000 in
theorem ggX6_where_X6_weighed : GoodIn wsX6_where wsX6_weighed := goodIn_r _ [9, 10, 11, 12, 13, 14, 15, 4, 16, 17, 18, 19, 20, 21, 22, 23, 24, 25, 26, 27, 28, 29, 30, 31, 32, 33, 34, 35, 36, 37, 38, 39, 40, 41, 42, 43, 44, 45, 46, 47, 48, 49, 50, 51, 52, 53, 54, 55, 56, 57, 58, 59, 60, 61, 62, 63, 64, 65, 66, 67, 68, 69, 70, 71, 72, 73, 74, 75, 76, 77, 78, 79, 80, 81, 82, 83, 84, 85, 86, 87, 88, 89, 90, 91, 92, 93, 94, 95, 96, 97, 98, 99, 100, 101, 102, 103, 104, 105, 106, 107, 108, 109, 110, 111, 112, 113, 114, 115, 116, 117, 118, 119, 120, 121, 122, 123, 124, 125, 126, 127, 128, 129, 130, 131, 132, 133, 134, 135, 136, 137, 138, 139, 140, 141, 142, 143, 144, 145, 146, 151, 152, 153, 154, 155, 156, 157, 158, 159, 160, 161, 162, 163, 164, 165, 166, 167, 168, 169, 170, 171, 172, 173, 174, 175, 176, 177, 178, 179, 180, 181, 182, 183, 184, 185, 186, 187, 188, 189, 190, 191, 192, 193, 194, 195, 196, 197, 198, 147, 148, 149, 150, 199, 200] (by decide +kernel) (by decide +kernel)
set_option maxRecDepth 20000 in
theorem gX6_where_X6_weighed : GoodIn wsX6_where (wsV RX6 204 RX6 yX6_weighed wsX6_weighed) := goodIn_app (goodIn_of _ (by decide +kernel)) ggX6_where_X6_weighed
theorem dX6_where_0 : decode cX6_where 0 = .ok (.iload_n 1, 1) := by decide +kernel
theorem dX6_where_1 : decode cX6_where 1 = .ok (.iconst 0, 1) := by decide +kernel
theorem dX6_where_2 : decode cX6_where 2 = .ok (.bipush 9, 2) := by decide +kernel
theorem dX6_where_4 : decode cX6_where 4 = .ok (.invokestatic 74, 3) := by decide +kernel
theorem dX6_where_7 : decode cX6_where 7 = .ok (.ifCond .ne 5, 3) := by decide +kernel
theorem dX6_where_10 : decode cX6_where 10 = .ok (.iconst (-1), 1) := by decide +kernel
theorem dX6_where_11 : decode cX6_where 11 = .ok (.ireturn, 1) := by decide +kernel
theorem dX6_where_12 : decode cX6_where 12 = .ok (.aload_n 0, 1) := by decide +kernel
theorem dX6_where_13 : decode cX6_where 13 = .ok (.invokevirtual 204, 3) := by decide +kernel
theorem dX6_where_16 : decode cX6_where 16 = .ok (.getfield 208, 3) := by decide +kernel
theorem dX6_where_19 : decode cX6_where 19 = .ok (.astore_n 2, 1) := by decide +kernel
theorem dX6_where_20 : decode cX6_where 20 = .ok (.iconst 0, 1) := by decide +kernel
theorem dX6_where_21 : decode cX6_where 21 = .ok (.istore_n 3, 1) := by decide +kernel
theorem dX6_where_22 : decode cX6_where 22 = .ok (.iconst 0, 1) := by decide +kernel
theorem dX6_where_23 : decode cX6_where 23 = .ok (.istore 4, 2) := by decide +kernel
