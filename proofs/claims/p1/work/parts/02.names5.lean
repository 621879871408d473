set_option maxRecDepth 20000 in
theorem gX7_drift_X7_isCell : GoodIn wsX7_drift (va_wsS RX7 115 yX7_isCell wsX7_isCell) := goodIn_app (goodIn_of _ (by decide +kernel)) ggX7_drift_X7_isCell
set_option maxRecDepth 20000 in
theorem ggX7_drift_X7_in : GoodIn wsX7_drift wsX7_in := goodIn_r _ [9] (by decide +kernel) (by decide +kernel)
set_option maxRecDepth 20000 in
theorem gX7_drift_X7_in : GoodIn wsX7_drift (va_wsS RX7 100 yX7_in wsX7_in) := goodIn_app (goodIn_of _ (by decide +kernel)) ggX7_drift_X7_in
set_option maxRecDepth 20000 in
theorem ggX7_drift_X7_driftTo : GoodIn wsX7_drift wsX7_driftTo := goodIn_r _ [13, 14, 15, 16, 4, 17, 18, 19, 20, 21, 22, 23, 24, 25, 26, 27, 28, 29, 7, 8, 9, 30, 31, 32, 33, 34, 35, 36, 37, 38, 39, 40, 41, 42, 43, 44, 45, 46, 47, 48, 49, 50, 51, 52, 53, 54, 55, 56, 57, 58, 59, 60, 61, 62, 63, 64, 65, 66, 67, 68, 69, 70, 71] (by decide +kernel) (by decide +kernel)
set_option maxRecDepth 20000 in
theorem gX7_drift_X7_driftTo : GoodIn wsX7_drift (wsV RX7 212 RX7 yX7_driftTo wsX7_driftTo) := goodIn_app (goodIn_of _ (by decide +kernel)) ggX7_drift_X7_driftTo
theorem dX7_drift_0 : decode cX7_drift 0 = .ok (.iload_n 1, 1) := by decide +kernel
theorem dX7_drift_1 : decode cX7_drift 1 = .ok (.invokestatic 115, 3) := by decide +kernel
theorem dX7_drift_4 : decode cX7_drift 4 = .ok (.ifCond .eq 35, 3) := by decide +kernel
theorem dX7_drift_7 : decode cX7_drift 7 = .ok (.iload_n 2, 1) := by decide +kernel
theorem dX7_drift_8 : decode cX7_drift 8 = .ok (.i2l, 1) := by decide +kernel
theorem dX7_drift_9 : decode cX7_drift 9 = .ok (.lconst 0, 1) := by decide +kernel
theorem dX7_drift_10 : decode cX7_drift 10 = .ok (.ldc2_w 204, 3) := by decide +kernel
theorem dX7_drift_13 : decode cX7_drift 13 = .ok (.invokestatic 100, 3) := by decide +kernel
theorem dX7_drift_16 : decode cX7_drift 16 = .ok (.ifCond .eq 23, 3) := by decide +kernel
theorem dX7_drift_19 : decode cX7_drift 19 = .ok (.iload_n 3, 1) := by decide +kernel
theorem dX7_drift_20 : decode cX7_drift 20 = .ok (.i2l, 1) := by decide +kernel
theorem dX7_drift_21 : decode cX7_drift 21 = .ok (.lconst 0, 1) := by decide +kernel
theorem dX7_drift_22 : decode cX7_drift 22 = .ok (.lconst 1, 1) := by decide +kernel
theorem dX7_drift_23 : decode cX7_drift 23 = .ok (.invokestatic 100, 3) := by decide +kernel
theorem dX7_drift_26 : decode cX7_drift 26 = .ok (.ifCond .eq 13, 3) := by decide +kernel
theorem dX7_drift_29 : decode cX7_drift 29 = .ok (.aload_n 0, 1) := by decide +kernel
theorem dX7_drift_30 : decode cX7_drift 30 = .ok (.iload_n 1, 1) := by decide +kernel
theorem dX7_drift_31 : decode cX7_drift 31 = .ok (.iload_n 2, 1) := by decide +kernel
theorem dX7_drift_32 : decode cX7_drift 32 = .ok (.iload_n 3, 1) := by decide +kernel
theorem dX7_drift_33 : decode cX7_drift 33 = .ok (.invokevirtual 212, 3) := by decide +kernel
theorem dX7_drift_36 : decode cX7_drift 36 = .ok (.goto 4, 3) := by decide +kernel
theorem dX7_drift_39 : decode cX7_drift 39 = .ok (.iconst (-1), 1) := by decide +kernel
theorem dX7_drift_40 : decode cX7_drift 40 = .ok (.ireturn, 1) := by decide +kernel
set_option maxRecDepth 20000 in
theorem ggX7_fit_X7_drifted : GoodIn wsX7_fit wsX7_drifted := goodIn_r _ [8, 9, 10, 11, 12, 7, 13, 14, 15, 16, 17, 18, 19, 20, 21, 22, 23, 24, 25, 26, 27, 28, 29, 30, 31, 32, 33, 34, 35, 36, 37, 38, 39, 40, 41, 42, 43, 44, 45, 46, 47, 48, 49, 50, 51, 52, 53, 54, 55, 56, 57, 58, 59, 60, 61, 62, 63, 64, 65] (by decide +kernel) (by decide +kernel)
set_option maxRecDepth 20000 in
theorem gX7_fit_X7_drifted : GoodIn wsX7_fit (wsV RX7 209 RX7 yX7_drifted wsX7_drifted) := goodIn_app (goodIn_of _ (by decide +kernel)) ggX7_fit_X7_drifted
set_option maxRecDepth 20000 in
theorem ggX7_fit_X7_in : GoodIn wsX7_fit wsX7_in := goodIn_r _ [23] (by decide +kernel) (by decide +kernel)
set_option maxRecDepth 20000 in
theorem gX7_fit_X7_in : GoodIn wsX7_fit (va_wsS RX7 100 yX7_in wsX7_in) := goodIn_app (goodIn_of _ (by decide +kernel)) ggX7_fit_X7_in
theorem dX7_fit_0 : decode cX7_fit 0 = .ok (.iconst 5, 1) := by decide +kernel
theorem dX7_fit_1 : decode cX7_fit 1 = .ok (.iload_n 1, 1) := by decide +kernel
theorem dX7_fit_2 : decode cX7_fit 2 = .ok (.imul, 1) := by decide +kernel
theorem dX7_fit_3 : decode cX7_fit 3 = .ok (.istore_n 3, 1) := by decide +kernel
theorem dX7_fit_4 : decode cX7_fit 4 = .ok (.aload_n 0, 1) := by decide +kernel
theorem dX7_fit_5 : decode cX7_fit 5 = .ok (.getfield 64, 3) := by decide +kernel
theorem dX7_fit_8 : decode cX7_fit 8 = .ok (.iload_n 3, 1) := by decide +kernel
theorem dX7_fit_9 : decode cX7_fit 9 = .ok (.iconst 1, 1) := by decide +kernel
theorem dX7_fit_10 : decode cX7_fit 10 = .ok (.iadd, 1) := by decide +kernel
theorem dX7_fit_11 : decode cX7_fit 11 = .ok (.iaload, 1) := by decide +kernel
theorem dX7_fit_12 : decode cX7_fit 12 = .ok (.istore 4, 2) := by decide +kernel
theorem dX7_fit_14 : decode cX7_fit 14 = .ok (.iload_n 2, 1) := by decide +kernel
theorem dX7_fit_15 : decode cX7_fit 15 = .ok (.istore 5, 2) := by decide +kernel
theorem dX7_fit_17 : decode cX7_fit 17 = .ok (.iconst 1, 1) := by decide +kernel
theorem dX7_fit_18 : decode cX7_fit 18 = .ok (.istore 6, 2) := by decide +kernel
theorem dX7_fit_20 : decode cX7_fit 20 = .ok (.iconst 0, 1) := by decide +kernel
theorem dX7_fit_21 : decode cX7_fit 21 = .ok (.istore 7, 2) := by decide +kernel
theorem dX7_fit_23 : decode cX7_fit 23 = .ok (.iload 7, 2) := by decide +kernel
theorem dX7_fit_25 : decode cX7_fit 25 = .ok (.iload 4, 2) := by decide +kernel
theorem dX7_fit_27 : decode cX7_fit 27 = .ok (.if_icmp .ge 81, 3) := by decide +kernel
theorem dX7_fit_30 : decode cX7_fit 30 = .ok (.iload 6, 2) := by decide +kernel
theorem dX7_fit_32 : decode cX7_fit 32 = .ok (.ifCond .eq 49, 3) := by decide +kernel
theorem dX7_fit_35 : decode cX7_fit 35 = .ok (.iload 7, 2) := by decide +kernel
theorem dX7_fit_37 : decode cX7_fit 37 = .ok (.iload 4, 2) := by decide +kernel
theorem dX7_fit_39 : decode cX7_fit 39 = .ok (.aload_n 0, 1) := by decide +kernel
theorem dX7_fit_40 : decode cX7_fit 40 = .ok (.getfield 64, 3) := by decide +kernel
theorem dX7_fit_43 : decode cX7_fit 43 = .ok (.iload_n 3, 1) := by decide +kernel
theorem dX7_fit_44 : decode cX7_fit 44 = .ok (.iconst 3, 1) := by decide +kernel
theorem dX7_fit_45 : decode cX7_fit 45 = .ok (.iadd, 1) := by decide +kernel
theorem dX7_fit_46 : decode cX7_fit 46 = .ok (.iaload, 1) := by decide +kernel
theorem dX7_fit_47 : decode cX7_fit 47 = .ok (.isub, 1) := by decide +kernel
theorem dX7_fit_48 : decode cX7_fit 48 = .ok (.if_icmp .lt 29, 3) := by decide +kernel
theorem dX7_fit_51 : decode cX7_fit 51 = .ok (.aload_n 0, 1) := by decide +kernel
theorem dX7_fit_52 : decode cX7_fit 52 = .ok (.getfield 22, 3) := by decide +kernel
theorem dX7_fit_55 : decode cX7_fit 55 = .ok (.bipush 100, 2) := by decide +kernel
theorem dX7_fit_57 : decode cX7_fit 57 = .ok (.iload 7, 2) := by decide +kernel
theorem dX7_fit_59 : decode cX7_fit 59 = .ok (.iconst 2, 1) := by decide +kernel
theorem dX7_fit_60 : decode cX7_fit 60 = .ok (.irem, 1) := by decide +kernel
theorem dX7_fit_61 : decode cX7_fit 61 = .ok (.imul, 1) := by decide +kernel
theorem dX7_fit_62 : decode cX7_fit 62 = .ok (.iload 5, 2) := by decide +kernel
theorem dX7_fit_64 : decode cX7_fit 64 = .ok (.iadd, 1) := by decide +kernel
theorem dX7_fit_65 : decode cX7_fit 65 = .ok (.iaload, 1) := by decide +kernel
theorem dX7_fit_66 : decode cX7_fit 66 = .ok (.aload_n 0, 1) := by decide +kernel
theorem dX7_fit_67 : decode cX7_fit 67 = .ok (.getfield 64, 3) := by decide +kernel
theorem dX7_fit_70 : decode cX7_fit 70 = .ok (.iload_n 3, 1) := by decide +kernel
theorem dX7_fit_71 : decode cX7_fit 71 = .ok (.iconst 4, 1) := by decide +kernel
theorem dX7_fit_72 : decode cX7_fit 72 = .ok (.iadd, 1) := by decide +kernel
theorem dX7_fit_73 : decode cX7_fit 73 = .ok (.iaload, 1) := by decide +kernel
theorem dX7_fit_74 : decode cX7_fit 74 = .ok (.if_icmp .lt 7, 3) := by decide +kernel
theorem dX7_fit_77 : decode cX7_fit 77 = .ok (.iconst 1, 1) := by decide +kernel
theorem dX7_fit_78 : decode cX7_fit 78 = .ok (.goto 4, 3) := by decide +kernel
theorem dX7_fit_81 : decode cX7_fit 81 = .ok (.iconst 0, 1) := by decide +kernel
theorem dX7_fit_82 : decode cX7_fit 82 = .ok (.istore 6, 2) := by decide +kernel
theorem dX7_fit_84 : decode cX7_fit 84 = .ok (.aload_n 0, 1) := by decide +kernel
theorem dX7_fit_85 : decode cX7_fit 85 = .ok (.iload 5, 2) := by decide +kernel
theorem dX7_fit_87 : decode cX7_fit 87 = .ok (.iload 7, 2) := by decide +kernel
theorem dX7_fit_89 : decode cX7_fit 89 = .ok (.aload_n 0, 1) := by decide +kernel
theorem dX7_fit_90 : decode cX7_fit 90 = .ok (.getfield 64, 3) := by decide +kernel
theorem dX7_fit_93 : decode cX7_fit 93 = .ok (.iload_n 3, 1) := by decide +kernel
theorem dX7_fit_94 : decode cX7_fit 94 = .ok (.iconst 2, 1) := by decide +kernel
theorem dX7_fit_95 : decode cX7_fit 95 = .ok (.iadd, 1) := by decide +kernel
theorem dX7_fit_96 : decode cX7_fit 96 = .ok (.iaload, 1) := by decide +kernel
theorem dX7_fit_97 : decode cX7_fit 97 = .ok (.invokevirtual 209, 3) := by decide +kernel
theorem dX7_fit_100 : decode cX7_fit 100 = .ok (.istore 5, 2) := by decide +kernel
theorem dX7_fit_102 : decode cX7_fit 102 = .ok (.iinc 7 1, 3) := by decide +kernel
theorem dX7_fit_105 : decode cX7_fit 105 = .ok (.goto (-82), 3) := by decide +kernel
theorem dX7_fit_108 : decode cX7_fit 108 = .ok (.iload 5, 2) := by decide +kernel
theorem dX7_fit_110 : decode cX7_fit 110 = .ok (.bipush 10, 2) := by decide +kernel
theorem dX7_fit_112 : decode cX7_fit 112 = .ok (.idiv, 1) := by decide +kernel
theorem dX7_fit_113 : decode cX7_fit 113 = .ok (.aload_n 0, 1) := by decide +kernel
theorem dX7_fit_114 : decode cX7_fit 114 = .ok (.getfield 64, 3) := by decide +kernel
theorem dX7_fit_117 : decode cX7_fit 117 = .ok (.iload_n 3, 1) := by decide +kernel
theorem dX7_fit_118 : decode cX7_fit 118 = .ok (.iaload, 1) := by decide +kernel
theorem dX7_fit_119 : decode cX7_fit 119 = .ok (.bipush 10, 2) := by decide +kernel
theorem dX7_fit_121 : decode cX7_fit 121 = .ok (.idiv, 1) := by decide +kernel
theorem dX7_fit_122 : decode cX7_fit 122 = .ok (.isub, 1) := by decide +kernel
theorem dX7_fit_123 : decode cX7_fit 123 = .ok (.istore 7, 2) := by decide +kernel
theorem dX7_fit_125 : decode cX7_fit 125 = .ok (.iload 5, 2) := by decide +kernel
theorem dX7_fit_127 : decode cX7_fit 127 = .ok (.bipush 10, 2) := by decide +kernel
theorem dX7_fit_129 : decode cX7_fit 129 = .ok (.irem, 1) := by decide +kernel
theorem dX7_fit_130 : decode cX7_fit 130 = .ok (.aload_n 0, 1) := by decide +kernel
theorem dX7_fit_131 : decode cX7_fit 131 = .ok (.getfield 64, 3) := by decide +kernel
theorem dX7_fit_134 : decode cX7_fit 134 = .ok (.iload_n 3, 1) := by decide +kernel
theorem dX7_fit_135 : decode cX7_fit 135 = .ok (.iaload, 1) := by decide +kernel
theorem dX7_fit_136 : decode cX7_fit 136 = .ok (.bipush 10, 2) := by decide +kernel
theorem dX7_fit_138 : decode cX7_fit 138 = .ok (.irem, 1) := by decide +kernel
theorem dX7_fit_139 : decode cX7_fit 139 = .ok (.isub, 1) := by decide +kernel
theorem dX7_fit_140 : decode cX7_fit 140 = .ok (.istore 8, 2) := by decide +kernel
theorem dX7_fit_142 : decode cX7_fit 142 = .ok (.iload 7, 2) := by decide +kernel
theorem dX7_fit_144 : decode cX7_fit 144 = .ok (.i2l, 1) := by decide +kernel
theorem dX7_fit_145 : decode cX7_fit 145 = .ok (.ldc2_w 124, 3) := by decide +kernel
theorem dX7_fit_148 : decode cX7_fit 148 = .ok (.lconst 1, 1) := by decide +kernel
theorem dX7_fit_149 : decode cX7_fit 149 = .ok (.invokestatic 100, 3) := by decide +kernel
theorem dX7_fit_152 : decode cX7_fit 152 = .ok (.ifCond .eq 20, 3) := by decide +kernel
theorem dX7_fit_155 : decode cX7_fit 155 = .ok (.iload 8, 2) := by decide +kernel
theorem dX7_fit_157 : decode cX7_fit 157 = .ok (.i2l, 1) := by decide +kernel
theorem dX7_fit_158 : decode cX7_fit 158 = .ok (.ldc2_w 124, 3) := by decide +kernel
theorem dX7_fit_161 : decode cX7_fit 161 = .ok (.lconst 1, 1) := by decide +kernel
theorem dX7_fit_162 : decode cX7_fit 162 = .ok (.invokestatic 100, 3) := by decide +kernel
theorem dX7_fit_165 : decode cX7_fit 165 = .ok (.ifCond .eq 7, 3) := by decide +kernel
theorem dX7_fit_168 : decode cX7_fit 168 = .ok (.iconst 1, 1) := by decide +kernel
theorem dX7_fit_169 : decode cX7_fit 169 = .ok (.goto 4, 3) := by decide +kernel
theorem dX7_fit_172 : decode cX7_fit 172 = .ok (.iconst 0, 1) := by decide +kernel
theorem dX7_fit_173 : decode cX7_fit 173 = .ok (.istore 9, 2) := by decide +kernel
theorem dX7_fit_175 : decode cX7_fit 175 = .ok (.iload 6, 2) := by decide +kernel
theorem dX7_fit_177 : decode cX7_fit 177 = .ok (.ifCond .eq 8, 3) := by decide +kernel
theorem dX7_fit_180 : decode cX7_fit 180 = .ok (.iload 9, 2) := by decide +kernel
theorem dX7_fit_182 : decode cX7_fit 182 = .ok (.ifCond .ne 7, 3) := by decide +kernel
theorem dX7_fit_185 : decode cX7_fit 185 = .ok (.iconst 0, 1) := by decide +kernel
theorem dX7_fit_186 : decode cX7_fit 186 = .ok (.goto 19, 3) := by decide +kernel
theorem dX7_fit_189 : decode cX7_fit 189 = .ok (.iload 5, 2) := by decide +kernel
theorem dX7_fit_191 : decode cX7_fit 191 = .ok (.aload_n 0, 1) := by decide +kernel
theorem dX7_fit_192 : decode cX7_fit 192 = .ok (.getfield 64, 3) := by decide +kernel
theorem dX7_fit_195 : decode cX7_fit 195 = .ok (.iload_n 3, 1) := by decide +kernel
theorem dX7_fit_196 : decode cX7_fit 196 = .ok (.iaload, 1) := by decide +kernel
theorem dX7_fit_197 : decode cX7_fit 197 = .ok (.if_icmp .ne 7, 3) := by decide +kernel
theorem dX7_fit_200 : decode cX7_fit 200 = .ok (.iconst 4, 1) := by decide +kernel
theorem dX7_fit_201 : decode cX7_fit 201 = .ok (.goto 4, 3) := by decide +kernel
theorem dX7_fit_204 : decode cX7_fit 204 = .ok (.iconst 1, 1) := by decide +kernel
theorem dX7_fit_205 : decode cX7_fit 205 = .ok (.ireturn, 1) := by decide +kernel
set_option maxRecDepth 20000 in
theorem ggX7_fits_X7_in : GoodIn wsX7_fits wsX7_in := goodIn_r _ [5] (by decide +kernel) (by decide +kernel)
set_option maxRecDepth 20000 in
theorem gX7_fits_X7_in : GoodIn wsX7_fits (va_wsS RX7 100 yX7_in wsX7_in) := goodIn_app (goodIn_of _ (by decide +kernel)) ggX7_fits_X7_in
set_option maxRecDepth 20000 in
theorem ggX7_fits_X7_isCell : GoodIn wsX7_fits wsX7_isCell := goodIn_r _ [8, 9, 2, 3, 4, 5] (by decide +kernel) (by decide +kernel)
set_option maxRecDepth 20000 in
theorem gX7_fits_X7_isCell : GoodIn wsX7_fits (va_wsS RX7 115 yX7_isCell wsX7_isCell) := goodIn_app (goodIn_of _ (by decide +kernel)) ggX7_fits_X7_isCell
set_option maxRecDepth 20000 in
theorem ggX7_fits_X7_fit : GoodIn wsX7_fits wsX7_fit := goodIn_r _ [13, 14, 15, 16, 17, 18, 19, 4, 20, 21, 22, 23, 24, 25, 26, 27, 28, 29, 30, 31, 32, 2, 3, 5, 33, 34, 35, 36, 37, 38, 39, 40, 41, 42, 43, 44, 45, 46, 47, 48, 49, 50, 51, 52, 53, 54, 55, 56, 57, 58, 59, 60, 61, 62, 63, 64, 65, 66, 67, 68, 69, 70, 71, 72, 73, 74] (by decide +kernel) (by decide +kernel)
set_option maxRecDepth 20000 in
theorem gX7_fits_X7_fit : GoodIn wsX7_fits (wsV RX7 215 RX7 yX7_fit wsX7_fit) := goodIn_app (goodIn_of _ (by decide +kernel)) ggX7_fits_X7_fit
theorem dX7_fits_0 : decode cX7_fits 0 = .ok (.iload_n 1, 1) := by decide +kernel
theorem dX7_fits_1 : decode cX7_fits 1 = .ok (.i2l, 1) := by decide +kernel
theorem dX7_fits_2 : decode cX7_fits 2 = .ok (.lconst 0, 1) := by decide +kernel
theorem dX7_fits_3 : decode cX7_fits 3 = .ok (.aload_n 0, 1) := by decide +kernel
theorem dX7_fits_4 : decode cX7_fits 4 = .ok (.getfield 206, 3) := by decide +kernel
theorem dX7_fits_7 : decode cX7_fits 7 = .ok (.iconst 1, 1) := by decide +kernel
theorem dX7_fits_8 : decode cX7_fits 8 = .ok (.isub, 1) := by decide +kernel
theorem dX7_fits_9 : decode cX7_fits 9 = .ok (.i2l, 1) := by decide +kernel
theorem dX7_fits_10 : decode cX7_fits 10 = .ok (.invokestatic 100, 3) := by decide +kernel
theorem dX7_fits_13 : decode cX7_fits 13 = .ok (.ifCond .eq 19, 3) := by decide +kernel
theorem dX7_fits_16 : decode cX7_fits 16 = .ok (.iload_n 2, 1) := by decide +kernel
theorem dX7_fits_17 : decode cX7_fits 17 = .ok (.invokestatic 115, 3) := by decide +kernel
theorem dX7_fits_20 : decode cX7_fits 20 = .ok (.ifCond .eq 12, 3) := by decide +kernel
theorem dX7_fits_23 : decode cX7_fits 23 = .ok (.aload_n 0, 1) := by decide +kernel
theorem dX7_fits_24 : decode cX7_fits 24 = .ok (.iload_n 1, 1) := by decide +kernel
theorem dX7_fits_25 : decode cX7_fits 25 = .ok (.iload_n 2, 1) := by decide +kernel
theorem dX7_fits_26 : decode cX7_fits 26 = .ok (.invokevirtual 215, 3) := by decide +kernel
theorem dX7_fits_29 : decode cX7_fits 29 = .ok (.goto 4, 3) := by decide +kernel
theorem dX7_fits_32 : decode cX7_fits 32 = .ok (.iconst (-1), 1) := by decide +kernel
theorem dX7_fits_33 : decode cX7_fits 33 = .ok (.ireturn, 1) := by decide +kernel
set_option maxRecDepth 20000 in
theorem ggX7_drag_X7_isCell : GoodIn wsX7_drag wsX7_isCell := goodIn_r _ [8, 9, 10, 11, 7, 12] (by decide +kernel) (by decide +kernel)
set_option maxRecDepth 20000 in
theorem gX7_drag_X7_isCell : GoodIn wsX7_drag (va_wsS RX7 115 yX7_isCell wsX7_isCell) := goodIn_app (goodIn_of _ (by decide +kernel)) ggX7_drag_X7_isCell
set_option maxRecDepth 20000 in
theorem ggX7_drag_X7_in : GoodIn wsX7_drag wsX7_in := goodIn_r _ [12] (by decide +kernel) (by decide +kernel)
set_option maxRecDepth 20000 in
theorem gX7_drag_X7_in : GoodIn wsX7_drag (va_wsS RX7 100 yX7_in wsX7_in) := goodIn_app (goodIn_of _ (by decide +kernel)) ggX7_drag_X7_in
theorem dX7_drag_0 : decode cX7_drag 0 = .ok (.iload_n 1, 1) := by decide +kernel
theorem dX7_drag_1 : decode cX7_drag 1 = .ok (.invokestatic 115, 3) := by decide +kernel
theorem dX7_drag_4 : decode cX7_drag 4 = .ok (.ifCond .eq 15, 3) := by decide +kernel
theorem dX7_drag_7 : decode cX7_drag 7 = .ok (.iload_n 2, 1) := by decide +kernel
theorem dX7_drag_8 : decode cX7_drag 8 = .ok (.i2l, 1) := by decide +kernel
theorem dX7_drag_9 : decode cX7_drag 9 = .ok (.lconst 1, 1) := by decide +kernel
theorem dX7_drag_10 : decode cX7_drag 10 = .ok (.ldc2_w 113, 3) := by decide +kernel
theorem dX7_drag_13 : decode cX7_drag 13 = .ok (.invokestatic 100, 3) := by decide +kernel
theorem dX7_drag_16 : decode cX7_drag 16 = .ok (.ifCond .ne 5, 3) := by decide +kernel
theorem dX7_drag_19 : decode cX7_drag 19 = .ok (.iconst (-1), 1) := by decide +kernel
theorem dX7_drag_20 : decode cX7_drag 20 = .ok (.ireturn, 1) := by decide +kernel
theorem dX7_drag_21 : decode cX7_drag 21 = .ok (.aload_n 0, 1) := by decide +kernel
theorem dX7_drag_22 : decode cX7_drag 22 = .ok (.getfield 218, 3) := by decide +kernel
theorem dX7_drag_25 : decode cX7_drag 25 = .ok (.iconst 4, 1) := by decide +kernel
theorem dX7_drag_26 : decode cX7_drag 26 = .ok (.if_icmp .ne 6, 3) := by decide +kernel
theorem dX7_drag_29 : decode cX7_drag 29 = .ok (.bipush (-3), 2) := by decide +kernel
theorem dX7_drag_31 : decode cX7_drag 31 = .ok (.ireturn, 1) := by decide +kernel
theorem dX7_drag_32 : decode cX7_drag 32 = .ok (.aload_n 0, 1) := by decide +kernel
theorem dX7_drag_33 : decode cX7_drag 33 = .ok (.getfield 67, 3) := by decide +kernel
theorem dX7_drag_36 : decode cX7_drag 36 = .ok (.aload_n 0, 1) := by decide +kernel
theorem dX7_drag_37 : decode cX7_drag 37 = .ok (.getfield 218, 3) := by decide +kernel
theorem dX7_drag_40 : decode cX7_drag 40 = .ok (.iload_n 1, 1) := by decide +kernel
theorem dX7_drag_41 : decode cX7_drag 41 = .ok (.iastore, 1) := by decide +kernel
theorem dX7_drag_42 : decode cX7_drag 42 = .ok (.aload_n 0, 1) := by decide +kernel
theorem dX7_drag_43 : decode cX7_drag 43 = .ok (.getfield 70, 3) := by decide +kernel
theorem dX7_drag_46 : decode cX7_drag 46 = .ok (.aload_n 0, 1) := by decide +kernel
theorem dX7_drag_47 : decode cX7_drag 47 = .ok (.getfield 218, 3) := by decide +kernel
theorem dX7_drag_50 : decode cX7_drag 50 = .ok (.iload_n 2, 1) := by decide +kernel
theorem dX7_drag_51 : decode cX7_drag 51 = .ok (.iastore, 1) := by decide +kernel
theorem dX7_drag_52 : decode cX7_drag 52 = .ok (.aload_n 0, 1) := by decide +kernel
theorem dX7_drag_53 : decode cX7_drag 53 = .ok (.dup, 1) := by decide +kernel
theorem dX7_drag_54 : decode cX7_drag 54 = .ok (.getfield 218, 3) := by decide +kernel
theorem dX7_drag_57 : decode cX7_drag 57 = .ok (.iconst 1, 1) := by decide +kernel
theorem dX7_drag_58 : decode cX7_drag 58 = .ok (.iadd, 1) := by decide +kernel
theorem dX7_drag_59 : decode cX7_drag 59 = .ok (.putfield 218, 3) := by decide +kernel
theorem dX7_drag_62 : decode cX7_drag 62 = .ok (.aload_n 0, 1) := by decide +kernel
theorem dX7_drag_63 : decode cX7_drag 63 = .ok (.getfield 218, 3) := by decide +kernel
theorem dX7_drag_66 : decode cX7_drag 66 = .ok (.iconst 1, 1) := by decide +kernel
theorem dX7_drag_67 : decode cX7_drag 67 = .ok (.isub, 1) := by decide +kernel
theorem dX7_drag_68 : decode cX7_drag 68 = .ok (.ireturn, 1) := by decide +kernel
theorem dX7_clear_0 : decode cX7_clear 0 = .ok (.aload_n 0, 1) := by decide +kernel
theorem dX7_clear_1 : decode cX7_clear 1 = .ok (.getfield 206, 3) := by decide +kernel
theorem dX7_clear_4 : decode cX7_clear 4 = .ok (.aload_n 0, 1) := by decide +kernel
theorem dX7_clear_5 : decode cX7_clear 5 = .ok (.getfield 218, 3) := by decide +kernel
theorem dX7_clear_8 : decode cX7_clear 8 = .ok (.iadd, 1) := by decide +kernel
theorem dX7_clear_9 : decode cX7_clear 9 = .ok (.istore_n 1, 1) := by decide +kernel
theorem dX7_clear_10 : decode cX7_clear 10 = .ok (.aload_n 0, 1) := by decide +kernel
theorem dX7_clear_11 : decode cX7_clear 11 = .ok (.iconst 0, 1) := by decide +kernel
theorem dX7_clear_12 : decode cX7_clear 12 = .ok (.putfield 206, 3) := by decide +kernel
theorem dX7_clear_15 : decode cX7_clear 15 = .ok (.aload_n 0, 1) := by decide +kernel
theorem dX7_clear_16 : decode cX7_clear 16 = .ok (.iconst 0, 1) := by decide +kernel
theorem dX7_clear_17 : decode cX7_clear 17 = .ok (.putfield 218, 3) := by decide +kernel
theorem dX7_clear_20 : decode cX7_clear 20 = .ok (.iload_n 1, 1) := by decide +kernel
theorem dX7_clear_21 : decode cX7_clear 21 = .ok (.ireturn, 1) := by decide +kernel
set_option maxRecDepth 20000 in
theorem ggX7_ends_X7_begins : GoodIn wsX7_ends wsX7_begins := goodIn_r _ [18, 19, 20, 3, 2, 21, 22, 23, 24, 76, 77, 78, 79, 80, 81, 82, 83, 84, 85, 86, 87, 88, 89, 90, 91, 92, 93, 94, 95, 96, 97, 98, 99, 100, 101, 102, 103, 104, 105, 106, 107, 108, 109, 110, 111, 112, 113, 114, 115, 116, 117] (by decide +kernel) (by decide +kernel)
set_option maxRecDepth 20000 in
theorem gX7_ends_X7_begins : GoodIn wsX7_ends (wsV RX7 190 RX7 yX7_begins wsX7_begins) := goodIn_app (goodIn_of _ (by decide +kernel)) ggX7_ends_X7_begins
set_option maxRecDepth 20000 in
theorem ggX7_ends_X7_goesOn : GoodIn wsX7_ends wsX7_goesOn := goodIn_r _ [28, 19, 2, 20, 29, 30, 31, 17, 32, 21, 22, 5, 33, 23, 3, 34, 24, 35, 36, 37, 38, 39, 40, 41, 42, 43, 44, 45, 46, 47, 48, 49, 50, 51, 52, 53, 54, 55, 56, 57, 58, 59, 76, 77, 78, 79, 80, 81, 82, 83, 84, 85, 86, 87, 88, 89, 90, 91, 92, 93, 94, 95, 96, 97, 98, 99, 100, 101, 102, 103, 104, 105, 106, 107, 108, 109, 110, 111, 112, 113, 114, 115, 116, 117] (by decide +kernel) (by decide +kernel)
set_option maxRecDepth 20000 in
theorem gX7_ends_X7_goesOn : GoodIn wsX7_ends (wsV RX7 193 RX7 yX7_goesOn wsX7_goesOn) := goodIn_app (goodIn_of _ (by decide +kernel)) ggX7_ends_X7_goesOn
set_option maxRecDepth 20000 in
theorem ggX7_ends_X7_heavy : GoodIn wsX7_ends wsX7_heavy := goodIn_r _ [63, 2, 21, 22, 24, 76, 77, 78, 79, 80, 81, 82, 83, 84, 85, 86, 87, 88, 89, 90, 91, 92, 93, 94, 95, 96, 97, 98, 99, 100, 101, 102, 103, 104, 105, 106, 107, 108, 109, 110, 111, 112, 113, 114, 115, 116, 117] (by decide +kernel) (by decide +kernel)
set_option maxRecDepth 20000 in
theorem gX7_ends_X7_heavy : GoodIn wsX7_ends (wsV RX7 196 RX7 yX7_heavy wsX7_heavy) := goodIn_app (goodIn_of _ (by decide +kernel)) ggX7_ends_X7_heavy
set_option maxRecDepth 20000 in
theorem ggX7_ends_X7_gone : GoodIn wsX7_ends wsX7_gone := goodIn_r _ [37, 38, 39, 40, 17, 41, 42, 43, 44, 45, 46, 47] (by decide +kernel) (by decide +kernel)
set_option maxRecDepth 20000 in
theorem gX7_ends_X7_gone : GoodIn wsX7_ends (va_wsS RX7 173 yX7_gone wsX7_gone) := goodIn_app (goodIn_of _ (by decide +kernel)) ggX7_ends_X7_gone
set_option maxRecDepth 20000 in
theorem ggX7_ends_X7_fit : GoodIn wsX7_ends wsX7_fit := goodIn_r _ [67, 68, 69, 70, 71, 72, 73, 17, 74, 75, 2, 35, 36, 37, 38, 39, 40, 41, 42, 43, 44, 45, 46, 47, 76, 77, 78, 79, 80, 81, 82, 83, 84, 85, 86, 87, 88, 89, 90, 91, 92, 93, 94, 95, 96, 97, 98, 99, 100, 101, 102, 103, 104, 105, 106, 107, 108, 109, 110, 111, 112, 113, 114, 115, 116, 117] (by decide +kernel) (by decide +kernel)
set_option maxRecDepth 20000 in
theorem gX7_ends_X7_fit : GoodIn wsX7_ends (wsV RX7 215 RX7 yX7_fit wsX7_fit) := goodIn_app (goodIn_of _ (by decide +kernel)) ggX7_ends_X7_fit
theorem dX7_ends_0 : decode cX7_ends 0 = .ok (.iconst 0, 1) := by decide +kernel
theorem dX7_ends_1 : decode cX7_ends 1 = .ok (.istore_n 1, 1) := by decide +kernel
theorem dX7_ends_2 : decode cX7_ends 2 = .ok (.iload_n 1, 1) := by decide +kernel
theorem dX7_ends_3 : decode cX7_ends 3 = .ok (.bipush 100, 2) := by decide +kernel
theorem dX7_ends_5 : decode cX7_ends 5 = .ok (.if_icmp .ge 16, 3) := by decide +kernel
theorem dX7_ends_8 : decode cX7_ends 8 = .ok (.aload_n 0, 1) := by decide +kernel
theorem dX7_ends_9 : decode cX7_ends 9 = .ok (.getfield 73, 3) := by decide +kernel
theorem dX7_ends_12 : decode cX7_ends 12 = .ok (.iload_n 1, 1) := by decide +kernel
theorem dX7_ends_13 : decode cX7_ends 13 = .ok (.lconst 0, 1) := by decide +kernel
theorem dX7_ends_14 : decode cX7_ends 14 = .ok (.lastore, 1) := by decide +kernel
theorem dX7_ends_15 : decode cX7_ends 15 = .ok (.iinc 1 1, 3) := by decide +kernel
theorem dX7_ends_18 : decode cX7_ends 18 = .ok (.goto (-16), 3) := by decide +kernel
theorem dX7_ends_21 : decode cX7_ends 21 = .ok (.aload_n 0, 1) := by decide +kernel
theorem dX7_ends_22 : decode cX7_ends 22 = .ok (.invokevirtual 190, 3) := by decide +kernel
theorem dX7_ends_25 : decode cX7_ends 25 = .ok (.aload_n 0, 1) := by decide +kernel
theorem dX7_ends_26 : decode cX7_ends 26 = .ok (.invokevirtual 193, 3) := by decide +kernel
theorem dX7_ends_29 : decode cX7_ends 29 = .ok (.ifCond .eq 94, 3) := by decide +kernel
theorem dX7_ends_32 : decode cX7_ends 32 = .ok (.aload_n 0, 1) := by decide +kernel
theorem dX7_ends_33 : decode cX7_ends 33 = .ok (.getfield 7, 3) := by decide +kernel
theorem dX7_ends_36 : decode cX7_ends 36 = .ok (.iconst 2, 1) := by decide +kernel
theorem dX7_ends_37 : decode cX7_ends 37 = .ok (.iaload, 1) := by decide +kernel
theorem dX7_ends_38 : decode cX7_ends 38 = .ok (.istore_n 1, 1) := by decide +kernel
theorem dX7_ends_39 : decode cX7_ends 39 = .ok (.aload_n 0, 1) := by decide +kernel
theorem dX7_ends_40 : decode cX7_ends 40 = .ok (.invokevirtual 196, 3) := by decide +kernel
theorem dX7_ends_43 : decode cX7_ends 43 = .ok (.istore_n 2, 1) := by decide +kernel
theorem dX7_ends_44 : decode cX7_ends 44 = .ok (.aload_n 0, 1) := by decide +kernel
theorem dX7_ends_45 : decode cX7_ends 45 = .ok (.getfield 73, 3) := by decide +kernel
theorem dX7_ends_48 : decode cX7_ends 48 = .ok (.aload_n 0, 1) := by decide +kernel
theorem dX7_ends_49 : decode cX7_ends 49 = .ok (.getfield 43, 3) := by decide +kernel
theorem dX7_ends_52 : decode cX7_ends 52 = .ok (.iload_n 1, 1) := by decide +kernel
theorem dX7_ends_53 : decode cX7_ends 53 = .ok (.iaload, 1) := by decide +kernel
theorem dX7_ends_54 : decode cX7_ends 54 = .ok (.dup2, 1) := by decide +kernel
theorem dX7_ends_55 : decode cX7_ends 55 = .ok (.laload, 1) := by decide +kernel
theorem dX7_ends_56 : decode cX7_ends 56 = .ok (.ldc2_w 128, 3) := by decide +kernel
theorem dX7_ends_59 : decode cX7_ends 59 = .ok (.iload_n 2, 1) := by decide +kernel
theorem dX7_ends_60 : decode cX7_ends 60 = .ok (.i2l, 1) := by decide +kernel
theorem dX7_ends_61 : decode cX7_ends 61 = .ok (.lmul, 1) := by decide +kernel
theorem dX7_ends_62 : decode cX7_ends 62 = .ok (.ladd, 1) := by decide +kernel
theorem dX7_ends_63 : decode cX7_ends 63 = .ok (.lastore, 1) := by decide +kernel
theorem dX7_ends_64 : decode cX7_ends 64 = .ok (.iconst 1, 1) := by decide +kernel
theorem dX7_ends_65 : decode cX7_ends 65 = .ok (.istore_n 3, 1) := by decide +kernel
theorem dX7_ends_66 : decode cX7_ends 66 = .ok (.iload_n 3, 1) := by decide +kernel
theorem dX7_ends_67 : decode cX7_ends 67 = .ok (.aload_n 0, 1) := by decide +kernel
theorem dX7_ends_68 : decode cX7_ends 68 = .ok (.getfield 7, 3) := by decide +kernel
theorem dX7_ends_71 : decode cX7_ends 71 = .ok (.bipush 6, 2) := by decide +kernel
theorem dX7_ends_73 : decode cX7_ends 73 = .ok (.iaload, 1) := by decide +kernel
theorem dX7_ends_74 : decode cX7_ends 74 = .ok (.if_icmp .gt 46, 3) := by decide +kernel
theorem dX7_ends_77 : decode cX7_ends 77 = .ok (.aload_n 0, 1) := by decide +kernel
theorem dX7_ends_78 : decode cX7_ends 78 = .ok (.getfield 43, 3) := by decide +kernel
theorem dX7_ends_81 : decode cX7_ends 81 = .ok (.iload_n 1, 1) := by decide +kernel
theorem dX7_ends_82 : decode cX7_ends 82 = .ok (.iaload, 1) := by decide +kernel
theorem dX7_ends_83 : decode cX7_ends 83 = .ok (.aload_n 0, 1) := by decide +kernel
theorem dX7_ends_84 : decode cX7_ends 84 = .ok (.getfield 46, 3) := by decide +kernel
theorem dX7_ends_87 : decode cX7_ends 87 = .ok (.iload_n 1, 1) := by decide +kernel
theorem dX7_ends_88 : decode cX7_ends 88 = .ok (.iconst 1, 1) := by decide +kernel
theorem dX7_ends_89 : decode cX7_ends 89 = .ok (.isub, 1) := by decide +kernel
theorem dX7_ends_90 : decode cX7_ends 90 = .ok (.iaload, 1) := by decide +kernel
theorem dX7_ends_91 : decode cX7_ends 91 = .ok (.iload_n 3, 1) := by decide +kernel
theorem dX7_ends_92 : decode cX7_ends 92 = .ok (.invokestatic 173, 3) := by decide +kernel
theorem dX7_ends_95 : decode cX7_ends 95 = .ok (.istore 4, 2) := by decide +kernel
theorem dX7_ends_97 : decode cX7_ends 97 = .ok (.iload 4, 2) := by decide +kernel
theorem dX7_ends_99 : decode cX7_ends 99 = .ok (.ifCond .lt 15, 3) := by decide +kernel
theorem dX7_ends_102 : decode cX7_ends 102 = .ok (.aload_n 0, 1) := by decide +kernel
theorem dX7_ends_103 : decode cX7_ends 103 = .ok (.getfield 73, 3) := by decide +kernel
theorem dX7_ends_106 : decode cX7_ends 106 = .ok (.iload 4, 2) := by decide +kernel
theorem dX7_ends_108 : decode cX7_ends 108 = .ok (.dup2, 1) := by decide +kernel
theorem dX7_ends_109 : decode cX7_ends 109 = .ok (.laload, 1) := by decide +kernel
theorem dX7_ends_110 : decode cX7_ends 110 = .ok (.iload_n 2, 1) := by decide +kernel
theorem dX7_ends_111 : decode cX7_ends 111 = .ok (.i2l, 1) := by decide +kernel
theorem dX7_ends_112 : decode cX7_ends 112 = .ok (.ladd, 1) := by decide +kernel
theorem dX7_ends_113 : decode cX7_ends 113 = .ok (.lastore, 1) := by decide +kernel
theorem dX7_ends_114 : decode cX7_ends 114 = .ok (.iinc 3 1, 3) := by decide +kernel
theorem dX7_ends_117 : decode cX7_ends 117 = .ok (.goto (-51), 3) := by decide +kernel
theorem dX7_ends_120 : decode cX7_ends 120 = .ok (.goto (-95), 3) := by decide +kernel
theorem dX7_ends_123 : decode cX7_ends 123 = .ok (.aload_n 0, 1) := by decide +kernel
theorem dX7_ends_124 : decode cX7_ends 124 = .ok (.lconst 0, 1) := by decide +kernel
theorem dX7_ends_125 : decode cX7_ends 125 = .ok (.putfield 221, 3) := by decide +kernel
theorem dX7_ends_128 : decode cX7_ends 128 = .ok (.iconst 0, 1) := by decide +kernel
theorem dX7_ends_129 : decode cX7_ends 129 = .ok (.istore_n 1, 1) := by decide +kernel
theorem dX7_ends_130 : decode cX7_ends 130 = .ok (.iload_n 1, 1) := by decide +kernel
theorem dX7_ends_131 : decode cX7_ends 131 = .ok (.bipush 100, 2) := by decide +kernel
theorem dX7_ends_133 : decode cX7_ends 133 = .ok (.if_icmp .ge 141, 3) := by decide +kernel
theorem dX7_ends_136 : decode cX7_ends 136 = .ok (.iconst 0, 1) := by decide +kernel
theorem dX7_ends_137 : decode cX7_ends 137 = .ok (.istore_n 2, 1) := by decide +kernel
theorem dX7_ends_138 : decode cX7_ends 138 = .ok (.iload_n 2, 1) := by decide +kernel
theorem dX7_ends_139 : decode cX7_ends 139 = .ok (.aload_n 0, 1) := by decide +kernel
theorem dX7_ends_140 : decode cX7_ends 140 = .ok (.getfield 206, 3) := by decide +kernel
theorem dX7_ends_143 : decode cX7_ends 143 = .ok (.if_icmp .ge 52, 3) := by decide +kernel
theorem dX7_ends_146 : decode cX7_ends 146 = .ok (.aload_n 0, 1) := by decide +kernel
theorem dX7_ends_147 : decode cX7_ends 147 = .ok (.getfield 73, 3) := by decide +kernel
theorem dX7_ends_150 : decode cX7_ends 150 = .ok (.iload_n 1, 1) := by decide +kernel
theorem dX7_ends_151 : decode cX7_ends 151 = .ok (.dup2, 1) := by decide +kernel
theorem dX7_ends_152 : decode cX7_ends 152 = .ok (.laload, 1) := by decide +kernel
theorem dX7_ends_153 : decode cX7_ends 153 = .ok (.aload_n 0, 1) := by decide +kernel
theorem dX7_ends_154 : decode cX7_ends 154 = .ok (.getfield 73, 3) := by decide +kernel
theorem dX7_ends_157 : decode cX7_ends 157 = .ok (.iload_n 1, 1) := by decide +kernel
theorem dX7_ends_158 : decode cX7_ends 158 = .ok (.laload, 1) := by decide +kernel
theorem dX7_ends_159 : decode cX7_ends 159 = .ok (.lconst 0, 1) := by decide +kernel
theorem dX7_ends_160 : decode cX7_ends 160 = .ok (.lcmp, 1) := by decide +kernel
theorem dX7_ends_161 : decode cX7_ends 161 = .ok (.ifCond .eq 15, 3) := by decide +kernel
theorem dX7_ends_164 : decode cX7_ends 164 = .ok (.aload_n 0, 1) := by decide +kernel
theorem dX7_ends_165 : decode cX7_ends 165 = .ok (.getfield 225, 3) := by decide +kernel
theorem dX7_ends_168 : decode cX7_ends 168 = .ok (.iload_n 2, 1) := by decide +kernel
theorem dX7_ends_169 : decode cX7_ends 169 = .ok (.ishr, 1) := by decide +kernel
theorem dX7_ends_170 : decode cX7_ends 170 = .ok (.iconst 1, 1) := by decide +kernel
theorem dX7_ends_171 : decode cX7_ends 171 = .ok (.iand, 1) := by decide +kernel
theorem dX7_ends_172 : decode cX7_ends 172 = .ok (.iconst 1, 1) := by decide +kernel
theorem dX7_ends_173 : decode cX7_ends 173 = .ok (.if_icmp .ne 7, 3) := by decide +kernel
theorem dX7_ends_176 : decode cX7_ends 176 = .ok (.lconst 1, 1) := by decide +kernel
theorem dX7_ends_177 : decode cX7_ends 177 = .ok (.goto 10, 3) := by decide +kernel
theorem dX7_ends_180 : decode cX7_ends 180 = .ok (.aload_n 0, 1) := by decide +kernel
theorem dX7_ends_181 : decode cX7_ends 181 = .ok (.iload_n 2, 1) := by decide +kernel
theorem dX7_ends_182 : decode cX7_ends 182 = .ok (.iload_n 1, 1) := by decide +kernel
theorem dX7_ends_183 : decode cX7_ends 183 = .ok (.invokevirtual 215, 3) := by decide +kernel
theorem dX7_ends_186 : decode cX7_ends 186 = .ok (.i2l, 1) := by decide +kernel
theorem dX7_ends_187 : decode cX7_ends 187 = .ok (.lmul, 1) := by decide +kernel
theorem dX7_ends_188 : decode cX7_ends 188 = .ok (.lastore, 1) := by decide +kernel
theorem dX7_ends_189 : decode cX7_ends 189 = .ok (.iinc 2 1, 3) := by decide +kernel
theorem dX7_ends_192 : decode cX7_ends 192 = .ok (.goto (-54), 3) := by decide +kernel
theorem dX7_ends_195 : decode cX7_ends 195 = .ok (.iconst 0, 1) := by decide +kernel
theorem dX7_ends_196 : decode cX7_ends 196 = .ok (.istore_n 2, 1) := by decide +kernel
theorem dX7_ends_197 : decode cX7_ends 197 = .ok (.iload_n 2, 1) := by decide +kernel
theorem dX7_ends_198 : decode cX7_ends 198 = .ok (.aload_n 0, 1) := by decide +kernel
theorem dX7_ends_199 : decode cX7_ends 199 = .ok (.getfield 218, 3) := by decide +kernel
theorem dX7_ends_202 : decode cX7_ends 202 = .ok (.if_icmp .ge 51, 3) := by decide +kernel
theorem dX7_ends_205 : decode cX7_ends 205 = .ok (.aload_n 0, 1) := by decide +kernel
theorem dX7_ends_206 : decode cX7_ends 206 = .ok (.getfield 228, 3) := by decide +kernel
theorem dX7_ends_209 : decode cX7_ends 209 = .ok (.ifCond .ne 44, 3) := by decide +kernel
theorem dX7_ends_212 : decode cX7_ends 212 = .ok (.aload_n 0, 1) := by decide +kernel
theorem dX7_ends_213 : decode cX7_ends 213 = .ok (.getfield 73, 3) := by decide +kernel
theorem dX7_ends_216 : decode cX7_ends 216 = .ok (.iload_n 1, 1) := by decide +kernel
theorem dX7_ends_217 : decode cX7_ends 217 = .ok (.dup2, 1) := by decide +kernel
theorem dX7_ends_218 : decode cX7_ends 218 = .ok (.laload, 1) := by decide +kernel
theorem dX7_ends_219 : decode cX7_ends 219 = .ok (.aload_n 0, 1) := by decide +kernel
theorem dX7_ends_220 : decode cX7_ends 220 = .ok (.getfield 67, 3) := by decide +kernel
theorem dX7_ends_223 : decode cX7_ends 223 = .ok (.iload_n 2, 1) := by decide +kernel
theorem dX7_ends_224 : decode cX7_ends 224 = .ok (.iaload, 1) := by decide +kernel
theorem dX7_ends_225 : decode cX7_ends 225 = .ok (.iload_n 1, 1) := by decide +kernel
theorem dX7_ends_226 : decode cX7_ends 226 = .ok (.if_icmp .ne 16, 3) := by decide +kernel
theorem dX7_ends_229 : decode cX7_ends 229 = .ok (.bipush 8, 2) := by decide +kernel
theorem dX7_ends_231 : decode cX7_ends 231 = .ok (.aload_n 0, 1) := by decide +kernel
theorem dX7_ends_232 : decode cX7_ends 232 = .ok (.getfield 70, 3) := by decide +kernel
theorem dX7_ends_235 : decode cX7_ends 235 = .ok (.iload_n 2, 1) := by decide +kernel
theorem dX7_ends_236 : decode cX7_ends 236 = .ok (.iaload, 1) := by decide +kernel
theorem dX7_ends_237 : decode cX7_ends 237 = .ok (.isub, 1) := by decide +kernel
theorem dX7_ends_238 : decode cX7_ends 238 = .ok (.i2l, 1) := by decide +kernel
theorem dX7_ends_239 : decode cX7_ends 239 = .ok (.goto 6, 3) := by decide +kernel
theorem dX7_ends_242 : decode cX7_ends 242 = .ok (.ldc2_w 130, 3) := by decide +kernel
theorem dX7_ends_245 : decode cX7_ends 245 = .ok (.lmul, 1) := by decide +kernel
theorem dX7_ends_246 : decode cX7_ends 246 = .ok (.lastore, 1) := by decide +kernel
theorem dX7_ends_247 : decode cX7_ends 247 = .ok (.iinc 2 1, 3) := by decide +kernel
theorem dX7_ends_250 : decode cX7_ends 250 = .ok (.goto (-53), 3) := by decide +kernel
theorem dX7_ends_253 : decode cX7_ends 253 = .ok (.aload_n 0, 1) := by decide +kernel
theorem dX7_ends_254 : decode cX7_ends 254 = .ok (.dup, 1) := by decide +kernel
theorem dX7_ends_255 : decode cX7_ends 255 = .ok (.getfield 221, 3) := by decide +kernel
theorem dX7_ends_258 : decode cX7_ends 258 = .ok (.aload_n 0, 1) := by decide +kernel
theorem dX7_ends_259 : decode cX7_ends 259 = .ok (.getfield 73, 3) := by decide +kernel
theorem dX7_ends_262 : decode cX7_ends 262 = .ok (.iload_n 1, 1) := by decide +kernel
theorem dX7_ends_263 : decode cX7_ends 263 = .ok (.laload, 1) := by decide +kernel
theorem dX7_ends_264 : decode cX7_ends 264 = .ok (.ladd, 1) := by decide +kernel
theorem dX7_ends_265 : decode cX7_ends 265 = .ok (.putfield 221, 3) := by decide +kernel
theorem dX7_ends_268 : decode cX7_ends 268 = .ok (.iinc 1 1, 3) := by decide +kernel
theorem dX7_ends_271 : decode cX7_ends 271 = .ok (.goto (-141), 3) := by decide +kernel
theorem dX7_ends_274 : decode cX7_ends 274 = .ok (.return_, 1) := by decide +kernel
set_option maxRecDepth 20000 in
theorem ggX7_endsAsTold_X7_asTold : GoodIn wsX7_endsAsTold wsX7_asTold := goodIn_r _ [7, 8, 9, 10, 84, 85, 86, 87, 88, 89, 90, 91, 92, 93, 94, 95, 96, 97, 98, 99, 100, 101, 102, 103, 104, 105, 106, 107, 108, 109, 110, 111, 112, 113, 114, 115, 116, 117, 118, 119, 120, 121, 122, 123, 124, 125] (by decide +kernel) (by decide +kernel)
set_option maxRecDepth 20000 in
theorem gX7_endsAsTold_X7_asTold : GoodIn wsX7_endsAsTold (wsV RX7 187 RX7 yX7_asTold wsX7_asTold) := goodIn_app (goodIn_of _ (by decide +kernel)) ggX7_endsAsTold_X7_asTold
set_option maxRecDepth 20000 in
theorem ggX7_endsAsTold_X7_ends : GoodIn wsX7_endsAsTold wsX7_ends := goodIn_r _ [14, 15, 16, 17, 18, 19, 20, 21, 1, 22, 2, 23, 24, 25, 26, 27, 28, 6, 29, 30, 31, 32, 33, 34, 35, 36, 37, 38, 39, 40, 41, 42, 43, 44, 10, 45, 46, 47, 48, 49, 50, 51, 52, 53, 54, 55, 56, 57, 58, 59, 60, 61, 8, 9, 62, 63, 64, 65, 66, 67, 68, 69, 70, 71, 72, 73, 74, 75, 76, 77, 78, 79, 80, 81, 82, 83, 84, 85, 86, 87, 88, 89, 90, 91, 92, 93, 94, 95, 96, 97, 98, 99, 100, 101, 102, 103, 104, 105, 106, 107, 108, 109, 110, 111, 112, 113, 114, 115, 116, 117, 118, 119, 120, 121, 122, 123, 124, 125] (by decide +kernel) (by decide +kernel)
set_option maxRecDepth 20000 in
theorem gX7_endsAsTold_X7_ends : GoodIn wsX7_endsAsTold (wsV RX7 231 RX7 yX7_ends wsX7_ends) := goodIn_app (goodIn_of _ (by decide +kernel)) ggX7_endsAsTold_X7_ends
theorem dX7_endsAsTold_0 : decode cX7_endsAsTold 0 = .ok (.aload_n 0, 1) := by decide +kernel
theorem dX7_endsAsTold_1 : decode cX7_endsAsTold 1 = .ok (.invokevirtual 187, 3) := by decide +kernel
theorem dX7_endsAsTold_4 : decode cX7_endsAsTold 4 = .ok (.aload_n 0, 1) := by decide +kernel
theorem dX7_endsAsTold_5 : decode cX7_endsAsTold 5 = .ok (.iconst 0, 1) := by decide +kernel
theorem dX7_endsAsTold_6 : decode cX7_endsAsTold 6 = .ok (.putfield 225, 3) := by decide +kernel
theorem dX7_endsAsTold_9 : decode cX7_endsAsTold 9 = .ok (.aload_n 0, 1) := by decide +kernel
theorem dX7_endsAsTold_10 : decode cX7_endsAsTold 10 = .ok (.iconst 0, 1) := by decide +kernel
theorem dX7_endsAsTold_11 : decode cX7_endsAsTold 11 = .ok (.putfield 228, 3) := by decide +kernel
theorem dX7_endsAsTold_14 : decode cX7_endsAsTold 14 = .ok (.aload_n 0, 1) := by decide +kernel
theorem dX7_endsAsTold_15 : decode cX7_endsAsTold 15 = .ok (.invokevirtual 231, 3) := by decide +kernel
theorem dX7_endsAsTold_18 : decode cX7_endsAsTold 18 = .ok (.return_, 1) := by decide +kernel
theorem dX7_lowest_0 : decode cX7_lowest 0 = .ok (.lload_n 0, 1) := by decide +kernel
theorem dX7_lowest_1 : decode cX7_lowest 1 = .ok (.lstore 5, 2) := by decide +kernel
theorem dX7_lowest_3 : decode cX7_lowest 3 = .ok (.lload_n 2, 1) := by decide +kernel
theorem dX7_lowest_4 : decode cX7_lowest 4 = .ok (.lstore 7, 2) := by decide +kernel
theorem dX7_lowest_6 : decode cX7_lowest 6 = .ok (.lload 7, 2) := by decide +kernel
theorem dX7_lowest_8 : decode cX7_lowest 8 = .ok (.lconst 0, 1) := by decide +kernel
theorem dX7_lowest_9 : decode cX7_lowest 9 = .ok (.lcmp, 1) := by decide +kernel
theorem dX7_lowest_10 : decode cX7_lowest 10 = .ok (.ifCond .eq 21, 3) := by decide +kernel
theorem dX7_lowest_13 : decode cX7_lowest 13 = .ok (.lload 5, 2) := by decide +kernel
theorem dX7_lowest_15 : decode cX7_lowest 15 = .ok (.lload 7, 2) := by decide +kernel
theorem dX7_lowest_17 : decode cX7_lowest 17 = .ok (.lrem, 1) := by decide +kernel
theorem dX7_lowest_18 : decode cX7_lowest 18 = .ok (.lstore 9, 2) := by decide +kernel
theorem dX7_lowest_20 : decode cX7_lowest 20 = .ok (.lload 7, 2) := by decide +kernel
theorem dX7_lowest_22 : decode cX7_lowest 22 = .ok (.lstore 5, 2) := by decide +kernel
theorem dX7_lowest_24 : decode cX7_lowest 24 = .ok (.lload 9, 2) := by decide +kernel
theorem dX7_lowest_26 : decode cX7_lowest 26 = .ok (.lstore 7, 2) := by decide +kernel
theorem dX7_lowest_28 : decode cX7_lowest 28 = .ok (.goto (-22), 3) := by decide +kernel
theorem dX7_lowest_31 : decode cX7_lowest 31 = .ok (.iload 4, 2) := by decide +kernel
theorem dX7_lowest_33 : decode cX7_lowest 33 = .ok (.ifCond .ne 10, 3) := by decide +kernel
theorem dX7_lowest_36 : decode cX7_lowest 36 = .ok (.lload_n 0, 1) := by decide +kernel
theorem dX7_lowest_37 : decode cX7_lowest 37 = .ok (.lload 5, 2) := by decide +kernel
theorem dX7_lowest_39 : decode cX7_lowest 39 = .ok (.ldiv, 1) := by decide +kernel
theorem dX7_lowest_40 : decode cX7_lowest 40 = .ok (.goto 7, 3) := by decide +kernel
theorem dX7_lowest_43 : decode cX7_lowest 43 = .ok (.lload_n 2, 1) := by decide +kernel
theorem dX7_lowest_44 : decode cX7_lowest 44 = .ok (.lload 5, 2) := by decide +kernel
theorem dX7_lowest_46 : decode cX7_lowest 46 = .ok (.ldiv, 1) := by decide +kernel
theorem dX7_lowest_47 : decode cX7_lowest 47 = .ok (.lreturn, 1) := by decide +kernel
set_option maxRecDepth 20000 in
theorem ggX7_odds_X7_isCell : GoodIn wsX7_odds wsX7_isCell := goodIn_r _ [8, 9, 10, 11, 7, 12] (by decide +kernel) (by decide +kernel)
set_option maxRecDepth 20000 in
theorem gX7_odds_X7_isCell : GoodIn wsX7_odds (va_wsS RX7 115 yX7_isCell wsX7_isCell) := goodIn_app (goodIn_of _ (by decide +kernel)) ggX7_odds_X7_isCell
set_option maxRecDepth 20000 in
theorem ggX7_odds_X7_in : GoodIn wsX7_odds wsX7_in := goodIn_r _ [12] (by decide +kernel) (by decide +kernel)
set_option maxRecDepth 20000 in
theorem gX7_odds_X7_in : GoodIn wsX7_odds (va_wsS RX7 100 yX7_in wsX7_in) := goodIn_app (goodIn_of _ (by decide +kernel)) ggX7_odds_X7_in
set_option maxRecDepth 20000 in
theorem ggX7_odds_X7_endsAsTold : GoodIn wsX7_odds wsX7_endsAsTold := goodIn_r _ [16, 17, 18, 19, 20, 21, 7, 22, 23, 24, 25, 26, 27, 28, 29, 4, 30, 31, 32, 33, 2, 34, 35, 36, 37, 38, 39, 40, 41, 42, 43, 44, 45, 46, 47, 48, 49, 50, 51, 52, 53, 54, 55, 56, 57, 58, 59, 60, 61, 62, 63, 64, 65, 66, 67, 10, 11, 12, 68, 69, 70, 71, 72, 73, 74, 75, 76, 77, 78, 79, 80, 81, 82, 83, 84, 85, 86, 87, 1, 88, 89, 90, 91, 92, 96, 97, 98, 99, 100, 101, 102, 103, 104, 105, 106, 107, 108, 109, 110, 111, 112, 113, 114, 115, 116, 117, 118, 119, 120, 121, 122, 123, 124, 125, 126, 127, 128, 129, 130, 131, 132, 133, 134, 135, 136, 137] (by decide +kernel) (by decide +kernel)
set_option maxRecDepth 20000 in
theorem gX7_odds_X7_endsAsTold : GoodIn wsX7_odds (wsV RX7 234 RX7 yX7_endsAsTold wsX7_endsAsTold) := goodIn_app (goodIn_of _ (by decide +kernel)) ggX7_odds_X7_endsAsTold
set_option maxRecDepth 20000 in
theorem ggX7_odds_X7_lowest : GoodIn wsX7_odds wsX7_lowest := goodIn_r _ [95] (by decide +kernel) (by decide +kernel)
set_option maxRecDepth 20000 in
theorem gX7_odds_X7_lowest : GoodIn wsX7_odds (va_wsS RX7 239 yX7_lowest wsX7_lowest) := goodIn_app (goodIn_of _ (by decide +kernel)) ggX7_odds_X7_lowest
theorem dX7_odds_0 : decode cX7_odds 0 = .ok (.iload_n 1, 1) := by decide +kernel
theorem dX7_odds_1 : decode cX7_odds 1 = .ok (.invokestatic 115, 3) := by decide +kernel
theorem dX7_odds_4 : decode cX7_odds 4 = .ok (.ifCond .eq 13, 3) := by decide +kernel
theorem dX7_odds_7 : decode cX7_odds 7 = .ok (.iload_n 2, 1) := by decide +kernel
theorem dX7_odds_8 : decode cX7_odds 8 = .ok (.i2l, 1) := by decide +kernel
theorem dX7_odds_9 : decode cX7_odds 9 = .ok (.lconst 0, 1) := by decide +kernel
theorem dX7_odds_10 : decode cX7_odds 10 = .ok (.lconst 1, 1) := by decide +kernel
theorem dX7_odds_11 : decode cX7_odds 11 = .ok (.invokestatic 100, 3) := by decide +kernel
theorem dX7_odds_14 : decode cX7_odds 14 = .ok (.ifCond .ne 7, 3) := by decide +kernel
theorem dX7_odds_17 : decode cX7_odds 17 = .ok (.ldc2_w 124, 3) := by decide +kernel
theorem dX7_odds_20 : decode cX7_odds 20 = .ok (.lreturn, 1) := by decide +kernel
theorem dX7_odds_21 : decode cX7_odds 21 = .ok (.aload_n 0, 1) := by decide +kernel
theorem dX7_odds_22 : decode cX7_odds 22 = .ok (.invokevirtual 234, 3) := by decide +kernel
theorem dX7_odds_25 : decode cX7_odds 25 = .ok (.aload_n 0, 1) := by decide +kernel
theorem dX7_odds_26 : decode cX7_odds 26 = .ok (.getfield 221, 3) := by decide +kernel
theorem dX7_odds_29 : decode cX7_odds 29 = .ok (.lconst 0, 1) := by decide +kernel
theorem dX7_odds_30 : decode cX7_odds 30 = .ok (.lcmp, 1) := by decide +kernel
theorem dX7_odds_31 : decode cX7_odds 31 = .ok (.ifCond .ne 9, 3) := by decide +kernel
theorem dX7_odds_34 : decode cX7_odds 34 = .ok (.ldc2_w 237, 3) := by decide +kernel
theorem dX7_odds_37 : decode cX7_odds 37 = .ok (.goto 17, 3) := by decide +kernel
theorem dX7_odds_40 : decode cX7_odds 40 = .ok (.aload_n 0, 1) := by decide +kernel
theorem dX7_odds_41 : decode cX7_odds 41 = .ok (.getfield 73, 3) := by decide +kernel
theorem dX7_odds_44 : decode cX7_odds 44 = .ok (.iload_n 1, 1) := by decide +kernel
theorem dX7_odds_45 : decode cX7_odds 45 = .ok (.laload, 1) := by decide +kernel
theorem dX7_odds_46 : decode cX7_odds 46 = .ok (.aload_n 0, 1) := by decide +kernel
theorem dX7_odds_47 : decode cX7_odds 47 = .ok (.getfield 221, 3) := by decide +kernel
theorem dX7_odds_50 : decode cX7_odds 50 = .ok (.iload_n 2, 1) := by decide +kernel
theorem dX7_odds_51 : decode cX7_odds 51 = .ok (.invokestatic 239, 3) := by decide +kernel
theorem dX7_odds_54 : decode cX7_odds 54 = .ok (.lreturn, 1) := by decide +kernel
set_option maxRecDepth 20000 in
theorem ggX7_where_X7_in : GoodIn wsX7_where wsX7_in := goodIn_r _ [6] (by decide +kernel) (by decide +kernel)
set_option maxRecDepth 20000 in
theorem gX7_where_X7_in : GoodIn wsX7_where (va_wsS RX7 100 yX7_in wsX7_in) := goodIn_app (goodIn_of _ (by decide +kernel)) ggX7_where_X7_in
set_option maxRecDepth 20000 in
theorem ggX7_where_X7_endsAsTold : GoodIn wsX7_where wsX7_endsAsTold := goodIn_r _ [10, 11, 12, 13, 14, 15, 5, 16, 17, 18, 19, 20, 21, 22, 23, 2, 24, 25, 26, 27, 28, 29, 30, 31, 32, 33, 34, 35, 36, 37, 38, 39, 40, 41, 42, 43, 44, 45, 46, 47, 48, 49, 50, 51, 52, 53, 54, 55, 1, 56, 57, 58, 59, 60, 61, 3, 4, 6, 62, 63, 64, 65, 66, 67, 68, 69, 70, 71, 72, 73, 74, 75, 76, 77, 78, 79, 80, 81, 82, 83, 84, 85, 86, 87, 88, 89, 90, 91, 92, 93, 94, 95, 96, 97, 98, 99, 100, 101, 102, 103, 104, 105, 106, 107, 108, 109, 110, 111, 112, 113, 114, 115, 116, 117, 118, 119, 120, 121, 122, 123, 124, 125, 126, 127, 128, 129] (by decide +kernel) (by decide +kernel)
set_option maxRecDepth 20000 in
theorem gX7_where_X7_endsAsTold : GoodIn wsX7_where (wsV RX7 234 RX7 yX7_endsAsTold wsX7_endsAsTold) := goodIn_app (goodIn_of _ (by decide +kernel)) ggX7_where_X7_endsAsTold
theorem dX7_where_0 : decode cX7_where 0 = .ok (.iload_n 1, 1) := by decide +kernel
theorem dX7_where_1 : decode cX7_where 1 = .ok (.i2l, 1) := by decide +kernel
theorem dX7_where_2 : decode cX7_where 2 = .ok (.lconst 0, 1) := by decide +kernel
theorem dX7_where_3 : decode cX7_where 3 = .ok (.ldc2_w 111, 3) := by decide +kernel
theorem dX7_where_6 : decode cX7_where 6 = .ok (.invokestatic 100, 3) := by decide +kernel
theorem dX7_where_9 : decode cX7_where 9 = .ok (.ifCond .ne 5, 3) := by decide +kernel
theorem dX7_where_12 : decode cX7_where 12 = .ok (.iconst (-1), 1) := by decide +kernel
theorem dX7_where_13 : decode cX7_where 13 = .ok (.ireturn, 1) := by decide +kernel
theorem dX7_where_14 : decode cX7_where 14 = .ok (.aload_n 0, 1) := by decide +kernel
theorem dX7_where_15 : decode cX7_where 15 = .ok (.invokevirtual 234, 3) := by decide +kernel
theorem dX7_where_18 : decode cX7_where 18 = .ok (.iconst 0, 1) := by decide +kernel
theorem dX7_where_19 : decode cX7_where 19 = .ok (.istore_n 2, 1) := by decide +kernel
theorem dX7_where_20 : decode cX7_where 20 = .ok (.iconst 0, 1) := by decide +kernel
theorem dX7_where_21 : decode cX7_where 21 = .ok (.istore_n 3, 1) := by decide +kernel
theorem dX7_where_22 : decode cX7_where 22 = .ok (.iload_n 3, 1) := by decide +kernel
theorem dX7_where_23 : decode cX7_where 23 = .ok (.bipush 10, 2) := by decide +kernel
theorem dX7_where_25 : decode cX7_where 25 = .ok (.if_icmp .ge 35, 3) := by decide +kernel
theorem dX7_where_28 : decode cX7_where 28 = .ok (.iload_n 2, 1) := by decide +kernel
theorem dX7_where_29 : decode cX7_where 29 = .ok (.aload_n 0, 1) := by decide +kernel
theorem dX7_where_30 : decode cX7_where 30 = .ok (.getfield 73, 3) := by decide +kernel
theorem dX7_where_33 : decode cX7_where 33 = .ok (.bipush 10, 2) := by decide +kernel
theorem dX7_where_35 : decode cX7_where 35 = .ok (.iload_n 1, 1) := by decide +kernel
theorem dX7_where_36 : decode cX7_where 36 = .ok (.imul, 1) := by decide +kernel
theorem dX7_where_37 : decode cX7_where 37 = .ok (.iload_n 3, 1) := by decide +kernel
theorem dX7_where_38 : decode cX7_where 38 = .ok (.iadd, 1) := by decide +kernel
theorem dX7_where_39 : decode cX7_where 39 = .ok (.laload, 1) := by decide +kernel
theorem dX7_where_40 : decode cX7_where 40 = .ok (.lconst 0, 1) := by decide +kernel
theorem dX7_where_41 : decode cX7_where 41 = .ok (.lcmp, 1) := by decide +kernel
theorem dX7_where_42 : decode cX7_where 42 = .ok (.ifCond .le 9, 3) := by decide +kernel
theorem dX7_where_45 : decode cX7_where 45 = .ok (.iconst 1, 1) := by decide +kernel
theorem dX7_where_46 : decode cX7_where 46 = .ok (.iload_n 3, 1) := by decide +kernel
theorem dX7_where_47 : decode cX7_where 47 = .ok (.ishl, 1) := by decide +kernel
theorem dX7_where_48 : decode cX7_where 48 = .ok (.goto 4, 3) := by decide +kernel
theorem dX7_where_51 : decode cX7_where 51 = .ok (.iconst 0, 1) := by decide +kernel
theorem dX7_where_52 : decode cX7_where 52 = .ok (.ior, 1) := by decide +kernel
theorem dX7_where_53 : decode cX7_where 53 = .ok (.istore_n 2, 1) := by decide +kernel
theorem dX7_where_54 : decode cX7_where 54 = .ok (.iinc 3 1, 3) := by decide +kernel
theorem dX7_where_57 : decode cX7_where 57 = .ok (.goto (-35), 3) := by decide +kernel
theorem dX7_where_60 : decode cX7_where 60 = .ok (.iload_n 2, 1) := by decide +kernel
theorem dX7_where_61 : decode cX7_where 61 = .ok (.ireturn, 1) := by decide +kernel
set_option maxRecDepth 20000 in
theorem ggX7_count_X7_in : GoodIn wsX7_count wsX7_in := goodIn_r _ [10] (by decide +kernel) (by decide +kernel)
set_option maxRecDepth 20000 in
theorem gX7_count_X7_in : GoodIn wsX7_count (va_wsS RX7 100 yX7_in wsX7_in) := goodIn_app (goodIn_of _ (by decide +kernel)) ggX7_count_X7_in
set_option maxRecDepth 20000 in
theorem ggX7_count_X7_endsAsTold : GoodIn wsX7_count wsX7_endsAsTold := goodIn_r _ [14, 15, 16, 17, 18, 19, 9, 20, 21, 22, 23, 24, 25, 26, 27, 4, 28, 29, 30, 31, 32, 5, 6, 33, 34, 35, 36, 37, 38, 39, 40, 41, 42, 43, 44, 45, 46, 47, 48, 49, 50, 51, 52, 53, 54, 55, 56, 57, 58, 59, 60, 61, 62, 63, 64, 7, 8, 10, 65, 66, 67, 68, 3, 2, 69, 70, 71, 72, 73, 74, 75, 76, 77, 78, 79, 80, 81, 82, 83, 84, 85, 86, 87, 88, 89, 90, 91, 92, 93, 94, 95, 96, 97, 98, 99, 100, 101, 102, 103, 104, 105, 106, 107, 108, 109, 110, 111, 112, 113, 114, 115, 116, 117, 118, 119, 120, 121, 122, 123, 124, 125, 126, 127, 128, 129, 130] (by decide +kernel) (by decide +kernel)
set_option maxRecDepth 20000 in
theorem gX7_count_X7_endsAsTold : GoodIn wsX7_count (wsV RX7 234 RX7 yX7_endsAsTold wsX7_endsAsTold) := goodIn_app (goodIn_of _ (by decide +kernel)) ggX7_count_X7_endsAsTold
theorem dX7_count_0 : decode cX7_count 0 = .ok (.iload_n 1, 1) := by decide +kernel
theorem dX7_count_1 : decode cX7_count 1 = .ok (.i2l, 1) := by decide +kernel
theorem dX7_count_2 : decode cX7_count 2 = .ok (.lconst 0, 1) := by decide +kernel
theorem dX7_count_3 : decode cX7_count 3 = .ok (.ldc2_w 243, 3) := by decide +kernel
theorem dX7_count_6 : decode cX7_count 6 = .ok (.invokestatic 100, 3) := by decide +kernel
theorem dX7_count_9 : decode cX7_count 9 = .ok (.ifCond .ne 5, 3) := by decide +kernel
theorem dX7_count_12 : decode cX7_count 12 = .ok (.iconst (-1), 1) := by decide +kernel
theorem dX7_count_13 : decode cX7_count 13 = .ok (.ireturn, 1) := by decide +kernel
theorem dX7_count_14 : decode cX7_count 14 = .ok (.iconst 0, 1) := by decide +kernel
theorem dX7_count_15 : decode cX7_count 15 = .ok (.istore_n 2, 1) := by decide +kernel
theorem dX7_count_16 : decode cX7_count 16 = .ok (.iconst 1, 1) := by decide +kernel
theorem dX7_count_17 : decode cX7_count 17 = .ok (.istore_n 3, 1) := by decide +kernel
theorem dX7_count_18 : decode cX7_count 18 = .ok (.iload_n 3, 1) := by decide +kernel
theorem dX7_count_19 : decode cX7_count 19 = .ok (.bipush 7, 2) := by decide +kernel
theorem dX7_count_21 : decode cX7_count 21 = .ok (.if_icmp .ge 49, 3) := by decide +kernel
theorem dX7_count_24 : decode cX7_count 24 = .ok (.iload_n 1, 1) := by decide +kernel
theorem dX7_count_25 : decode cX7_count 25 = .ok (.iconst 2, 1) := by decide +kernel
theorem dX7_count_26 : decode cX7_count 26 = .ok (.if_icmp .ge 44, 3) := by decide +kernel
theorem dX7_count_29 : decode cX7_count 29 = .ok (.iload_n 2, 1) := by decide +kernel
theorem dX7_count_30 : decode cX7_count 30 = .ok (.iload_n 1, 1) := by decide +kernel
theorem dX7_count_31 : decode cX7_count 31 = .ok (.ifCond .ne 12, 3) := by decide +kernel
theorem dX7_count_34 : decode cX7_count 34 = .ok (.aload_n 0, 1) := by decide +kernel
theorem dX7_count_35 : decode cX7_count 35 = .ok (.getfield 13, 3) := by decide +kernel
theorem dX7_count_38 : decode cX7_count 38 = .ok (.iload_n 3, 1) := by decide +kernel
theorem dX7_count_39 : decode cX7_count 39 = .ok (.iaload, 1) := by decide +kernel
theorem dX7_count_40 : decode cX7_count 40 = .ok (.ifCond .ge 17, 3) := by decide +kernel
theorem dX7_count_43 : decode cX7_count 43 = .ok (.iload_n 1, 1) := by decide +kernel
theorem dX7_count_44 : decode cX7_count 44 = .ok (.iconst 1, 1) := by decide +kernel
theorem dX7_count_45 : decode cX7_count 45 = .ok (.if_icmp .ne 16, 3) := by decide +kernel
theorem dX7_count_48 : decode cX7_count 48 = .ok (.aload_n 0, 1) := by decide +kernel
theorem dX7_count_49 : decode cX7_count 49 = .ok (.getfield 16, 3) := by decide +kernel
theorem dX7_count_52 : decode cX7_count 52 = .ok (.iload_n 3, 1) := by decide +kernel
theorem dX7_count_53 : decode cX7_count 53 = .ok (.iaload, 1) := by decide +kernel
theorem dX7_count_54 : decode cX7_count 54 = .ok (.ifCond .le 7, 3) := by decide +kernel
theorem dX7_count_57 : decode cX7_count 57 = .ok (.iconst 1, 1) := by decide +kernel
theorem dX7_count_58 : decode cX7_count 58 = .ok (.goto 4, 3) := by decide +kernel
theorem dX7_count_61 : decode cX7_count 61 = .ok (.iconst 0, 1) := by decide +kernel
theorem dX7_count_62 : decode cX7_count 62 = .ok (.iadd, 1) := by decide +kernel
theorem dX7_count_63 : decode cX7_count 63 = .ok (.istore_n 2, 1) := by decide +kernel
theorem dX7_count_64 : decode cX7_count 64 = .ok (.iinc 3 1, 3) := by decide +kernel
theorem dX7_count_67 : decode cX7_count 67 = .ok (.goto (-49), 3) := by decide +kernel
theorem dX7_count_70 : decode cX7_count 70 = .ok (.iload_n 1, 1) := by decide +kernel
theorem dX7_count_71 : decode cX7_count 71 = .ok (.iconst 4, 1) := by decide +kernel
theorem dX7_count_72 : decode cX7_count 72 = .ok (.if_icmp .ne 40, 3) := by decide +kernel
theorem dX7_count_75 : decode cX7_count 75 = .ok (.aload_n 0, 1) := by decide +kernel
theorem dX7_count_76 : decode cX7_count 76 = .ok (.invokevirtual 234, 3) := by decide +kernel
theorem dX7_count_79 : decode cX7_count 79 = .ok (.iconst 0, 1) := by decide +kernel
theorem dX7_count_80 : decode cX7_count 80 = .ok (.istore_n 3, 1) := by decide +kernel
theorem dX7_count_81 : decode cX7_count 81 = .ok (.iload_n 3, 1) := by decide +kernel
theorem dX7_count_82 : decode cX7_count 82 = .ok (.bipush 100, 2) := by decide +kernel
theorem dX7_count_84 : decode cX7_count 84 = .ok (.if_icmp .ge 28, 3) := by decide +kernel
theorem dX7_count_87 : decode cX7_count 87 = .ok (.iload_n 2, 1) := by decide +kernel
theorem dX7_count_88 : decode cX7_count 88 = .ok (.aload_n 0, 1) := by decide +kernel
theorem dX7_count_89 : decode cX7_count 89 = .ok (.getfield 73, 3) := by decide +kernel
theorem dX7_count_92 : decode cX7_count 92 = .ok (.iload_n 3, 1) := by decide +kernel
theorem dX7_count_93 : decode cX7_count 93 = .ok (.laload, 1) := by decide +kernel
theorem dX7_count_94 : decode cX7_count 94 = .ok (.lconst 0, 1) := by decide +kernel
theorem dX7_count_95 : decode cX7_count 95 = .ok (.lcmp, 1) := by decide +kernel
theorem dX7_count_96 : decode cX7_count 96 = .ok (.ifCond .le 7, 3) := by decide +kernel
theorem dX7_count_99 : decode cX7_count 99 = .ok (.iconst 1, 1) := by decide +kernel
theorem dX7_count_100 : decode cX7_count 100 = .ok (.goto 4, 3) := by decide +kernel
theorem dX7_count_103 : decode cX7_count 103 = .ok (.iconst 0, 1) := by decide +kernel
theorem dX7_count_104 : decode cX7_count 104 = .ok (.iadd, 1) := by decide +kernel
theorem dX7_count_105 : decode cX7_count 105 = .ok (.istore_n 2, 1) := by decide +kernel
theorem dX7_count_106 : decode cX7_count 106 = .ok (.iinc 3 1, 3) := by decide +kernel
theorem dX7_count_109 : decode cX7_count 109 = .ok (.goto (-28), 3) := by decide +kernel
theorem dX7_count_112 : decode cX7_count 112 = .ok (.iload_n 1, 1) := by decide +kernel
theorem dX7_count_113 : decode cX7_count 113 = .ok (.iconst 2, 1) := by decide +kernel
theorem dX7_count_114 : decode cX7_count 114 = .ok (.if_icmp .ne 10, 3) := by decide +kernel
theorem dX7_count_117 : decode cX7_count 117 = .ok (.aload_n 0, 1) := by decide +kernel
theorem dX7_count_118 : decode cX7_count 118 = .ok (.getfield 206, 3) := by decide +kernel
theorem dX7_count_121 : decode cX7_count 121 = .ok (.goto 16, 3) := by decide +kernel
theorem dX7_count_124 : decode cX7_count 124 = .ok (.iload_n 1, 1) := by decide +kernel
theorem dX7_count_125 : decode cX7_count 125 = .ok (.iconst 3, 1) := by decide +kernel
theorem dX7_count_126 : decode cX7_count 126 = .ok (.if_icmp .ne 10, 3) := by decide +kernel
theorem dX7_count_129 : decode cX7_count 129 = .ok (.aload_n 0, 1) := by decide +kernel
theorem dX7_count_130 : decode cX7_count 130 = .ok (.getfield 218, 3) := by decide +kernel
theorem dX7_count_133 : decode cX7_count 133 = .ok (.goto 4, 3) := by decide +kernel
theorem dX7_count_136 : decode cX7_count 136 = .ok (.iload_n 2, 1) := by decide +kernel
theorem dX7_count_137 : decode cX7_count 137 = .ok (.ireturn, 1) := by decide +kernel
theorem dX7_thousandths_0 : decode cX7_thousandths 0 = .ok (.lload_n 1, 1) := by decide +kernel
theorem dX7_thousandths_1 : decode cX7_thousandths 1 = .ok (.aload_n 0, 1) := by decide +kernel
theorem dX7_thousandths_2 : decode cX7_thousandths 2 = .ok (.getfield 221, 3) := by decide +kernel
theorem dX7_thousandths_5 : decode cX7_thousandths 5 = .ok (.lcmp, 1) := by decide +kernel
theorem dX7_thousandths_6 : decode cX7_thousandths 6 = .ok (.ifCond .ne 7, 3) := by decide +kernel
theorem dX7_thousandths_9 : decode cX7_thousandths 9 = .ok (.sipush 1000, 3) := by decide +kernel
theorem dX7_thousandths_12 : decode cX7_thousandths 12 = .ok (.ireturn, 1) := by decide +kernel
theorem dX7_thousandths_13 : decode cX7_thousandths 13 = .ok (.iconst 0, 1) := by decide +kernel
theorem dX7_thousandths_14 : decode cX7_thousandths 14 = .ok (.istore_n 3, 1) := by decide +kernel
theorem dX7_thousandths_15 : decode cX7_thousandths 15 = .ok (.lload_n 1, 1) := by decide +kernel
theorem dX7_thousandths_16 : decode cX7_thousandths 16 = .ok (.lstore 4, 2) := by decide +kernel
theorem dX7_thousandths_18 : decode cX7_thousandths 18 = .ok (.iconst 0, 1) := by decide +kernel
theorem dX7_thousandths_19 : decode cX7_thousandths 19 = .ok (.istore 6, 2) := by decide +kernel
theorem dX7_thousandths_21 : decode cX7_thousandths 21 = .ok (.iload 6, 2) := by decide +kernel
theorem dX7_thousandths_23 : decode cX7_thousandths 23 = .ok (.iconst 3, 1) := by decide +kernel
theorem dX7_thousandths_24 : decode cX7_thousandths 24 = .ok (.if_icmp .ge 40, 3) := by decide +kernel
theorem dX7_thousandths_27 : decode cX7_thousandths 27 = .ok (.bipush 10, 2) := by decide +kernel
theorem dX7_thousandths_29 : decode cX7_thousandths 29 = .ok (.iload_n 3, 1) := by decide +kernel
theorem dX7_thousandths_30 : decode cX7_thousandths 30 = .ok (.imul, 1) := by decide +kernel
theorem dX7_thousandths_31 : decode cX7_thousandths 31 = .ok (.lload 4, 2) := by decide +kernel
theorem dX7_thousandths_33 : decode cX7_thousandths 33 = .ok (.ldc2_w 245, 3) := by decide +kernel
theorem dX7_thousandths_36 : decode cX7_thousandths 36 = .ok (.lmul, 1) := by decide +kernel
theorem dX7_thousandths_37 : decode cX7_thousandths 37 = .ok (.aload_n 0, 1) := by decide +kernel
theorem dX7_thousandths_38 : decode cX7_thousandths 38 = .ok (.getfield 221, 3) := by decide +kernel
theorem dX7_thousandths_41 : decode cX7_thousandths 41 = .ok (.ldiv, 1) := by decide +kernel
theorem dX7_thousandths_42 : decode cX7_thousandths 42 = .ok (.l2i, 1) := by decide +kernel
theorem dX7_thousandths_43 : decode cX7_thousandths 43 = .ok (.iadd, 1) := by decide +kernel
theorem dX7_thousandths_44 : decode cX7_thousandths 44 = .ok (.istore_n 3, 1) := by decide +kernel
theorem dX7_thousandths_45 : decode cX7_thousandths 45 = .ok (.lload 4, 2) := by decide +kernel
theorem dX7_thousandths_47 : decode cX7_thousandths 47 = .ok (.ldc2_w 245, 3) := by decide +kernel
theorem dX7_thousandths_50 : decode cX7_thousandths 50 = .ok (.lmul, 1) := by decide +kernel
theorem dX7_thousandths_51 : decode cX7_thousandths 51 = .ok (.aload_n 0, 1) := by decide +kernel
theorem dX7_thousandths_52 : decode cX7_thousandths 52 = .ok (.getfield 221, 3) := by decide +kernel
theorem dX7_thousandths_55 : decode cX7_thousandths 55 = .ok (.lrem, 1) := by decide +kernel
theorem dX7_thousandths_56 : decode cX7_thousandths 56 = .ok (.lstore 4, 2) := by decide +kernel
theorem dX7_thousandths_58 : decode cX7_thousandths 58 = .ok (.iinc 6 1, 3) := by decide +kernel
theorem dX7_thousandths_61 : decode cX7_thousandths 61 = .ok (.goto (-40), 3) := by decide +kernel
theorem dX7_thousandths_64 : decode cX7_thousandths 64 = .ok (.iload_n 3, 1) := by decide +kernel
theorem dX7_thousandths_65 : decode cX7_thousandths 65 = .ok (.ireturn, 1) := by decide +kernel
set_option maxRecDepth 20000 in
theorem ggX7_moved_X7_endsAsTold : GoodIn wsX7_moved wsX7_endsAsTold := goodIn_r _ [13, 7, 8, 14, 15, 16, 12, 17, 4, 5, 6, 18, 19, 20, 21, 3, 22, 23, 24, 25, 1, 26, 27, 28, 29, 30, 31, 32, 33, 34, 35, 36, 37, 38, 39, 40, 41, 42, 43, 44, 45, 46, 47, 48, 49, 50, 51, 52, 53, 54, 55, 56, 57, 58, 59, 60, 61, 62, 63, 64, 65, 66, 67, 68, 69, 70, 71, 72, 73, 74, 75, 76, 77, 78, 79, 80, 81, 82, 83, 84, 85, 86, 87, 88, 94, 95, 96, 97, 98, 99, 100, 101, 102, 103, 104, 105, 106, 107, 108, 109, 110, 111, 112, 113, 114, 115, 116, 117, 118, 119, 120, 121, 122, 123, 124, 125, 126, 127, 128, 129, 130, 131, 132, 133, 134, 135] (by decide +kernel) (by decide +kernel)
set_option maxRecDepth 20000 in
theorem gX7_moved_X7_endsAsTold : GoodIn wsX7_moved (wsV RX7 234 RX7 yX7_endsAsTold wsX7_endsAsTold) := goodIn_app (goodIn_of _ (by decide +kernel)) ggX7_moved_X7_endsAsTold
set_option maxRecDepth 20000 in
theorem ggX7_moved_X7_thousandths : GoodIn wsX7_moved wsX7_thousandths := goodIn_r _ [92, 1, 93, 94, 95, 96, 97, 98, 99, 100, 101, 102, 103, 104, 105, 106, 107, 108, 109, 110, 111, 112, 113, 114, 115, 116, 117, 118, 119, 120, 121, 122, 123, 124, 125, 126, 127, 128, 129, 130, 131, 132, 133, 134, 135] (by decide +kernel) (by decide +kernel)
set_option maxRecDepth 20000 in
theorem gX7_moved_X7_thousandths : GoodIn wsX7_moved (wsV RX7 247 RX7 yX7_thousandths wsX7_thousandths) := goodIn_app (goodIn_of _ (by decide +kernel)) ggX7_moved_X7_thousandths
set_option maxRecDepth 20000 in
theorem ggX7_moved_X7_ends : GoodIn wsX7_moved wsX7_ends := goodIn_r _ [21, 3, 22, 23, 24, 25, 1, 26, 7, 27, 8, 28, 29, 30, 31, 32, 33, 12, 34, 35, 36, 37, 38, 39, 40, 41, 42, 43, 44, 45, 46, 47, 48, 49, 6, 50, 51, 52, 53, 54, 55, 56, 57, 58, 59, 60, 61, 62, 63, 64, 65, 66, 4, 5, 67, 68, 69, 70, 71, 72, 73, 74, 75, 76, 77, 78, 79, 80, 81, 82, 83, 84, 85, 86, 87, 88, 94, 95, 96, 97, 98, 99, 100, 101, 102, 103, 104, 105, 106, 107, 108, 109, 110, 111, 112, 113, 114, 115, 116, 117, 118, 119, 120, 121, 122, 123, 124, 125, 126, 127, 128, 129, 130, 131, 132, 133, 134, 135] (by decide +kernel) (by decide +kernel)
set_option maxRecDepth 20000 in
theorem gX7_moved_X7_ends : GoodIn wsX7_moved (wsV RX7 231 RX7 yX7_ends wsX7_ends) := goodIn_app (goodIn_of _ (by decide +kernel)) ggX7_moved_X7_ends
theorem dX7_moved_0 : decode cX7_moved 0 = .ok (.aload_n 0, 1) := by decide +kernel
theorem dX7_moved_1 : decode cX7_moved 1 = .ok (.invokevirtual 234, 3) := by decide +kernel
theorem dX7_moved_4 : decode cX7_moved 4 = .ok (.aload_n 0, 1) := by decide +kernel
theorem dX7_moved_5 : decode cX7_moved 5 = .ok (.getfield 221, 3) := by decide +kernel
theorem dX7_moved_8 : decode cX7_moved 8 = .ok (.lconst 0, 1) := by decide +kernel
theorem dX7_moved_9 : decode cX7_moved 9 = .ok (.lcmp, 1) := by decide +kernel
theorem dX7_moved_10 : decode cX7_moved 10 = .ok (.ifCond .le 7, 3) := by decide +kernel
theorem dX7_moved_13 : decode cX7_moved 13 = .ok (.iconst 1, 1) := by decide +kernel
theorem dX7_moved_14 : decode cX7_moved 14 = .ok (.goto 4, 3) := by decide +kernel
theorem dX7_moved_17 : decode cX7_moved 17 = .ok (.iconst 0, 1) := by decide +kernel
theorem dX7_moved_18 : decode cX7_moved 18 = .ok (.istore_n 2, 1) := by decide +kernel
theorem dX7_moved_19 : decode cX7_moved 19 = .ok (.iconst 0, 1) := by decide +kernel
theorem dX7_moved_20 : decode cX7_moved 20 = .ok (.istore_n 3, 1) := by decide +kernel
theorem dX7_moved_21 : decode cX7_moved 21 = .ok (.iload_n 3, 1) := by decide +kernel
theorem dX7_moved_22 : decode cX7_moved 22 = .ok (.bipush 100, 2) := by decide +kernel
theorem dX7_moved_24 : decode cX7_moved 24 = .ok (.if_icmp .ge 33, 3) := by decide +kernel
theorem dX7_moved_27 : decode cX7_moved 27 = .ok (.aload_n 0, 1) := by decide +kernel
theorem dX7_moved_28 : decode cX7_moved 28 = .ok (.getfield 77, 3) := by decide +kernel
theorem dX7_moved_31 : decode cX7_moved 31 = .ok (.iload_n 3, 1) := by decide +kernel
theorem dX7_moved_32 : decode cX7_moved 32 = .ok (.iload_n 2, 1) := by decide +kernel
theorem dX7_moved_33 : decode cX7_moved 33 = .ok (.ifCond .eq 16, 3) := by decide +kernel
theorem dX7_moved_36 : decode cX7_moved 36 = .ok (.aload_n 0, 1) := by decide +kernel
theorem dX7_moved_37 : decode cX7_moved 37 = .ok (.aload_n 0, 1) := by decide +kernel
theorem dX7_moved_38 : decode cX7_moved 38 = .ok (.getfield 73, 3) := by decide +kernel
theorem dX7_moved_41 : decode cX7_moved 41 = .ok (.iload_n 3, 1) := by decide +kernel
theorem dX7_moved_42 : decode cX7_moved 42 = .ok (.laload, 1) := by decide +kernel
theorem dX7_moved_43 : decode cX7_moved 43 = .ok (.invokevirtual 247, 3) := by decide +kernel
theorem dX7_moved_46 : decode cX7_moved 46 = .ok (.goto 4, 3) := by decide +kernel
theorem dX7_moved_49 : decode cX7_moved 49 = .ok (.iconst 0, 1) := by decide +kernel
theorem dX7_moved_50 : decode cX7_moved 50 = .ok (.iastore, 1) := by decide +kernel
theorem dX7_moved_51 : decode cX7_moved 51 = .ok (.iinc 3 1, 3) := by decide +kernel
theorem dX7_moved_54 : decode cX7_moved 54 = .ok (.goto (-33), 3) := by decide +kernel
theorem dX7_moved_57 : decode cX7_moved 57 = .ok (.aload_n 0, 1) := by decide +kernel
theorem dX7_moved_58 : decode cX7_moved 58 = .ok (.iload_n 1, 1) := by decide +kernel
theorem dX7_moved_59 : decode cX7_moved 59 = .ok (.bipush 6, 2) := by decide +kernel
theorem dX7_moved_61 : decode cX7_moved 61 = .ok (.if_icmp .ge 9, 3) := by decide +kernel
theorem dX7_moved_64 : decode cX7_moved 64 = .ok (.iconst 2, 1) := by decide +kernel
theorem dX7_moved_65 : decode cX7_moved 65 = .ok (.iload_n 1, 1) := by decide +kernel
theorem dX7_moved_66 : decode cX7_moved 66 = .ok (.ishl, 1) := by decide +kernel
theorem dX7_moved_67 : decode cX7_moved 67 = .ok (.goto 4, 3) := by decide +kernel
theorem dX7_moved_70 : decode cX7_moved 70 = .ok (.iconst 0, 1) := by decide +kernel
theorem dX7_moved_71 : decode cX7_moved 71 = .ok (.putfield 167, 3) := by decide +kernel
theorem dX7_moved_74 : decode cX7_moved 74 = .ok (.aload_n 0, 1) := by decide +kernel
theorem dX7_moved_75 : decode cX7_moved 75 = .ok (.iload_n 1, 1) := by decide +kernel
theorem dX7_moved_76 : decode cX7_moved 76 = .ok (.bipush 6, 2) := by decide +kernel
theorem dX7_moved_78 : decode cX7_moved 78 = .ok (.if_icmp .ne 7, 3) := by decide +kernel
theorem dX7_moved_81 : decode cX7_moved 81 = .ok (.iconst 1, 1) := by decide +kernel
theorem dX7_moved_82 : decode cX7_moved 82 = .ok (.goto 4, 3) := by decide +kernel
theorem dX7_moved_85 : decode cX7_moved 85 = .ok (.iconst 0, 1) := by decide +kernel
theorem dX7_moved_86 : decode cX7_moved 86 = .ok (.putfield 170, 3) := by decide +kernel
theorem dX7_moved_89 : decode cX7_moved 89 = .ok (.aload_n 0, 1) := by decide +kernel
theorem dX7_moved_90 : decode cX7_moved 90 = .ok (.iload_n 1, 1) := by decide +kernel
theorem dX7_moved_91 : decode cX7_moved 91 = .ok (.bipush 7, 2) := by decide +kernel
theorem dX7_moved_93 : decode cX7_moved 93 = .ok (.if_icmp .ne 7, 3) := by decide +kernel
theorem dX7_moved_96 : decode cX7_moved 96 = .ok (.iconst 1, 1) := by decide +kernel
theorem dX7_moved_97 : decode cX7_moved 97 = .ok (.goto 4, 3) := by decide +kernel
theorem dX7_moved_100 : decode cX7_moved 100 = .ok (.iconst 0, 1) := by decide +kernel
theorem dX7_moved_101 : decode cX7_moved 101 = .ok (.putfield 177, 3) := by decide +kernel
theorem dX7_moved_104 : decode cX7_moved 104 = .ok (.aload_n 0, 1) := by decide +kernel
theorem dX7_moved_105 : decode cX7_moved 105 = .ok (.iload_n 1, 1) := by decide +kernel
theorem dX7_moved_106 : decode cX7_moved 106 = .ok (.bipush 7, 2) := by decide +kernel
theorem dX7_moved_108 : decode cX7_moved 108 = .ok (.if_icmp .le 18, 3) := by decide +kernel
theorem dX7_moved_111 : decode cX7_moved 111 = .ok (.iload_n 1, 1) := by decide +kernel
theorem dX7_moved_112 : decode cX7_moved 112 = .ok (.bipush 12, 2) := by decide +kernel
theorem dX7_moved_114 : decode cX7_moved 114 = .ok (.if_icmp .ge 12, 3) := by decide +kernel
theorem dX7_moved_117 : decode cX7_moved 117 = .ok (.iconst 1, 1) := by decide +kernel
theorem dX7_moved_118 : decode cX7_moved 118 = .ok (.iload_n 1, 1) := by decide +kernel
theorem dX7_moved_119 : decode cX7_moved 119 = .ok (.bipush 8, 2) := by decide +kernel
theorem dX7_moved_121 : decode cX7_moved 121 = .ok (.isub, 1) := by decide +kernel
theorem dX7_moved_122 : decode cX7_moved 122 = .ok (.ishl, 1) := by decide +kernel
theorem dX7_moved_123 : decode cX7_moved 123 = .ok (.goto 4, 3) := by decide +kernel
theorem dX7_moved_126 : decode cX7_moved 126 = .ok (.iconst 0, 1) := by decide +kernel
theorem dX7_moved_127 : decode cX7_moved 127 = .ok (.putfield 225, 3) := by decide +kernel
theorem dX7_moved_130 : decode cX7_moved 130 = .ok (.aload_n 0, 1) := by decide +kernel
theorem dX7_moved_131 : decode cX7_moved 131 = .ok (.iload_n 1, 1) := by decide +kernel
theorem dX7_moved_132 : decode cX7_moved 132 = .ok (.bipush 12, 2) := by decide +kernel
theorem dX7_moved_134 : decode cX7_moved 134 = .ok (.if_icmp .ne 7, 3) := by decide +kernel
theorem dX7_moved_137 : decode cX7_moved 137 = .ok (.iconst 1, 1) := by decide +kernel
theorem dX7_moved_138 : decode cX7_moved 138 = .ok (.goto 4, 3) := by decide +kernel
theorem dX7_moved_141 : decode cX7_moved 141 = .ok (.iconst 0, 1) := by decide +kernel
theorem dX7_moved_142 : decode cX7_moved 142 = .ok (.putfield 228, 3) := by decide +kernel
theorem dX7_moved_145 : decode cX7_moved 145 = .ok (.aload_n 0, 1) := by decide +kernel
theorem dX7_moved_146 : decode cX7_moved 146 = .ok (.invokevirtual 231, 3) := by decide +kernel
theorem dX7_moved_149 : decode cX7_moved 149 = .ok (.iload_n 2, 1) := by decide +kernel
theorem dX7_moved_150 : decode cX7_moved 150 = .ok (.ifCond .eq 12, 3) := by decide +kernel
theorem dX7_moved_153 : decode cX7_moved 153 = .ok (.aload_n 0, 1) := by decide +kernel
theorem dX7_moved_154 : decode cX7_moved 154 = .ok (.getfield 221, 3) := by decide +kernel
theorem dX7_moved_157 : decode cX7_moved 157 = .ok (.lconst 0, 1) := by decide +kernel
theorem dX7_moved_158 : decode cX7_moved 158 = .ok (.lcmp, 1) := by decide +kernel
theorem dX7_moved_159 : decode cX7_moved 159 = .ok (.ifCond .ne 29, 3) := by decide +kernel
theorem dX7_moved_162 : decode cX7_moved 162 = .ok (.iload_n 2, 1) := by decide +kernel
theorem dX7_moved_163 : decode cX7_moved 163 = .ok (.aload_n 0, 1) := by decide +kernel
theorem dX7_moved_164 : decode cX7_moved 164 = .ok (.getfield 221, 3) := by decide +kernel
theorem dX7_moved_167 : decode cX7_moved 167 = .ok (.lconst 0, 1) := by decide +kernel
theorem dX7_moved_168 : decode cX7_moved 168 = .ok (.lcmp, 1) := by decide +kernel
theorem dX7_moved_169 : decode cX7_moved 169 = .ok (.ifCond .le 7, 3) := by decide +kernel
theorem dX7_moved_172 : decode cX7_moved 172 = .ok (.iconst 1, 1) := by decide +kernel
theorem dX7_moved_173 : decode cX7_moved 173 = .ok (.goto 4, 3) := by decide +kernel
theorem dX7_moved_176 : decode cX7_moved 176 = .ok (.iconst 0, 1) := by decide +kernel
theorem dX7_moved_177 : decode cX7_moved 177 = .ok (.if_icmp .ne 7, 3) := by decide +kernel
theorem dX7_moved_180 : decode cX7_moved 180 = .ok (.iconst 0, 1) := by decide +kernel
theorem dX7_moved_181 : decode cX7_moved 181 = .ok (.goto 6, 3) := by decide +kernel
theorem dX7_moved_184 : decode cX7_moved 184 = .ok (.sipush 1000, 3) := by decide +kernel
theorem dX7_moved_187 : decode cX7_moved 187 = .ok (.ireturn, 1) := by decide +kernel
theorem dX7_moved_188 : decode cX7_moved 188 = .ok (.iconst 0, 1) := by decide +kernel
theorem dX7_moved_189 : decode cX7_moved 189 = .ok (.istore_n 3, 1) := by decide +kernel
theorem dX7_moved_190 : decode cX7_moved 190 = .ok (.iconst 0, 1) := by decide +kernel
theorem dX7_moved_191 : decode cX7_moved 191 = .ok (.istore 4, 2) := by decide +kernel
theorem dX7_moved_193 : decode cX7_moved 193 = .ok (.iload 4, 2) := by decide +kernel
theorem dX7_moved_195 : decode cX7_moved 195 = .ok (.bipush 100, 2) := by decide +kernel
theorem dX7_moved_197 : decode cX7_moved 197 = .ok (.if_icmp .ge 46, 3) := by decide +kernel
theorem dX7_moved_200 : decode cX7_moved 200 = .ok (.aload_n 0, 1) := by decide +kernel
theorem dX7_moved_201 : decode cX7_moved 201 = .ok (.aload_n 0, 1) := by decide +kernel
theorem dX7_moved_202 : decode cX7_moved 202 = .ok (.getfield 73, 3) := by decide +kernel
theorem dX7_moved_205 : decode cX7_moved 205 = .ok (.iload 4, 2) := by decide +kernel
theorem dX7_moved_207 : decode cX7_moved 207 = .ok (.laload, 1) := by decide +kernel
theorem dX7_moved_208 : decode cX7_moved 208 = .ok (.invokevirtual 247, 3) := by decide +kernel
theorem dX7_moved_211 : decode cX7_moved 211 = .ok (.aload_n 0, 1) := by decide +kernel
theorem dX7_moved_212 : decode cX7_moved 212 = .ok (.getfield 77, 3) := by decide +kernel
theorem dX7_moved_215 : decode cX7_moved 215 = .ok (.iload 4, 2) := by decide +kernel
theorem dX7_moved_217 : decode cX7_moved 217 = .ok (.iaload, 1) := by decide +kernel
theorem dX7_moved_218 : decode cX7_moved 218 = .ok (.isub, 1) := by decide +kernel
theorem dX7_moved_219 : decode cX7_moved 219 = .ok (.istore 5, 2) := by decide +kernel
theorem dX7_moved_221 : decode cX7_moved 221 = .ok (.iload_n 3, 1) := by decide +kernel
theorem dX7_moved_222 : decode cX7_moved 222 = .ok (.iload 5, 2) := by decide +kernel
theorem dX7_moved_224 : decode cX7_moved 224 = .ok (.ifCond .ge 9, 3) := by decide +kernel
theorem dX7_moved_227 : decode cX7_moved 227 = .ok (.iload 5, 2) := by decide +kernel
theorem dX7_moved_229 : decode cX7_moved 229 = .ok (.ineg, 1) := by decide +kernel
theorem dX7_moved_230 : decode cX7_moved 230 = .ok (.goto 5, 3) := by decide +kernel
theorem dX7_moved_233 : decode cX7_moved 233 = .ok (.iload 5, 2) := by decide +kernel
theorem dX7_moved_235 : decode cX7_moved 235 = .ok (.iadd, 1) := by decide +kernel
theorem dX7_moved_236 : decode cX7_moved 236 = .ok (.istore_n 3, 1) := by decide +kernel
theorem dX7_moved_237 : decode cX7_moved 237 = .ok (.iinc 4 1, 3) := by decide +kernel
theorem dX7_moved_240 : decode cX7_moved 240 = .ok (.goto (-47), 3) := by decide +kernel
theorem dX7_moved_243 : decode cX7_moved 243 = .ok (.iload_n 3, 1) := by decide +kernel
theorem dX7_moved_244 : decode cX7_moved 244 = .ok (.ireturn, 1) := by decide +kernel
set_option maxRecDepth 20000 in
theorem ggX7_isAssumption_X7_in : GoodIn wsX7_isAssumption wsX7_in := goodIn_r _ [6] (by decide +kernel) (by decide +kernel)
set_option maxRecDepth 20000 in
theorem gX7_isAssumption_X7_in : GoodIn wsX7_isAssumption (va_wsS RX7 100 yX7_in wsX7_in) := goodIn_app (goodIn_of _ (by decide +kernel)) ggX7_isAssumption_X7_in
theorem dX7_isAssumption_0 : decode cX7_isAssumption 0 = .ok (.iload_n 1, 1) := by decide +kernel
theorem dX7_isAssumption_1 : decode cX7_isAssumption 1 = .ok (.i2l, 1) := by decide +kernel
theorem dX7_isAssumption_2 : decode cX7_isAssumption 2 = .ok (.lconst 0, 1) := by decide +kernel
theorem dX7_isAssumption_3 : decode cX7_isAssumption 3 = .ok (.ldc2_w 251, 3) := by decide +kernel
theorem dX7_isAssumption_6 : decode cX7_isAssumption 6 = .ok (.invokestatic 100, 3) := by decide +kernel
theorem dX7_isAssumption_9 : decode cX7_isAssumption 9 = .ok (.ifCond .eq 30, 3) := by decide +kernel
theorem dX7_isAssumption_12 : decode cX7_isAssumption 12 = .ok (.iload_n 1, 1) := by decide +kernel
theorem dX7_isAssumption_13 : decode cX7_isAssumption 13 = .ok (.bipush 8, 2) := by decide +kernel
theorem dX7_isAssumption_15 : decode cX7_isAssumption 15 = .ok (.if_icmp .lt 20, 3) := by decide +kernel
theorem dX7_isAssumption_18 : decode cX7_isAssumption 18 = .ok (.iload_n 1, 1) := by decide +kernel
theorem dX7_isAssumption_19 : decode cX7_isAssumption 19 = .ok (.bipush 12, 2) := by decide +kernel
theorem dX7_isAssumption_21 : decode cX7_isAssumption 21 = .ok (.if_icmp .eq 14, 3) := by decide +kernel
theorem dX7_isAssumption_24 : decode cX7_isAssumption 24 = .ok (.iload_n 1, 1) := by decide +kernel
theorem dX7_isAssumption_25 : decode cX7_isAssumption 25 = .ok (.bipush 8, 2) := by decide +kernel
theorem dX7_isAssumption_27 : decode cX7_isAssumption 27 = .ok (.isub, 1) := by decide +kernel
theorem dX7_isAssumption_28 : decode cX7_isAssumption 28 = .ok (.aload_n 0, 1) := by decide +kernel
theorem dX7_isAssumption_29 : decode cX7_isAssumption 29 = .ok (.getfield 206, 3) := by decide +kernel
theorem dX7_isAssumption_32 : decode cX7_isAssumption 32 = .ok (.if_icmp .ge 7, 3) := by decide +kernel
theorem dX7_isAssumption_35 : decode cX7_isAssumption 35 = .ok (.iconst 1, 1) := by decide +kernel
theorem dX7_isAssumption_36 : decode cX7_isAssumption 36 = .ok (.goto 4, 3) := by decide +kernel
theorem dX7_isAssumption_39 : decode cX7_isAssumption 39 = .ok (.iconst 0, 1) := by decide +kernel
theorem dX7_isAssumption_40 : decode cX7_isAssumption 40 = .ok (.ireturn, 1) := by decide +kernel
set_option maxRecDepth 20000 in
theorem ggX7_moves_X7_isAssumption : GoodIn wsX7_moves wsX7_isAssumption := goodIn_r _ [5, 6, 7, 8, 9, 4, 10, 103, 104, 105, 106, 107, 108, 109, 110, 111, 112, 113, 114, 115, 116, 117, 118, 119, 120, 121, 122, 123, 124, 125, 126, 127, 128, 129, 130, 131, 132, 133, 134, 135, 136, 137, 138, 139, 140, 141, 142, 143, 144] (by decide +kernel) (by decide +kernel)
set_option maxRecDepth 20000 in
theorem gX7_moves_X7_isAssumption : GoodIn wsX7_moves (wsV RX7 253 RX7 yX7_isAssumption wsX7_isAssumption) := goodIn_app (goodIn_of _ (by decide +kernel)) ggX7_moves_X7_isAssumption
set_option maxRecDepth 20000 in
theorem ggX7_moves_X7_moved : GoodIn wsX7_moves wsX7_moved := goodIn_r _ [14, 15, 16, 17, 18, 19, 20, 21, 22, 23, 24, 25, 4, 26, 27, 28, 29, 30, 31, 32, 33, 34, 35, 36, 37, 38, 7, 39, 40, 41, 42, 43, 44, 45, 46, 47, 48, 49, 50, 51, 52, 53, 54, 55, 56, 57, 58, 59, 60, 61, 62, 63, 64, 65, 66, 67, 68, 69, 70, 71, 8, 9, 10, 72, 73, 74, 75, 76, 77, 78, 79, 80, 81, 82, 83, 84, 85, 86, 87, 88, 89, 90, 91, 92, 93, 94, 95, 96, 97, 98, 99, 100, 101, 102, 103, 104, 105, 106, 107, 108, 109, 110, 111, 112, 113, 114, 115, 116, 117, 118, 119, 120, 121, 122, 123, 124, 125, 126, 127, 128, 129, 130, 131, 132, 133, 134, 135, 136, 137, 138, 139, 140, 141, 142, 143, 144] (by decide +kernel) (by decide +kernel)
set_option maxRecDepth 20000 in
theorem gX7_moves_X7_moved : GoodIn wsX7_moves (wsV RX7 256 RX7 yX7_moved wsX7_moved) := goodIn_app (goodIn_of _ (by decide +kernel)) ggX7_moves_X7_moved
theorem dX7_moves_0 : decode cX7_moves 0 = .ok (.aload_n 0, 1) := by decide +kernel
theorem dX7_moves_1 : decode cX7_moves 1 = .ok (.iload_n 1, 1) := by decide +kernel
theorem dX7_moves_2 : decode cX7_moves 2 = .ok (.invokevirtual 253, 3) := by decide +kernel
theorem dX7_moves_5 : decode cX7_moves 5 = .ok (.ifCond .eq 11, 3) := by decide +kernel
theorem dX7_moves_8 : decode cX7_moves 8 = .ok (.aload_n 0, 1) := by decide +kernel
theorem dX7_moves_9 : decode cX7_moves 9 = .ok (.iload_n 1, 1) := by decide +kernel
theorem dX7_moves_10 : decode cX7_moves 10 = .ok (.invokevirtual 256, 3) := by decide +kernel
theorem dX7_moves_13 : decode cX7_moves 13 = .ok (.goto 4, 3) := by decide +kernel
theorem dX7_moves_16 : decode cX7_moves 16 = .ok (.iconst (-1), 1) := by decide +kernel
theorem dX7_moves_17 : decode cX7_moves 17 = .ok (.ireturn, 1) := by decide +kernel
set_option maxRecDepth 20000 in
theorem ggX7_most_X7_isAssumption : GoodIn wsX7_most wsX7_isAssumption := goodIn_r _ [5, 6, 7, 8, 9, 4, 10, 103, 104, 105, 106, 107, 108, 109, 110, 111, 112, 113, 114, 115, 116, 117, 118, 119, 120, 121, 122, 123, 124, 125, 126, 127, 128, 129, 130, 131, 132, 133, 134, 135, 136, 137, 138, 139, 140, 141, 142, 143, 144] (by decide +kernel) (by decide +kernel)
set_option maxRecDepth 20000 in
theorem gX7_most_X7_isAssumption : GoodIn wsX7_most (wsV RX7 253 RX7 yX7_isAssumption wsX7_isAssumption) := goodIn_app (goodIn_of _ (by decide +kernel)) ggX7_most_X7_isAssumption
set_option maxRecDepth 20000 in
theorem ggX7_most_X7_moved : GoodIn wsX7_most wsX7_moved := goodIn_r _ [14, 15, 16, 17, 18, 19, 20, 21, 22, 23, 24, 25, 4, 26, 27, 28, 29, 30, 31, 32, 33, 34, 35, 36, 37, 38, 7, 39, 40, 41, 42, 43, 44, 45, 46, 47, 48, 49, 50, 51, 52, 53, 54, 55, 56, 57, 58, 59, 60, 61, 62, 63, 64, 65, 66, 67, 68, 69, 70, 71, 8, 9, 10, 72, 73, 74, 75, 76, 77, 78, 79, 80, 81, 82, 83, 84, 85, 86, 87, 88, 89, 90, 91, 92, 93, 94, 95, 96, 97, 98, 99, 100, 101, 102, 103, 104, 105, 106, 107, 108, 109, 110, 111, 112, 113, 114, 115, 116, 117, 118, 119, 120, 121, 122, 123, 124, 125, 126, 127, 128, 129, 130, 131, 132, 133, 134, 135, 136, 137, 138, 139, 140, 141, 142, 143, 144] (by decide +kernel) (by decide +kernel)
set_option maxRecDepth 20000 in
theorem gX7_most_X7_moved : GoodIn wsX7_most (wsV RX7 256 RX7 yX7_moved wsX7_moved) := goodIn_app (goodIn_of _ (by decide +kernel)) ggX7_most_X7_moved
theorem dX7_most_0 : decode cX7_most 0 = .ok (.iconst 0, 1) := by decide +kernel
theorem dX7_most_1 : decode cX7_most 1 = .ok (.istore_n 1, 1) := by decide +kernel
theorem dX7_most_2 : decode cX7_most 2 = .ok (.iconst (-1), 1) := by decide +kernel
theorem dX7_most_3 : decode cX7_most 3 = .ok (.istore_n 2, 1) := by decide +kernel
theorem dX7_most_4 : decode cX7_most 4 = .ok (.iconst 0, 1) := by decide +kernel
theorem dX7_most_5 : decode cX7_most 5 = .ok (.istore_n 3, 1) := by decide +kernel
theorem dX7_most_6 : decode cX7_most 6 = .ok (.iload_n 3, 1) := by decide +kernel
theorem dX7_most_7 : decode cX7_most 7 = .ok (.bipush 13, 2) := by decide +kernel
theorem dX7_most_9 : decode cX7_most 9 = .ok (.if_icmp .ge 53, 3) := by decide +kernel
theorem dX7_most_12 : decode cX7_most 12 = .ok (.aload_n 0, 1) := by decide +kernel
theorem dX7_most_13 : decode cX7_most 13 = .ok (.iload_n 3, 1) := by decide +kernel
theorem dX7_most_14 : decode cX7_most 14 = .ok (.invokevirtual 253, 3) := by decide +kernel
theorem dX7_most_17 : decode cX7_most 17 = .ok (.ifCond .eq 11, 3) := by decide +kernel
theorem dX7_most_20 : decode cX7_most 20 = .ok (.aload_n 0, 1) := by decide +kernel
theorem dX7_most_21 : decode cX7_most 21 = .ok (.iload_n 3, 1) := by decide +kernel
theorem dX7_most_22 : decode cX7_most 22 = .ok (.invokevirtual 256, 3) := by decide +kernel
theorem dX7_most_25 : decode cX7_most 25 = .ok (.goto 4, 3) := by decide +kernel
theorem dX7_most_28 : decode cX7_most 28 = .ok (.iconst (-1), 1) := by decide +kernel
theorem dX7_most_29 : decode cX7_most 29 = .ok (.istore 4, 2) := by decide +kernel
theorem dX7_most_31 : decode cX7_most 31 = .ok (.iload 4, 2) := by decide +kernel
theorem dX7_most_33 : decode cX7_most 33 = .ok (.iload_n 2, 1) := by decide +kernel
theorem dX7_most_34 : decode cX7_most 34 = .ok (.if_icmp .le 7, 3) := by decide +kernel
theorem dX7_most_37 : decode cX7_most 37 = .ok (.iload_n 3, 1) := by decide +kernel
theorem dX7_most_38 : decode cX7_most 38 = .ok (.goto 4, 3) := by decide +kernel
theorem dX7_most_41 : decode cX7_most 41 = .ok (.iload_n 1, 1) := by decide +kernel
theorem dX7_most_42 : decode cX7_most 42 = .ok (.istore_n 1, 1) := by decide +kernel
theorem dX7_most_43 : decode cX7_most 43 = .ok (.iload 4, 2) := by decide +kernel
theorem dX7_most_45 : decode cX7_most 45 = .ok (.iload_n 2, 1) := by decide +kernel
theorem dX7_most_46 : decode cX7_most 46 = .ok (.if_icmp .le 8, 3) := by decide +kernel
theorem dX7_most_49 : decode cX7_most 49 = .ok (.iload 4, 2) := by decide +kernel
theorem dX7_most_51 : decode cX7_most 51 = .ok (.goto 4, 3) := by decide +kernel
theorem dX7_most_54 : decode cX7_most 54 = .ok (.iload_n 2, 1) := by decide +kernel
theorem dX7_most_55 : decode cX7_most 55 = .ok (.istore_n 2, 1) := by decide +kernel
theorem dX7_most_56 : decode cX7_most 56 = .ok (.iinc 3 1, 3) := by decide +kernel
theorem dX7_most_59 : decode cX7_most 59 = .ok (.goto (-53), 3) := by decide +kernel
theorem dX7_most_62 : decode cX7_most 62 = .ok (.iload_n 1, 1) := by decide +kernel
theorem dX7_most_63 : decode cX7_most 63 = .ok (.ireturn, 1) := by decide +kernel
set_option maxRecDepth 20000 in
theorem ggX7_next_X7_endsAsTold : GoodIn wsX7_next wsX7_endsAsTold := goodIn_r _ [9, 10, 11, 12, 13, 14, 8, 15, 16, 17, 18, 19, 20, 21, 22, 1, 23, 24, 25, 26, 27, 28, 2, 3, 29, 30, 31, 32, 33, 34, 35, 36, 37, 38, 39, 40, 41, 42, 43, 44, 45, 46, 47, 48, 49, 50, 51, 52, 53, 54, 55, 56, 57, 58, 59, 60, 61, 62, 63, 64, 65, 66, 67, 68, 69, 70, 71, 72, 73, 74, 75, 76, 77, 78, 79, 80, 81, 82, 83, 84, 85, 86, 87, 88, 89, 90, 91, 92, 93, 94, 95, 96, 97, 98, 99, 100, 101, 102, 103, 104, 105, 106, 107, 108, 109, 110, 111, 112, 113, 114, 115, 116, 117, 118, 119, 120, 121, 122, 123, 124, 125, 126, 127, 128, 129, 130] (by decide +kernel) (by decide +kernel)
set_option maxRecDepth 20000 in
theorem gX7_next_X7_endsAsTold : GoodIn wsX7_next (wsV RX7 234 RX7 yX7_endsAsTold wsX7_endsAsTold) := goodIn_app (goodIn_of _ (by decide +kernel)) ggX7_next_X7_endsAsTold
theorem dX7_next_0 : decode cX7_next 0 = .ok (.aload_n 0, 1) := by decide +kernel
theorem dX7_next_1 : decode cX7_next 1 = .ok (.invokevirtual 234, 3) := by decide +kernel
theorem dX7_next_4 : decode cX7_next 4 = .ok (.bipush (-4), 2) := by decide +kernel
theorem dX7_next_6 : decode cX7_next 6 = .ok (.istore_n 1, 1) := by decide +kernel
theorem dX7_next_7 : decode cX7_next 7 = .ok (.iconst 0, 1) := by decide +kernel
theorem dX7_next_8 : decode cX7_next 8 = .ok (.istore_n 2, 1) := by decide +kernel
theorem dX7_next_9 : decode cX7_next 9 = .ok (.iload_n 2, 1) := by decide +kernel
theorem dX7_next_10 : decode cX7_next 10 = .ok (.bipush 100, 2) := by decide +kernel
theorem dX7_next_12 : decode cX7_next 12 = .ok (.if_icmp .ge 111, 3) := by decide +kernel
theorem dX7_next_15 : decode cX7_next 15 = .ok (.aload_n 0, 1) := by decide +kernel
theorem dX7_next_16 : decode cX7_next 16 = .ok (.getfield 73, 3) := by decide +kernel
theorem dX7_next_19 : decode cX7_next 19 = .ok (.iload_n 2, 1) := by decide +kernel
theorem dX7_next_20 : decode cX7_next 20 = .ok (.laload, 1) := by decide +kernel
theorem dX7_next_21 : decode cX7_next 21 = .ok (.lconst 0, 1) := by decide +kernel
theorem dX7_next_22 : decode cX7_next 22 = .ok (.lcmp, 1) := by decide +kernel
theorem dX7_next_23 : decode cX7_next 23 = .ok (.ifCond .le 7, 3) := by decide +kernel
theorem dX7_next_26 : decode cX7_next 26 = .ok (.iconst 1, 1) := by decide +kernel
theorem dX7_next_27 : decode cX7_next 27 = .ok (.goto 4, 3) := by decide +kernel
theorem dX7_next_30 : decode cX7_next 30 = .ok (.iconst 0, 1) := by decide +kernel
theorem dX7_next_31 : decode cX7_next 31 = .ok (.istore_n 3, 1) := by decide +kernel
theorem dX7_next_32 : decode cX7_next 32 = .ok (.iconst 0, 1) := by decide +kernel
theorem dX7_next_33 : decode cX7_next 33 = .ok (.istore 4, 2) := by decide +kernel
theorem dX7_next_35 : decode cX7_next 35 = .ok (.iload 4, 2) := by decide +kernel
theorem dX7_next_37 : decode cX7_next 37 = .ok (.aload_n 0, 1) := by decide +kernel
theorem dX7_next_38 : decode cX7_next 38 = .ok (.getfield 218, 3) := by decide +kernel
theorem dX7_next_41 : decode cX7_next 41 = .ok (.if_icmp .ge 30, 3) := by decide +kernel
theorem dX7_next_44 : decode cX7_next 44 = .ok (.iload_n 3, 1) := by decide +kernel
theorem dX7_next_45 : decode cX7_next 45 = .ok (.ifCond .eq 18, 3) := by decide +kernel
theorem dX7_next_48 : decode cX7_next 48 = .ok (.aload_n 0, 1) := by decide +kernel
theorem dX7_next_49 : decode cX7_next 49 = .ok (.getfield 67, 3) := by decide +kernel
theorem dX7_next_52 : decode cX7_next 52 = .ok (.iload 4, 2) := by decide +kernel
theorem dX7_next_54 : decode cX7_next 54 = .ok (.iaload, 1) := by decide +kernel
theorem dX7_next_55 : decode cX7_next 55 = .ok (.iload_n 2, 1) := by decide +kernel
theorem dX7_next_56 : decode cX7_next 56 = .ok (.if_icmp .eq 7, 3) := by decide +kernel
theorem dX7_next_59 : decode cX7_next 59 = .ok (.iconst 1, 1) := by decide +kernel
theorem dX7_next_60 : decode cX7_next 60 = .ok (.goto 4, 3) := by decide +kernel
theorem dX7_next_63 : decode cX7_next 63 = .ok (.iconst 0, 1) := by decide +kernel
theorem dX7_next_64 : decode cX7_next 64 = .ok (.istore_n 3, 1) := by decide +kernel
theorem dX7_next_65 : decode cX7_next 65 = .ok (.iinc 4 1, 3) := by decide +kernel
theorem dX7_next_68 : decode cX7_next 68 = .ok (.goto (-33), 3) := by decide +kernel
theorem dX7_next_71 : decode cX7_next 71 = .ok (.iload_n 3, 1) := by decide +kernel
theorem dX7_next_72 : decode cX7_next 72 = .ok (.ifCond .eq 43, 3) := by decide +kernel
theorem dX7_next_75 : decode cX7_next 75 = .ok (.iload_n 1, 1) := by decide +kernel
theorem dX7_next_76 : decode cX7_next 76 = .ok (.ifCond .lt 35, 3) := by decide +kernel
theorem dX7_next_79 : decode cX7_next 79 = .ok (.aload_n 0, 1) := by decide +kernel
theorem dX7_next_80 : decode cX7_next 80 = .ok (.getfield 73, 3) := by decide +kernel
theorem dX7_next_83 : decode cX7_next 83 = .ok (.iload_n 2, 1) := by decide +kernel
theorem dX7_next_84 : decode cX7_next 84 = .ok (.laload, 1) := by decide +kernel
theorem dX7_next_85 : decode cX7_next 85 = .ok (.aload_n 0, 1) := by decide +kernel
theorem dX7_next_86 : decode cX7_next 86 = .ok (.getfield 25, 3) := by decide +kernel
theorem dX7_next_89 : decode cX7_next 89 = .ok (.iload_n 1, 1) := by decide +kernel
theorem dX7_next_90 : decode cX7_next 90 = .ok (.iaload, 1) := by decide +kernel
theorem dX7_next_91 : decode cX7_next 91 = .ok (.i2l, 1) := by decide +kernel
theorem dX7_next_92 : decode cX7_next 92 = .ok (.lmul, 1) := by decide +kernel
theorem dX7_next_93 : decode cX7_next 93 = .ok (.aload_n 0, 1) := by decide +kernel
theorem dX7_next_94 : decode cX7_next 94 = .ok (.getfield 73, 3) := by decide +kernel
theorem dX7_next_97 : decode cX7_next 97 = .ok (.iload_n 1, 1) := by decide +kernel
theorem dX7_next_98 : decode cX7_next 98 = .ok (.laload, 1) := by decide +kernel
theorem dX7_next_99 : decode cX7_next 99 = .ok (.aload_n 0, 1) := by decide +kernel
theorem dX7_next_100 : decode cX7_next 100 = .ok (.getfield 25, 3) := by decide +kernel
theorem dX7_next_103 : decode cX7_next 103 = .ok (.iload_n 2, 1) := by decide +kernel
theorem dX7_next_104 : decode cX7_next 104 = .ok (.iaload, 1) := by decide +kernel
theorem dX7_next_105 : decode cX7_next 105 = .ok (.i2l, 1) := by decide +kernel
theorem dX7_next_106 : decode cX7_next 106 = .ok (.lmul, 1) := by decide +kernel
theorem dX7_next_107 : decode cX7_next 107 = .ok (.lcmp, 1) := by decide +kernel
theorem dX7_next_108 : decode cX7_next 108 = .ok (.ifCond .le 7, 3) := by decide +kernel
theorem dX7_next_111 : decode cX7_next 111 = .ok (.iload_n 2, 1) := by decide +kernel
theorem dX7_next_112 : decode cX7_next 112 = .ok (.goto 4, 3) := by decide +kernel
theorem dX7_next_115 : decode cX7_next 115 = .ok (.iload_n 1, 1) := by decide +kernel
theorem dX7_next_116 : decode cX7_next 116 = .ok (.istore_n 1, 1) := by decide +kernel
theorem dX7_next_117 : decode cX7_next 117 = .ok (.iinc 2 1, 3) := by decide +kernel
theorem dX7_next_120 : decode cX7_next 120 = .ok (.goto (-111), 3) := by decide +kernel
theorem dX7_next_123 : decode cX7_next 123 = .ok (.iload_n 1, 1) := by decide +kernel
theorem dX7_next_124 : decode cX7_next 124 = .ok (.ireturn, 1) := by decide +kernel
set_option maxRecDepth 20000 in
theorem ggX7_should_X7_isCell : GoodIn wsX7_should wsX7_isCell := goodIn_r _ [9, 10, 11, 12, 8, 13] (by decide +kernel) (by decide +kernel)
set_option maxRecDepth 20000 in
theorem gX7_should_X7_isCell : GoodIn wsX7_should (va_wsS RX7 115 yX7_isCell wsX7_isCell) := goodIn_app (goodIn_of _ (by decide +kernel)) ggX7_should_X7_isCell
set_option maxRecDepth 20000 in
theorem ggX7_should_X7_in : GoodIn wsX7_should wsX7_in := goodIn_r _ [13] (by decide +kernel) (by decide +kernel)
set_option maxRecDepth 20000 in
theorem gX7_should_X7_in : GoodIn wsX7_should (va_wsS RX7 100 yX7_in wsX7_in) := goodIn_app (goodIn_of _ (by decide +kernel)) ggX7_should_X7_in
set_option maxRecDepth 20000 in
theorem ggX7_should_X7_endsAsTold : GoodIn wsX7_should wsX7_endsAsTold := goodIn_r _ [17, 18, 19, 20, 21, 22, 8, 23, 24, 25, 26, 27, 28, 29, 30, 5, 31, 32, 33, 34, 3, 35, 36, 37, 38, 39, 40, 41, 42, 43, 44, 45, 46, 47, 48, 49, 50, 51, 52, 53, 54, 55, 56, 57, 58, 59, 60, 61, 62, 63, 64, 65, 66, 67, 68, 11, 12, 13, 69, 70, 71, 72, 73, 74, 75, 76, 77, 78, 79, 80, 81, 82, 83, 84, 85, 86, 87, 88, 2, 89, 90, 91, 92, 93, 101, 102, 103, 104, 105, 106, 107, 108, 109, 110, 111, 112, 113, 114, 115, 116, 117, 118, 119, 120, 121, 122, 123, 124, 125, 126, 127, 128, 129, 130, 131, 132, 133, 134, 135, 136, 137, 138, 139, 140, 141, 142] (by decide +kernel) (by decide +kernel)
set_option maxRecDepth 20000 in
theorem gX7_should_X7_endsAsTold : GoodIn wsX7_should (wsV RX7 234 RX7 yX7_endsAsTold wsX7_endsAsTold) := goodIn_app (goodIn_of _ (by decide +kernel)) ggX7_should_X7_endsAsTold
set_option maxRecDepth 20000 in
theorem ggX7_should_X7_driftTo : GoodIn wsX7_should wsX7_driftTo := goodIn_r _ [97, 89, 90, 91, 8, 92, 93, 31, 59, 60, 61, 62, 63, 64, 65, 66, 67, 68, 11, 12, 13, 101, 102, 103, 104, 105, 106, 107, 108, 109, 110, 111, 112, 113, 114, 115, 116, 117, 118, 119, 120, 121, 122, 123, 124, 125, 126, 127, 128, 129, 130, 131, 132, 133, 134, 135, 136, 137, 138, 139, 140, 141, 142] (by decide +kernel) (by decide +kernel)
set_option maxRecDepth 20000 in
theorem gX7_should_X7_driftTo : GoodIn wsX7_should (wsV RX7 212 RX7 yX7_driftTo wsX7_driftTo) := goodIn_app (goodIn_of _ (by decide +kernel)) ggX7_should_X7_driftTo
set_option maxRecDepth 20000 in
theorem ggX7_should_X7_lowest : GoodIn wsX7_should wsX7_lowest := goodIn_r _ [100] (by decide +kernel) (by decide +kernel)
set_option maxRecDepth 20000 in
theorem gX7_should_X7_lowest : GoodIn wsX7_should (va_wsS RX7 239 yX7_lowest wsX7_lowest) := goodIn_app (goodIn_of _ (by decide +kernel)) ggX7_should_X7_lowest
theorem dX7_should_0 : decode cX7_should 0 = .ok (.iload_n 1, 1) := by decide +kernel
theorem dX7_should_1 : decode cX7_should 1 = .ok (.invokestatic 115, 3) := by decide +kernel
theorem dX7_should_4 : decode cX7_should 4 = .ok (.ifCond .eq 36, 3) := by decide +kernel
theorem dX7_should_7 : decode cX7_should 7 = .ok (.iload_n 2, 1) := by decide +kernel
theorem dX7_should_8 : decode cX7_should 8 = .ok (.i2l, 1) := by decide +kernel
theorem dX7_should_9 : decode cX7_should 9 = .ok (.lconst 0, 1) := by decide +kernel
theorem dX7_should_10 : decode cX7_should 10 = .ok (.ldc2_w 204, 3) := by decide +kernel
theorem dX7_should_13 : decode cX7_should 13 = .ok (.invokestatic 100, 3) := by decide +kernel
theorem dX7_should_16 : decode cX7_should 16 = .ok (.ifCond .eq 24, 3) := by decide +kernel
theorem dX7_should_19 : decode cX7_should 19 = .ok (.iload_n 3, 1) := by decide +kernel
theorem dX7_should_20 : decode cX7_should 20 = .ok (.i2l, 1) := by decide +kernel
theorem dX7_should_21 : decode cX7_should 21 = .ok (.lconst 0, 1) := by decide +kernel
theorem dX7_should_22 : decode cX7_should 22 = .ok (.lconst 1, 1) := by decide +kernel
theorem dX7_should_23 : decode cX7_should 23 = .ok (.invokestatic 100, 3) := by decide +kernel
theorem dX7_should_26 : decode cX7_should 26 = .ok (.ifCond .eq 14, 3) := by decide +kernel
theorem dX7_should_29 : decode cX7_should 29 = .ok (.iload 4, 2) := by decide +kernel
theorem dX7_should_31 : decode cX7_should 31 = .ok (.i2l, 1) := by decide +kernel
theorem dX7_should_32 : decode cX7_should 32 = .ok (.lconst 0, 1) := by decide +kernel
theorem dX7_should_33 : decode cX7_should 33 = .ok (.lconst 1, 1) := by decide +kernel
theorem dX7_should_34 : decode cX7_should 34 = .ok (.invokestatic 100, 3) := by decide +kernel
theorem dX7_should_37 : decode cX7_should 37 = .ok (.ifCond .ne 7, 3) := by decide +kernel
theorem dX7_should_40 : decode cX7_should 40 = .ok (.ldc2_w 124, 3) := by decide +kernel
theorem dX7_should_43 : decode cX7_should 43 = .ok (.lreturn, 1) := by decide +kernel
theorem dX7_should_44 : decode cX7_should 44 = .ok (.aload_n 0, 1) := by decide +kernel
theorem dX7_should_45 : decode cX7_should 45 = .ok (.invokevirtual 234, 3) := by decide +kernel
theorem dX7_should_48 : decode cX7_should 48 = .ok (.aload_n 0, 1) := by decide +kernel
theorem dX7_should_49 : decode cX7_should 49 = .ok (.getfield 221, 3) := by decide +kernel
theorem dX7_should_52 : decode cX7_should 52 = .ok (.lconst 0, 1) := by decide +kernel
theorem dX7_should_53 : decode cX7_should 53 = .ok (.lcmp, 1) := by decide +kernel
theorem dX7_should_54 : decode cX7_should 54 = .ok (.ifCond .ne 7, 3) := by decide +kernel
theorem dX7_should_57 : decode cX7_should 57 = .ok (.ldc2_w 237, 3) := by decide +kernel
theorem dX7_should_60 : decode cX7_should 60 = .ok (.lreturn, 1) := by decide +kernel
theorem dX7_should_61 : decode cX7_should 61 = .ok (.lconst 0, 1) := by decide +kernel
theorem dX7_should_62 : decode cX7_should 62 = .ok (.lstore 5, 2) := by decide +kernel
theorem dX7_should_64 : decode cX7_should 64 = .ok (.iconst 0, 1) := by decide +kernel
theorem dX7_should_65 : decode cX7_should 65 = .ok (.istore 7, 2) := by decide +kernel
theorem dX7_should_67 : decode cX7_should 67 = .ok (.iload 7, 2) := by decide +kernel
theorem dX7_should_69 : decode cX7_should 69 = .ok (.bipush 100, 2) := by decide +kernel
theorem dX7_should_71 : decode cX7_should 71 = .ok (.if_icmp .ge 49, 3) := by decide +kernel
theorem dX7_should_74 : decode cX7_should 74 = .ok (.lload 5, 2) := by decide +kernel
theorem dX7_should_76 : decode cX7_should 76 = .ok (.aload_n 0, 1) := by decide +kernel
theorem dX7_should_77 : decode cX7_should 77 = .ok (.getfield 73, 3) := by decide +kernel
theorem dX7_should_80 : decode cX7_should 80 = .ok (.iload 7, 2) := by decide +kernel
theorem dX7_should_82 : decode cX7_should 82 = .ok (.laload, 1) := by decide +kernel
theorem dX7_should_83 : decode cX7_should 83 = .ok (.lconst 0, 1) := by decide +kernel
theorem dX7_should_84 : decode cX7_should 84 = .ok (.lcmp, 1) := by decide +kernel
theorem dX7_should_85 : decode cX7_should 85 = .ok (.ifCond .le 25, 3) := by decide +kernel
theorem dX7_should_88 : decode cX7_should 88 = .ok (.aload_n 0, 1) := by decide +kernel
theorem dX7_should_89 : decode cX7_should 89 = .ok (.iload 7, 2) := by decide +kernel
theorem dX7_should_91 : decode cX7_should 91 = .ok (.iload_n 2, 1) := by decide +kernel
theorem dX7_should_92 : decode cX7_should 92 = .ok (.iload_n 3, 1) := by decide +kernel
theorem dX7_should_93 : decode cX7_should 93 = .ok (.invokevirtual 212, 3) := by decide +kernel
theorem dX7_should_96 : decode cX7_should 96 = .ok (.iload_n 1, 1) := by decide +kernel
theorem dX7_should_97 : decode cX7_should 97 = .ok (.if_icmp .ne 13, 3) := by decide +kernel
theorem dX7_should_100 : decode cX7_should 100 = .ok (.aload_n 0, 1) := by decide +kernel
theorem dX7_should_101 : decode cX7_should 101 = .ok (.getfield 73, 3) := by decide +kernel
theorem dX7_should_104 : decode cX7_should 104 = .ok (.iload 7, 2) := by decide +kernel
theorem dX7_should_106 : decode cX7_should 106 = .ok (.laload, 1) := by decide +kernel
theorem dX7_should_107 : decode cX7_should 107 = .ok (.goto 4, 3) := by decide +kernel
theorem dX7_should_110 : decode cX7_should 110 = .ok (.lconst 0, 1) := by decide +kernel
theorem dX7_should_111 : decode cX7_should 111 = .ok (.ladd, 1) := by decide +kernel
theorem dX7_should_112 : decode cX7_should 112 = .ok (.lstore 5, 2) := by decide +kernel
theorem dX7_should_114 : decode cX7_should 114 = .ok (.iinc 7 1, 3) := by decide +kernel
theorem dX7_should_117 : decode cX7_should 117 = .ok (.goto (-50), 3) := by decide +kernel
theorem dX7_should_120 : decode cX7_should 120 = .ok (.lload 5, 2) := by decide +kernel
theorem dX7_should_122 : decode cX7_should 122 = .ok (.aload_n 0, 1) := by decide +kernel
theorem dX7_should_123 : decode cX7_should 123 = .ok (.getfield 221, 3) := by decide +kernel
theorem dX7_should_126 : decode cX7_should 126 = .ok (.iload 4, 2) := by decide +kernel
theorem dX7_should_128 : decode cX7_should 128 = .ok (.invokestatic 239, 3) := by decide +kernel
theorem dX7_should_131 : decode cX7_should 131 = .ok (.lreturn, 1) := by decide +kernel
set_option maxRecDepth 20000 in
theorem ggX7_isKnown_X7_asTold : GoodIn wsX7_isKnown wsX7_asTold := goodIn_r _ [9, 1, 10, 11, 55, 56, 57, 58, 59, 60, 61, 62, 63, 64, 65, 66, 67, 68, 69, 70, 71, 72, 73, 74, 75, 76, 77, 78, 79, 80, 81, 82, 83, 84, 85, 86, 87, 88, 89, 90, 91, 92, 93, 94, 95, 96] (by decide +kernel) (by decide +kernel)
set_option maxRecDepth 20000 in
theorem gX7_isKnown_X7_asTold : GoodIn wsX7_isKnown (wsV RX7 187 RX7 yX7_asTold wsX7_asTold) := goodIn_app (goodIn_of _ (by decide +kernel)) ggX7_isKnown_X7_asTold
set_option maxRecDepth 20000 in
theorem ggX7_isKnown_X7_begins : GoodIn wsX7_isKnown wsX7_begins := goodIn_r _ [15, 16, 17, 3, 2, 18, 19, 20, 21, 55, 56, 57, 58, 59, 60, 61, 62, 63, 64, 65, 66, 67, 68, 69, 70, 71, 72, 73, 74, 75, 76, 77, 78, 79, 80, 81, 82, 83, 84, 85, 86, 87, 88, 89, 90, 91, 92, 93, 94, 95, 96] (by decide +kernel) (by decide +kernel)
set_option maxRecDepth 20000 in
theorem gX7_isKnown_X7_begins : GoodIn wsX7_isKnown (wsV RX7 190 RX7 yX7_begins wsX7_begins) := goodIn_app (goodIn_of _ (by decide +kernel)) ggX7_isKnown_X7_begins
set_option maxRecDepth 20000 in
theorem ggX7_isKnown_X7_goesOn : GoodIn wsX7_isKnown wsX7_goesOn := goodIn_r _ [25, 16, 2, 17, 26, 27, 28, 8, 29, 18, 19, 30, 31, 20, 3, 11, 21, 32, 33, 34, 35, 36, 37, 38, 39, 40, 41, 42, 43, 44, 45, 46, 47, 48, 1, 10, 49, 50, 51, 52, 53, 54, 55, 56, 57, 58, 59, 60, 61, 62, 63, 64, 65, 66, 67, 68, 69, 70, 71, 72, 73, 74, 75, 76, 77, 78, 79, 80, 81, 82, 83, 84, 85, 86, 87, 88, 89, 90, 91, 92, 93, 94, 95, 96] (by decide +kernel) (by decide +kernel)
set_option maxRecDepth 20000 in
theorem gX7_isKnown_X7_goesOn : GoodIn wsX7_isKnown (wsV RX7 193 RX7 yX7_goesOn wsX7_goesOn) := goodIn_app (goodIn_of _ (by decide +kernel)) ggX7_isKnown_X7_goesOn
theorem dX7_isKnown_0 : decode cX7_isKnown 0 = .ok (.aload_n 0, 1) := by decide +kernel
theorem dX7_isKnown_1 : decode cX7_isKnown 1 = .ok (.invokevirtual 187, 3) := by decide +kernel
theorem dX7_isKnown_4 : decode cX7_isKnown 4 = .ok (.aload_n 0, 1) := by decide +kernel
theorem dX7_isKnown_5 : decode cX7_isKnown 5 = .ok (.bipush 127, 2) := by decide +kernel
theorem dX7_isKnown_7 : decode cX7_isKnown 7 = .ok (.putfield 167, 3) := by decide +kernel
theorem dX7_isKnown_10 : decode cX7_isKnown 10 = .ok (.aload_n 0, 1) := by decide +kernel
theorem dX7_isKnown_11 : decode cX7_isKnown 11 = .ok (.invokevirtual 190, 3) := by decide +kernel
theorem dX7_isKnown_14 : decode cX7_isKnown 14 = .ok (.iconst 0, 1) := by decide +kernel
theorem dX7_isKnown_15 : decode cX7_isKnown 15 = .ok (.istore_n 2, 1) := by decide +kernel
theorem dX7_isKnown_16 : decode cX7_isKnown 16 = .ok (.iload_n 2, 1) := by decide +kernel
theorem dX7_isKnown_17 : decode cX7_isKnown 17 = .ok (.ifCond .ne 60, 3) := by decide +kernel
theorem dX7_isKnown_20 : decode cX7_isKnown 20 = .ok (.aload_n 0, 1) := by decide +kernel
theorem dX7_isKnown_21 : decode cX7_isKnown 21 = .ok (.invokevirtual 193, 3) := by decide +kernel
theorem dX7_isKnown_24 : decode cX7_isKnown 24 = .ok (.ifCond .eq 53, 3) := by decide +kernel
theorem dX7_isKnown_27 : decode cX7_isKnown 27 = .ok (.iconst 1, 1) := by decide +kernel
theorem dX7_isKnown_28 : decode cX7_isKnown 28 = .ok (.istore_n 2, 1) := by decide +kernel
theorem dX7_isKnown_29 : decode cX7_isKnown 29 = .ok (.iconst 0, 1) := by decide +kernel
theorem dX7_isKnown_30 : decode cX7_isKnown 30 = .ok (.istore_n 3, 1) := by decide +kernel
theorem dX7_isKnown_31 : decode cX7_isKnown 31 = .ok (.iload_n 3, 1) := by decide +kernel
theorem dX7_isKnown_32 : decode cX7_isKnown 32 = .ok (.aload_n 0, 1) := by decide +kernel
theorem dX7_isKnown_33 : decode cX7_isKnown 33 = .ok (.getfield 7, 3) := by decide +kernel
theorem dX7_isKnown_36 : decode cX7_isKnown 36 = .ok (.iconst 2, 1) := by decide +kernel
theorem dX7_isKnown_37 : decode cX7_isKnown 37 = .ok (.iaload, 1) := by decide +kernel
theorem dX7_isKnown_38 : decode cX7_isKnown 38 = .ok (.if_icmp .gt 36, 3) := by decide +kernel
theorem dX7_isKnown_41 : decode cX7_isKnown 41 = .ok (.iload_n 2, 1) := by decide +kernel
theorem dX7_isKnown_42 : decode cX7_isKnown 42 = .ok (.ifCond .eq 24, 3) := by decide +kernel
theorem dX7_isKnown_45 : decode cX7_isKnown 45 = .ok (.aload_n 0, 1) := by decide +kernel
theorem dX7_isKnown_46 : decode cX7_isKnown 46 = .ok (.getfield 43, 3) := by decide +kernel
theorem dX7_isKnown_49 : decode cX7_isKnown 49 = .ok (.iload_n 3, 1) := by decide +kernel
theorem dX7_isKnown_50 : decode cX7_isKnown 50 = .ok (.iaload, 1) := by decide +kernel
theorem dX7_isKnown_51 : decode cX7_isKnown 51 = .ok (.aload_n 0, 1) := by decide +kernel
theorem dX7_isKnown_52 : decode cX7_isKnown 52 = .ok (.getfield 92, 3) := by decide +kernel
theorem dX7_isKnown_55 : decode cX7_isKnown 55 = .ok (.iload_n 1, 1) := by decide +kernel
theorem dX7_isKnown_56 : decode cX7_isKnown 56 = .ok (.iload_n 3, 1) := by decide +kernel
theorem dX7_isKnown_57 : decode cX7_isKnown 57 = .ok (.iadd, 1) := by decide +kernel
theorem dX7_isKnown_58 : decode cX7_isKnown 58 = .ok (.iaload, 1) := by decide +kernel
theorem dX7_isKnown_59 : decode cX7_isKnown 59 = .ok (.if_icmp .ne 7, 3) := by decide +kernel
theorem dX7_isKnown_62 : decode cX7_isKnown 62 = .ok (.iconst 1, 1) := by decide +kernel
theorem dX7_isKnown_63 : decode cX7_isKnown 63 = .ok (.goto 4, 3) := by decide +kernel
theorem dX7_isKnown_66 : decode cX7_isKnown 66 = .ok (.iconst 0, 1) := by decide +kernel
theorem dX7_isKnown_67 : decode cX7_isKnown 67 = .ok (.istore_n 2, 1) := by decide +kernel
theorem dX7_isKnown_68 : decode cX7_isKnown 68 = .ok (.iinc 3 1, 3) := by decide +kernel
theorem dX7_isKnown_71 : decode cX7_isKnown 71 = .ok (.goto (-40), 3) := by decide +kernel
theorem dX7_isKnown_74 : decode cX7_isKnown 74 = .ok (.goto (-58), 3) := by decide +kernel
theorem dX7_isKnown_77 : decode cX7_isKnown 77 = .ok (.iload_n 2, 1) := by decide +kernel
theorem dX7_isKnown_78 : decode cX7_isKnown 78 = .ok (.ireturn, 1) := by decide +kernel
set_option maxRecDepth 20000 in
theorem ggX7_held_X7_isSheet : GoodIn wsX7_held wsX7_isSheet := goodIn_r _ [12, 13, 14, 15, 11, 16] (by decide +kernel) (by decide +kernel)
set_option maxRecDepth 20000 in
theorem gX7_held_X7_isSheet : GoodIn wsX7_held (va_wsS RX7 259 yX7_isSheet wsX7_isSheet) := goodIn_app (goodIn_of _ (by decide +kernel)) ggX7_held_X7_isSheet
set_option maxRecDepth 20000 in
theorem ggX7_held_X7_isLane : GoodIn wsX7_held wsX7_isLane := goodIn_r _ [19, 20, 14, 15, 11, 16] (by decide +kernel) (by decide +kernel)
set_option maxRecDepth 20000 in
theorem gX7_held_X7_isLane : GoodIn wsX7_held (va_wsS RX7 262 yX7_isLane wsX7_isLane) := goodIn_app (goodIn_of _ (by decide +kernel)) ggX7_held_X7_isLane
set_option maxRecDepth 20000 in
theorem ggX7_held_X7_refuses : GoodIn wsX7_held wsX7_refuses := goodIn_r _ [24, 25, 26, 103, 104, 105, 106, 107, 108, 109, 110, 111, 112, 113, 114, 115, 116, 117, 118, 119, 120, 121, 122, 123, 124, 125, 126, 127, 128, 129, 130, 131, 132, 133, 134, 135, 136, 137, 138, 139, 140, 141, 142, 143, 144] (by decide +kernel) (by decide +kernel)
set_option maxRecDepth 20000 in
theorem gX7_held_X7_refuses : GoodIn wsX7_held (wsV RX7 265 RX7 yX7_refuses wsX7_refuses) := goodIn_app (goodIn_of _ (by decide +kernel)) ggX7_held_X7_refuses
set_option maxRecDepth 20000 in
theorem ggX7_held_X7_isKnown : GoodIn wsX7_held wsX7_isKnown := goodIn_r _ [30, 31, 1, 32, 7, 33, 34, 35, 11, 36, 2, 37, 38, 39, 40, 41, 42, 43, 44, 45, 46, 47, 48, 49, 50, 51, 52, 53, 54, 55, 56, 57, 58, 59, 60, 61, 62, 63, 64, 65, 66, 67, 14, 15, 16, 68, 69, 70, 71, 72, 6, 73, 74, 75, 76, 103, 104, 105, 106, 107, 108, 109, 110, 111, 112, 113, 114, 115, 116, 117, 118, 119, 120, 121, 122, 123, 124, 125, 126, 127, 128, 129, 130, 131, 132, 133, 134, 135, 136, 137, 138, 139, 140, 141, 142, 143, 144] (by decide +kernel) (by decide +kernel)
set_option maxRecDepth 20000 in
theorem gX7_held_X7_isKnown : GoodIn wsX7_held (wsV RX7 269 RX7 yX7_isKnown wsX7_isKnown) := goodIn_app (goodIn_of _ (by decide +kernel)) ggX7_held_X7_isKnown
set_option maxRecDepth 20000 in
theorem ggX7_held_X7_asTold : GoodIn wsX7_held wsX7_asTold := goodIn_r _ [36, 31, 2, 37, 103, 104, 105, 106, 107, 108, 109, 110, 111, 112, 113, 114, 115, 116, 117, 118, 119, 120, 121, 122, 123, 124, 125, 126, 127, 128, 129, 130, 131, 132, 133, 134, 135, 136, 137, 138, 139, 140, 141, 142, 143, 144] (by decide +kernel) (by decide +kernel)
set_option maxRecDepth 20000 in
theorem gX7_held_X7_asTold : GoodIn wsX7_held (wsV RX7 187 RX7 yX7_asTold wsX7_asTold) := goodIn_app (goodIn_of _ (by decide +kernel)) ggX7_held_X7_asTold
set_option maxRecDepth 20000 in
theorem ggX7_held_X7_away : GoodIn wsX7_held wsX7_away := goodIn_r _ [76, 1, 103, 104, 105, 106, 107, 108, 109, 110, 111, 112, 113, 114, 115, 116, 117, 118, 119, 120, 121, 122, 123, 124, 125, 126, 127, 128, 129, 130, 131, 132, 133, 134, 135, 136, 137, 138, 139, 140, 141, 142, 143, 144] (by decide +kernel) (by decide +kernel)
set_option maxRecDepth 20000 in
theorem gX7_held_X7_away : GoodIn wsX7_held (wsV RX7 119 RX7 yX7_away wsX7_away) := goodIn_app (goodIn_of _ (by decide +kernel)) ggX7_held_X7_away
set_option maxRecDepth 20000 in
theorem ggX7_held_X7_ends : GoodIn wsX7_held wsX7_ends := goodIn_r _ [80, 8, 1, 32, 20, 56, 81, 82, 3, 83, 4, 84, 85, 86, 38, 39, 40, 11, 41, 42, 43, 44, 45, 46, 47, 48, 49, 50, 51, 52, 53, 54, 55, 57, 37, 58, 59, 60, 61, 62, 63, 64, 65, 66, 67, 14, 15, 16, 68, 69, 70, 71, 31, 2, 72, 6, 73, 74, 75, 76, 87, 88, 89, 90, 91, 92, 93, 94, 95, 96, 97, 98, 99, 100, 101, 102, 103, 104, 105, 106, 107, 108, 109, 110, 111, 112, 113, 114, 115, 116, 117, 118, 119, 120, 121, 122, 123, 124, 125, 126, 127, 128, 129, 130, 131, 132, 133, 134, 135, 136, 137, 138, 139, 140, 141, 142, 143, 144] (by decide +kernel) (by decide +kernel)
set_option maxRecDepth 20000 in
theorem gX7_held_X7_ends : GoodIn wsX7_held (wsV RX7 231 RX7 yX7_ends wsX7_ends) := goodIn_app (goodIn_of _ (by decide +kernel)) ggX7_held_X7_ends
theorem dX7_held_0 : decode cX7_held 0 = .ok (.iload_n 1, 1) := by decide +kernel
theorem dX7_held_1 : decode cX7_held 1 = .ok (.invokestatic 259, 3) := by decide +kernel
theorem dX7_held_4 : decode cX7_held 4 = .ok (.ifCond .eq 10, 3) := by decide +kernel
theorem dX7_held_7 : decode cX7_held 7 = .ok (.iload_n 2, 1) := by decide +kernel
theorem dX7_held_8 : decode cX7_held 8 = .ok (.invokestatic 262, 3) := by decide +kernel
theorem dX7_held_11 : decode cX7_held 11 = .ok (.ifCond .ne 5, 3) := by decide +kernel
theorem dX7_held_14 : decode cX7_held 14 = .ok (.iconst (-1), 1) := by decide +kernel
theorem dX7_held_15 : decode cX7_held 15 = .ok (.ireturn, 1) := by decide +kernel
theorem dX7_held_16 : decode cX7_held 16 = .ok (.aload_n 0, 1) := by decide +kernel
theorem dX7_held_17 : decode cX7_held 17 = .ok (.iload_n 1, 1) := by decide +kernel
theorem dX7_held_18 : decode cX7_held 18 = .ok (.iload_n 2, 1) := by decide +kernel
theorem dX7_held_19 : decode cX7_held 19 = .ok (.iload_n 3, 1) := by decide +kernel
theorem dX7_held_20 : decode cX7_held 20 = .ok (.aload_n 0, 1) := by decide +kernel
theorem dX7_held_21 : decode cX7_held 21 = .ok (.getfield 7, 3) := by decide +kernel
theorem dX7_held_24 : decode cX7_held 24 = .ok (.iconst 2, 1) := by decide +kernel
theorem dX7_held_25 : decode cX7_held 25 = .ok (.iaload, 1) := by decide +kernel
theorem dX7_held_26 : decode cX7_held 26 = .ok (.iconst 1, 1) := by decide +kernel
theorem dX7_held_27 : decode cX7_held 27 = .ok (.iadd, 1) := by decide +kernel
theorem dX7_held_28 : decode cX7_held 28 = .ok (.invokevirtual 265, 3) := by decide +kernel
theorem dX7_held_31 : decode cX7_held 31 = .ok (.istore 4, 2) := by decide +kernel
theorem dX7_held_33 : decode cX7_held 33 = .ok (.iload 4, 2) := by decide +kernel
theorem dX7_held_35 : decode cX7_held 35 = .ok (.ifCond .ge 6, 3) := by decide +kernel
theorem dX7_held_38 : decode cX7_held 38 = .ok (.iload 4, 2) := by decide +kernel
theorem dX7_held_40 : decode cX7_held 40 = .ok (.ireturn, 1) := by decide +kernel
theorem dX7_held_41 : decode cX7_held 41 = .ok (.bipush 16, 2) := by decide +kernel
theorem dX7_held_43 : decode cX7_held 43 = .ok (.iload_n 1, 1) := by decide +kernel
theorem dX7_held_44 : decode cX7_held 44 = .ok (.imul, 1) := by decide +kernel
theorem dX7_held_45 : decode cX7_held 45 = .ok (.iload_n 3, 1) := by decide +kernel
theorem dX7_held_46 : decode cX7_held 46 = .ok (.iadd, 1) := by decide +kernel
theorem dX7_held_47 : decode cX7_held 47 = .ok (.istore 5, 2) := by decide +kernel
theorem dX7_held_49 : decode cX7_held 49 = .ok (.aload_n 0, 1) := by decide +kernel
theorem dX7_held_50 : decode cX7_held 50 = .ok (.iload 5, 2) := by decide +kernel
theorem dX7_held_52 : decode cX7_held 52 = .ok (.invokevirtual 269, 3) := by decide +kernel
theorem dX7_held_55 : decode cX7_held 55 = .ok (.ifCond .ne 6, 3) := by decide +kernel
theorem dX7_held_58 : decode cX7_held 58 = .ok (.bipush (-2), 2) := by decide +kernel
theorem dX7_held_60 : decode cX7_held 60 = .ok (.ireturn, 1) := by decide +kernel
theorem dX7_held_61 : decode cX7_held 61 = .ok (.aload_n 0, 1) := by decide +kernel
theorem dX7_held_62 : decode cX7_held 62 = .ok (.invokevirtual 187, 3) := by decide +kernel
theorem dX7_held_65 : decode cX7_held 65 = .ok (.aload_n 0, 1) := by decide +kernel
theorem dX7_held_66 : decode cX7_held 66 = .ok (.iconst 1, 1) := by decide +kernel
theorem dX7_held_67 : decode cX7_held 67 = .ok (.putfield 170, 3) := by decide +kernel
theorem dX7_held_70 : decode cX7_held 70 = .ok (.aload_n 0, 1) := by decide +kernel
theorem dX7_held_71 : decode cX7_held 71 = .ok (.bipush 15, 2) := by decide +kernel
theorem dX7_held_73 : decode cX7_held 73 = .ok (.putfield 225, 3) := by decide +kernel
theorem dX7_held_76 : decode cX7_held 76 = .ok (.aload_n 0, 1) := by decide +kernel
theorem dX7_held_77 : decode cX7_held 77 = .ok (.iconst 1, 1) := by decide +kernel
theorem dX7_held_78 : decode cX7_held 78 = .ok (.putfield 228, 3) := by decide +kernel
theorem dX7_held_81 : decode cX7_held 81 = .ok (.iconst 1, 1) := by decide +kernel
theorem dX7_held_82 : decode cX7_held 82 = .ok (.istore 6, 2) := by decide +kernel
theorem dX7_held_84 : decode cX7_held 84 = .ok (.iload 6, 2) := by decide +kernel
theorem dX7_held_86 : decode cX7_held 86 = .ok (.bipush 7, 2) := by decide +kernel
theorem dX7_held_88 : decode cX7_held 88 = .ok (.if_icmp .ge 59, 3) := by decide +kernel
theorem dX7_held_91 : decode cX7_held 91 = .ok (.aload_n 0, 1) := by decide +kernel
theorem dX7_held_92 : decode cX7_held 92 = .ok (.getfield 80, 3) := by decide +kernel
theorem dX7_held_95 : decode cX7_held 95 = .ok (.iload 6, 2) := by decide +kernel
theorem dX7_held_97 : decode cX7_held 97 = .ok (.aload_n 0, 1) := by decide +kernel
theorem dX7_held_98 : decode cX7_held 98 = .ok (.getfield 13, 3) := by decide +kernel
theorem dX7_held_101 : decode cX7_held 101 = .ok (.iload 6, 2) := by decide +kernel
theorem dX7_held_103 : decode cX7_held 103 = .ok (.iaload, 1) := by decide +kernel
theorem dX7_held_104 : decode cX7_held 104 = .ok (.iastore, 1) := by decide +kernel
theorem dX7_held_105 : decode cX7_held 105 = .ok (.aload_n 0, 1) := by decide +kernel
theorem dX7_held_106 : decode cX7_held 106 = .ok (.getfield 13, 3) := by decide +kernel
theorem dX7_held_109 : decode cX7_held 109 = .ok (.iload 6, 2) := by decide +kernel
theorem dX7_held_111 : decode cX7_held 111 = .ok (.iload 6, 2) := by decide +kernel
theorem dX7_held_113 : decode cX7_held 113 = .ok (.aload_n 0, 1) := by decide +kernel
theorem dX7_held_114 : decode cX7_held 114 = .ok (.getfield 7, 3) := by decide +kernel
theorem dX7_held_117 : decode cX7_held 117 = .ok (.iconst 2, 1) := by decide +kernel
theorem dX7_held_118 : decode cX7_held 118 = .ok (.iaload, 1) := by decide +kernel
theorem dX7_held_119 : decode cX7_held 119 = .ok (.if_icmp .gt 20, 3) := by decide +kernel
theorem dX7_held_122 : decode cX7_held 122 = .ok (.aload_n 0, 1) := by decide +kernel
theorem dX7_held_123 : decode cX7_held 123 = .ok (.aload_n 0, 1) := by decide +kernel
theorem dX7_held_124 : decode cX7_held 124 = .ok (.getfield 92, 3) := by decide +kernel
theorem dX7_held_127 : decode cX7_held 127 = .ok (.iload 5, 2) := by decide +kernel
theorem dX7_held_129 : decode cX7_held 129 = .ok (.iload 6, 2) := by decide +kernel
theorem dX7_held_131 : decode cX7_held 131 = .ok (.iadd, 1) := by decide +kernel
theorem dX7_held_132 : decode cX7_held 132 = .ok (.iaload, 1) := by decide +kernel
theorem dX7_held_133 : decode cX7_held 133 = .ok (.invokevirtual 119, 3) := by decide +kernel
theorem dX7_held_136 : decode cX7_held 136 = .ok (.goto 4, 3) := by decide +kernel
theorem dX7_held_139 : decode cX7_held 139 = .ok (.iconst (-1), 1) := by decide +kernel
theorem dX7_held_140 : decode cX7_held 140 = .ok (.iastore, 1) := by decide +kernel
theorem dX7_held_141 : decode cX7_held 141 = .ok (.iinc 6 1, 3) := by decide +kernel
theorem dX7_held_144 : decode cX7_held 144 = .ok (.goto (-60), 3) := by decide +kernel
theorem dX7_held_147 : decode cX7_held 147 = .ok (.aload_n 0, 1) := by decide +kernel
theorem dX7_held_148 : decode cX7_held 148 = .ok (.invokevirtual 231, 3) := by decide +kernel
theorem dX7_held_151 : decode cX7_held 151 = .ok (.iconst 1, 1) := by decide +kernel
theorem dX7_held_152 : decode cX7_held 152 = .ok (.istore 6, 2) := by decide +kernel
theorem dX7_held_154 : decode cX7_held 154 = .ok (.iload 6, 2) := by decide +kernel
theorem dX7_held_156 : decode cX7_held 156 = .ok (.bipush 7, 2) := by decide +kernel
theorem dX7_held_158 : decode cX7_held 158 = .ok (.if_icmp .ge 23, 3) := by decide +kernel
theorem dX7_held_161 : decode cX7_held 161 = .ok (.aload_n 0, 1) := by decide +kernel
theorem dX7_held_162 : decode cX7_held 162 = .ok (.getfield 13, 3) := by decide +kernel
theorem dX7_held_165 : decode cX7_held 165 = .ok (.iload 6, 2) := by decide +kernel
theorem dX7_held_167 : decode cX7_held 167 = .ok (.aload_n 0, 1) := by decide +kernel
theorem dX7_held_168 : decode cX7_held 168 = .ok (.getfield 80, 3) := by decide +kernel
theorem dX7_held_171 : decode cX7_held 171 = .ok (.iload 6, 2) := by decide +kernel
theorem dX7_held_173 : decode cX7_held 173 = .ok (.iaload, 1) := by decide +kernel
theorem dX7_held_174 : decode cX7_held 174 = .ok (.iastore, 1) := by decide +kernel
theorem dX7_held_175 : decode cX7_held 175 = .ok (.iinc 6 1, 3) := by decide +kernel
theorem dX7_held_178 : decode cX7_held 178 = .ok (.goto (-24), 3) := by decide +kernel
theorem dX7_held_181 : decode cX7_held 181 = .ok (.iconst 0, 1) := by decide +kernel
theorem dX7_held_182 : decode cX7_held 182 = .ok (.istore 6, 2) := by decide +kernel
theorem dX7_held_184 : decode cX7_held 184 = .ok (.iconst 0, 1) := by decide +kernel
theorem dX7_held_185 : decode cX7_held 185 = .ok (.istore 7, 2) := by decide +kernel
theorem dX7_held_187 : decode cX7_held 187 = .ok (.iload 7, 2) := by decide +kernel
theorem dX7_held_189 : decode cX7_held 189 = .ok (.bipush 100, 2) := by decide +kernel
theorem dX7_held_191 : decode cX7_held 191 = .ok (.if_icmp .ge 49, 3) := by decide +kernel
theorem dX7_held_194 : decode cX7_held 194 = .ok (.iload 6, 2) := by decide +kernel
theorem dX7_held_196 : decode cX7_held 196 = .ok (.aload_n 0, 1) := by decide +kernel
theorem dX7_held_197 : decode cX7_held 197 = .ok (.getfield 73, 3) := by decide +kernel
theorem dX7_held_200 : decode cX7_held 200 = .ok (.iload 7, 2) := by decide +kernel
theorem dX7_held_202 : decode cX7_held 202 = .ok (.laload, 1) := by decide +kernel
theorem dX7_held_203 : decode cX7_held 203 = .ok (.aload_n 0, 1) := by decide +kernel
theorem dX7_held_204 : decode cX7_held 204 = .ok (.getfield 73, 3) := by decide +kernel
theorem dX7_held_207 : decode cX7_held 207 = .ok (.aload_n 0, 1) := by decide +kernel
theorem dX7_held_208 : decode cX7_held 208 = .ok (.getfield 92, 3) := by decide +kernel
theorem dX7_held_211 : decode cX7_held 211 = .ok (.iload 5, 2) := by decide +kernel
theorem dX7_held_213 : decode cX7_held 213 = .ok (.aload_n 0, 1) := by decide +kernel
theorem dX7_held_214 : decode cX7_held 214 = .ok (.getfield 7, 3) := by decide +kernel
theorem dX7_held_217 : decode cX7_held 217 = .ok (.iconst 2, 1) := by decide +kernel
theorem dX7_held_218 : decode cX7_held 218 = .ok (.iaload, 1) := by decide +kernel
theorem dX7_held_219 : decode cX7_held 219 = .ok (.iadd, 1) := by decide +kernel
theorem dX7_held_220 : decode cX7_held 220 = .ok (.iaload, 1) := by decide +kernel
theorem dX7_held_221 : decode cX7_held 221 = .ok (.laload, 1) := by decide +kernel
theorem dX7_held_222 : decode cX7_held 222 = .ok (.lcmp, 1) := by decide +kernel
theorem dX7_held_223 : decode cX7_held 223 = .ok (.ifCond .le 7, 3) := by decide +kernel
theorem dX7_held_226 : decode cX7_held 226 = .ok (.iconst 1, 1) := by decide +kernel
theorem dX7_held_227 : decode cX7_held 227 = .ok (.goto 4, 3) := by decide +kernel
theorem dX7_held_230 : decode cX7_held 230 = .ok (.iconst 0, 1) := by decide +kernel
theorem dX7_held_231 : decode cX7_held 231 = .ok (.iadd, 1) := by decide +kernel
theorem dX7_held_232 : decode cX7_held 232 = .ok (.istore 6, 2) := by decide +kernel
theorem dX7_held_234 : decode cX7_held 234 = .ok (.iinc 7 1, 3) := by decide +kernel
theorem dX7_held_237 : decode cX7_held 237 = .ok (.goto (-50), 3) := by decide +kernel
theorem dX7_held_240 : decode cX7_held 240 = .ok (.iload 6, 2) := by decide +kernel
theorem dX7_held_242 : decode cX7_held 242 = .ok (.ireturn, 1) := by decide +kernel
theorem dX7_saves_0 : decode cX7_saves 0 = .ok (.iconst 0, 1) := by decide +kernel
theorem dX7_saves_1 : decode cX7_saves 1 = .ok (.istore_n 3, 1) := by decide +kernel
theorem dX7_saves_2 : decode cX7_saves 2 = .ok (.iload_n 3, 1) := by decide +kernel
theorem dX7_saves_3 : decode cX7_saves 3 = .ok (.aload_n 0, 1) := by decide +kernel
theorem dX7_saves_4 : decode cX7_saves 4 = .ok (.arraylength, 1) := by decide +kernel
theorem dX7_saves_5 : decode cX7_saves 5 = .ok (.if_icmp .ge 17, 3) := by decide +kernel
theorem dX7_saves_8 : decode cX7_saves 8 = .ok (.aload_n 1, 1) := by decide +kernel
theorem dX7_saves_9 : decode cX7_saves 9 = .ok (.iload_n 2, 1) := by decide +kernel
theorem dX7_saves_10 : decode cX7_saves 10 = .ok (.iload_n 3, 1) := by decide +kernel
theorem dX7_saves_11 : decode cX7_saves 11 = .ok (.iadd, 1) := by decide +kernel
theorem dX7_saves_12 : decode cX7_saves 12 = .ok (.aload_n 0, 1) := by decide +kernel
theorem dX7_saves_13 : decode cX7_saves 13 = .ok (.iload_n 3, 1) := by decide +kernel
theorem dX7_saves_14 : decode cX7_saves 14 = .ok (.iaload, 1) := by decide +kernel
theorem dX7_saves_15 : decode cX7_saves 15 = .ok (.iastore, 1) := by decide +kernel
theorem dX7_saves_16 : decode cX7_saves 16 = .ok (.iinc 3 1, 3) := by decide +kernel
theorem dX7_saves_19 : decode cX7_saves 19 = .ok (.goto (-17), 3) := by decide +kernel
theorem dX7_saves_22 : decode cX7_saves 22 = .ok (.iload_n 2, 1) := by decide +kernel
theorem dX7_saves_23 : decode cX7_saves 23 = .ok (.aload_n 0, 1) := by decide +kernel
theorem dX7_saves_24 : decode cX7_saves 24 = .ok (.arraylength, 1) := by decide +kernel
theorem dX7_saves_25 : decode cX7_saves 25 = .ok (.iadd, 1) := by decide +kernel
theorem dX7_saves_26 : decode cX7_saves 26 = .ok (.ireturn, 1) := by decide +kernel
theorem dX7_gives_0 : decode cX7_gives 0 = .ok (.iconst 0, 1) := by decide +kernel
theorem dX7_gives_1 : decode cX7_gives 1 = .ok (.istore_n 3, 1) := by decide +kernel
theorem dX7_gives_2 : decode cX7_gives 2 = .ok (.iload_n 3, 1) := by decide +kernel
theorem dX7_gives_3 : decode cX7_gives 3 = .ok (.aload_n 2, 1) := by decide +kernel
theorem dX7_gives_4 : decode cX7_gives 4 = .ok (.arraylength, 1) := by decide +kernel
theorem dX7_gives_5 : decode cX7_gives 5 = .ok (.if_icmp .ge 17, 3) := by decide +kernel
theorem dX7_gives_8 : decode cX7_gives 8 = .ok (.aload_n 2, 1) := by decide +kernel
theorem dX7_gives_9 : decode cX7_gives 9 = .ok (.iload_n 3, 1) := by decide +kernel
theorem dX7_gives_10 : decode cX7_gives 10 = .ok (.aload_n 0, 1) := by decide +kernel
theorem dX7_gives_11 : decode cX7_gives 11 = .ok (.iload_n 1, 1) := by decide +kernel
theorem dX7_gives_12 : decode cX7_gives 12 = .ok (.iload_n 3, 1) := by decide +kernel
theorem dX7_gives_13 : decode cX7_gives 13 = .ok (.iadd, 1) := by decide +kernel
theorem dX7_gives_14 : decode cX7_gives 14 = .ok (.iaload, 1) := by decide +kernel
theorem dX7_gives_15 : decode cX7_gives 15 = .ok (.iastore, 1) := by decide +kernel
theorem dX7_gives_16 : decode cX7_gives 16 = .ok (.iinc 3 1, 3) := by decide +kernel
theorem dX7_gives_19 : decode cX7_gives 19 = .ok (.goto (-17), 3) := by decide +kernel
theorem dX7_gives_22 : decode cX7_gives 22 = .ok (.iload_n 1, 1) := by decide +kernel
theorem dX7_gives_23 : decode cX7_gives 23 = .ok (.aload_n 2, 1) := by decide +kernel
theorem dX7_gives_24 : decode cX7_gives 24 = .ok (.arraylength, 1) := by decide +kernel
theorem dX7_gives_25 : decode cX7_gives 25 = .ok (.iadd, 1) := by decide +kernel
theorem dX7_gives_26 : decode cX7_gives 26 = .ok (.ireturn, 1) := by decide +kernel
set_option maxRecDepth 20000 in
theorem ggX7_image_X7_saves : GoodIn wsX7_image wsX7_saves := goodIn_r _ [17] (by decide +kernel) (by decide +kernel)
set_option maxRecDepth 20000 in
theorem gX7_image_X7_saves : GoodIn wsX7_image (va_wsS RX7 272 yX7_saves wsX7_saves) := goodIn_app (goodIn_of _ (by decide +kernel)) ggX7_image_X7_saves
theorem dX7_image_0 : decode cX7_image 0 = .ok (.aload_n 0, 1) := by decide +kernel
theorem dX7_image_1 : decode cX7_image 1 = .ok (.getfield 7, 3) := by decide +kernel
theorem dX7_image_4 : decode cX7_image 4 = .ok (.aload_n 0, 1) := by decide +kernel
theorem dX7_image_5 : decode cX7_image 5 = .ok (.getfield 83, 3) := by decide +kernel
theorem dX7_image_8 : decode cX7_image 8 = .ok (.iconst 0, 1) := by decide +kernel
theorem dX7_image_9 : decode cX7_image 9 = .ok (.invokestatic 272, 3) := by decide +kernel
theorem dX7_image_12 : decode cX7_image 12 = .ok (.istore_n 1, 1) := by decide +kernel
theorem dX7_image_13 : decode cX7_image 13 = .ok (.aload_n 0, 1) := by decide +kernel
theorem dX7_image_14 : decode cX7_image 14 = .ok (.getfield 13, 3) := by decide +kernel
theorem dX7_image_17 : decode cX7_image 17 = .ok (.aload_n 0, 1) := by decide +kernel
theorem dX7_image_18 : decode cX7_image 18 = .ok (.getfield 83, 3) := by decide +kernel
theorem dX7_image_21 : decode cX7_image 21 = .ok (.iload_n 1, 1) := by decide +kernel
theorem dX7_image_22 : decode cX7_image 22 = .ok (.invokestatic 272, 3) := by decide +kernel
theorem dX7_image_25 : decode cX7_image 25 = .ok (.istore_n 1, 1) := by decide +kernel
theorem dX7_image_26 : decode cX7_image 26 = .ok (.aload_n 0, 1) := by decide +kernel
theorem dX7_image_27 : decode cX7_image 27 = .ok (.getfield 16, 3) := by decide +kernel
theorem dX7_image_30 : decode cX7_image 30 = .ok (.aload_n 0, 1) := by decide +kernel
theorem dX7_image_31 : decode cX7_image 31 = .ok (.getfield 83, 3) := by decide +kernel
theorem dX7_image_34 : decode cX7_image 34 = .ok (.iload_n 1, 1) := by decide +kernel
theorem dX7_image_35 : decode cX7_image 35 = .ok (.invokestatic 272, 3) := by decide +kernel
theorem dX7_image_38 : decode cX7_image 38 = .ok (.istore_n 1, 1) := by decide +kernel
theorem dX7_image_39 : decode cX7_image 39 = .ok (.aload_n 0, 1) := by decide +kernel
theorem dX7_image_40 : decode cX7_image 40 = .ok (.getfield 19, 3) := by decide +kernel
theorem dX7_image_43 : decode cX7_image 43 = .ok (.aload_n 0, 1) := by decide +kernel
theorem dX7_image_44 : decode cX7_image 44 = .ok (.getfield 83, 3) := by decide +kernel
theorem dX7_image_47 : decode cX7_image 47 = .ok (.iload_n 1, 1) := by decide +kernel
theorem dX7_image_48 : decode cX7_image 48 = .ok (.invokestatic 272, 3) := by decide +kernel
theorem dX7_image_51 : decode cX7_image 51 = .ok (.istore_n 1, 1) := by decide +kernel
theorem dX7_image_52 : decode cX7_image 52 = .ok (.aload_n 0, 1) := by decide +kernel
theorem dX7_image_53 : decode cX7_image 53 = .ok (.getfield 22, 3) := by decide +kernel
theorem dX7_image_56 : decode cX7_image 56 = .ok (.aload_n 0, 1) := by decide +kernel
theorem dX7_image_57 : decode cX7_image 57 = .ok (.getfield 83, 3) := by decide +kernel
theorem dX7_image_60 : decode cX7_image 60 = .ok (.iload_n 1, 1) := by decide +kernel
theorem dX7_image_61 : decode cX7_image 61 = .ok (.invokestatic 272, 3) := by decide +kernel
theorem dX7_image_64 : decode cX7_image 64 = .ok (.istore_n 1, 1) := by decide +kernel
theorem dX7_image_65 : decode cX7_image 65 = .ok (.aload_n 0, 1) := by decide +kernel
theorem dX7_image_66 : decode cX7_image 66 = .ok (.getfield 25, 3) := by decide +kernel
theorem dX7_image_69 : decode cX7_image 69 = .ok (.aload_n 0, 1) := by decide +kernel
theorem dX7_image_70 : decode cX7_image 70 = .ok (.getfield 83, 3) := by decide +kernel
theorem dX7_image_73 : decode cX7_image 73 = .ok (.iload_n 1, 1) := by decide +kernel
theorem dX7_image_74 : decode cX7_image 74 = .ok (.invokestatic 272, 3) := by decide +kernel
theorem dX7_image_77 : decode cX7_image 77 = .ok (.istore_n 1, 1) := by decide +kernel
theorem dX7_image_78 : decode cX7_image 78 = .ok (.aload_n 0, 1) := by decide +kernel
theorem dX7_image_79 : decode cX7_image 79 = .ok (.getfield 64, 3) := by decide +kernel
theorem dX7_image_82 : decode cX7_image 82 = .ok (.aload_n 0, 1) := by decide +kernel
theorem dX7_image_83 : decode cX7_image 83 = .ok (.getfield 83, 3) := by decide +kernel
theorem dX7_image_86 : decode cX7_image 86 = .ok (.iload_n 1, 1) := by decide +kernel
theorem dX7_image_87 : decode cX7_image 87 = .ok (.invokestatic 272, 3) := by decide +kernel
theorem dX7_image_90 : decode cX7_image 90 = .ok (.istore_n 1, 1) := by decide +kernel
theorem dX7_image_91 : decode cX7_image 91 = .ok (.aload_n 0, 1) := by decide +kernel
theorem dX7_image_92 : decode cX7_image 92 = .ok (.getfield 67, 3) := by decide +kernel
theorem dX7_image_95 : decode cX7_image 95 = .ok (.aload_n 0, 1) := by decide +kernel
theorem dX7_image_96 : decode cX7_image 96 = .ok (.getfield 83, 3) := by decide +kernel
theorem dX7_image_99 : decode cX7_image 99 = .ok (.iload_n 1, 1) := by decide +kernel
theorem dX7_image_100 : decode cX7_image 100 = .ok (.invokestatic 272, 3) := by decide +kernel
theorem dX7_image_103 : decode cX7_image 103 = .ok (.istore_n 1, 1) := by decide +kernel
theorem dX7_image_104 : decode cX7_image 104 = .ok (.aload_n 0, 1) := by decide +kernel
theorem dX7_image_105 : decode cX7_image 105 = .ok (.getfield 70, 3) := by decide +kernel
theorem dX7_image_108 : decode cX7_image 108 = .ok (.aload_n 0, 1) := by decide +kernel
theorem dX7_image_109 : decode cX7_image 109 = .ok (.getfield 83, 3) := by decide +kernel
theorem dX7_image_112 : decode cX7_image 112 = .ok (.iload_n 1, 1) := by decide +kernel
theorem dX7_image_113 : decode cX7_image 113 = .ok (.invokestatic 272, 3) := by decide +kernel
theorem dX7_image_116 : decode cX7_image 116 = .ok (.istore_n 1, 1) := by decide +kernel
theorem dX7_image_117 : decode cX7_image 117 = .ok (.aload_n 0, 1) := by decide +kernel
theorem dX7_image_118 : decode cX7_image 118 = .ok (.getfield 83, 3) := by decide +kernel
theorem dX7_image_121 : decode cX7_image 121 = .ok (.iload_n 1, 1) := by decide +kernel
theorem dX7_image_122 : decode cX7_image 122 = .ok (.aload_n 0, 1) := by decide +kernel
theorem dX7_image_123 : decode cX7_image 123 = .ok (.getfield 206, 3) := by decide +kernel
theorem dX7_image_126 : decode cX7_image 126 = .ok (.iastore, 1) := by decide +kernel
theorem dX7_image_127 : decode cX7_image 127 = .ok (.aload_n 0, 1) := by decide +kernel
theorem dX7_image_128 : decode cX7_image 128 = .ok (.getfield 83, 3) := by decide +kernel
theorem dX7_image_131 : decode cX7_image 131 = .ok (.iload_n 1, 1) := by decide +kernel
theorem dX7_image_132 : decode cX7_image 132 = .ok (.iconst 1, 1) := by decide +kernel
theorem dX7_image_133 : decode cX7_image 133 = .ok (.iadd, 1) := by decide +kernel
theorem dX7_image_134 : decode cX7_image 134 = .ok (.aload_n 0, 1) := by decide +kernel
theorem dX7_image_135 : decode cX7_image 135 = .ok (.getfield 218, 3) := by decide +kernel
theorem dX7_image_138 : decode cX7_image 138 = .ok (.iastore, 1) := by decide +kernel
theorem dX7_image_139 : decode cX7_image 139 = .ok (.aload_n 0, 1) := by decide +kernel
theorem dX7_image_140 : decode cX7_image 140 = .ok (.iconst 1, 1) := by decide +kernel
theorem dX7_image_141 : decode cX7_image 141 = .ok (.putfield 276, 3) := by decide +kernel
theorem dX7_image_144 : decode cX7_image 144 = .ok (.iconst 1, 1) := by decide +kernel
theorem dX7_image_145 : decode cX7_image 145 = .ok (.ireturn, 1) := by decide +kernel
set_option maxRecDepth 20000 in
theorem ggX7_restore_X7_gives : GoodIn wsX7_restore wsX7_gives := goodIn_r _ [17] (by decide +kernel) (by decide +kernel)
set_option maxRecDepth 20000 in
theorem gX7_restore_X7_gives : GoodIn wsX7_restore (va_wsS RX7 279 yX7_gives wsX7_gives) := goodIn_app (goodIn_of _ (by decide +kernel)) ggX7_restore_X7_gives
theorem dX7_restore_0 : decode cX7_restore 0 = .ok (.aload_n 0, 1) := by decide +kernel
theorem dX7_restore_1 : decode cX7_restore 1 = .ok (.getfield 276, 3) := by decide +kernel
theorem dX7_restore_4 : decode cX7_restore 4 = .ok (.ifCond .ne 6, 3) := by decide +kernel
theorem dX7_restore_7 : decode cX7_restore 7 = .ok (.bipush (-4), 2) := by decide +kernel
theorem dX7_restore_9 : decode cX7_restore 9 = .ok (.ireturn, 1) := by decide +kernel
theorem dX7_restore_10 : decode cX7_restore 10 = .ok (.aload_n 0, 1) := by decide +kernel
theorem dX7_restore_11 : decode cX7_restore 11 = .ok (.getfield 83, 3) := by decide +kernel
theorem dX7_restore_14 : decode cX7_restore 14 = .ok (.iconst 0, 1) := by decide +kernel
theorem dX7_restore_15 : decode cX7_restore 15 = .ok (.aload_n 0, 1) := by decide +kernel
theorem dX7_restore_16 : decode cX7_restore 16 = .ok (.getfield 7, 3) := by decide +kernel
theorem dX7_restore_19 : decode cX7_restore 19 = .ok (.invokestatic 279, 3) := by decide +kernel
theorem dX7_restore_22 : decode cX7_restore 22 = .ok (.istore_n 1, 1) := by decide +kernel
theorem dX7_restore_23 : decode cX7_restore 23 = .ok (.aload_n 0, 1) := by decide +kernel
theorem dX7_restore_24 : decode cX7_restore 24 = .ok (.getfield 83, 3) := by decide +kernel
theorem dX7_restore_27 : decode cX7_restore 27 = .ok (.iload_n 1, 1) := by decide +kernel
theorem dX7_restore_28 : decode cX7_restore 28 = .ok (.aload_n 0, 1) := by decide +kernel
theorem dX7_restore_29 : decode cX7_restore 29 = .ok (.getfield 13, 3) := by decide +kernel
theorem dX7_restore_32 : decode cX7_restore 32 = .ok (.invokestatic 279, 3) := by decide +kernel
theorem dX7_restore_35 : decode cX7_restore 35 = .ok (.istore_n 1, 1) := by decide +kernel
theorem dX7_restore_36 : decode cX7_restore 36 = .ok (.aload_n 0, 1) := by decide +kernel
theorem dX7_restore_37 : decode cX7_restore 37 = .ok (.getfield 83, 3) := by decide +kernel
theorem dX7_restore_40 : decode cX7_restore 40 = .ok (.iload_n 1, 1) := by decide +kernel
theorem dX7_restore_41 : decode cX7_restore 41 = .ok (.aload_n 0, 1) := by decide +kernel
theorem dX7_restore_42 : decode cX7_restore 42 = .ok (.getfield 16, 3) := by decide +kernel
theorem dX7_restore_45 : decode cX7_restore 45 = .ok (.invokestatic 279, 3) := by decide +kernel
theorem dX7_restore_48 : decode cX7_restore 48 = .ok (.istore_n 1, 1) := by decide +kernel
theorem dX7_restore_49 : decode cX7_restore 49 = .ok (.aload_n 0, 1) := by decide +kernel
theorem dX7_restore_50 : decode cX7_restore 50 = .ok (.getfield 83, 3) := by decide +kernel
theorem dX7_restore_53 : decode cX7_restore 53 = .ok (.iload_n 1, 1) := by decide +kernel
theorem dX7_restore_54 : decode cX7_restore 54 = .ok (.aload_n 0, 1) := by decide +kernel
theorem dX7_restore_55 : decode cX7_restore 55 = .ok (.getfield 19, 3) := by decide +kernel
theorem dX7_restore_58 : decode cX7_restore 58 = .ok (.invokestatic 279, 3) := by decide +kernel
theorem dX7_restore_61 : decode cX7_restore 61 = .ok (.istore_n 1, 1) := by decide +kernel
theorem dX7_restore_62 : decode cX7_restore 62 = .ok (.aload_n 0, 1) := by decide +kernel
theorem dX7_restore_63 : decode cX7_restore 63 = .ok (.getfield 83, 3) := by decide +kernel
theorem dX7_restore_66 : decode cX7_restore 66 = .ok (.iload_n 1, 1) := by decide +kernel
theorem dX7_restore_67 : decode cX7_restore 67 = .ok (.aload_n 0, 1) := by decide +kernel
theorem dX7_restore_68 : decode cX7_restore 68 = .ok (.getfield 22, 3) := by decide +kernel
theorem dX7_restore_71 : decode cX7_restore 71 = .ok (.invokestatic 279, 3) := by decide +kernel
theorem dX7_restore_74 : decode cX7_restore 74 = .ok (.istore_n 1, 1) := by decide +kernel
theorem dX7_restore_75 : decode cX7_restore 75 = .ok (.aload_n 0, 1) := by decide +kernel
theorem dX7_restore_76 : decode cX7_restore 76 = .ok (.getfield 83, 3) := by decide +kernel
theorem dX7_restore_79 : decode cX7_restore 79 = .ok (.iload_n 1, 1) := by decide +kernel
theorem dX7_restore_80 : decode cX7_restore 80 = .ok (.aload_n 0, 1) := by decide +kernel
theorem dX7_restore_81 : decode cX7_restore 81 = .ok (.getfield 25, 3) := by decide +kernel
theorem dX7_restore_84 : decode cX7_restore 84 = .ok (.invokestatic 279, 3) := by decide +kernel
theorem dX7_restore_87 : decode cX7_restore 87 = .ok (.istore_n 1, 1) := by decide +kernel
theorem dX7_restore_88 : decode cX7_restore 88 = .ok (.aload_n 0, 1) := by decide +kernel
theorem dX7_restore_89 : decode cX7_restore 89 = .ok (.getfield 83, 3) := by decide +kernel
theorem dX7_restore_92 : decode cX7_restore 92 = .ok (.iload_n 1, 1) := by decide +kernel
theorem dX7_restore_93 : decode cX7_restore 93 = .ok (.aload_n 0, 1) := by decide +kernel
theorem dX7_restore_94 : decode cX7_restore 94 = .ok (.getfield 64, 3) := by decide +kernel
theorem dX7_restore_97 : decode cX7_restore 97 = .ok (.invokestatic 279, 3) := by decide +kernel
theorem dX7_restore_100 : decode cX7_restore 100 = .ok (.istore_n 1, 1) := by decide +kernel
theorem dX7_restore_101 : decode cX7_restore 101 = .ok (.aload_n 0, 1) := by decide +kernel
theorem dX7_restore_102 : decode cX7_restore 102 = .ok (.getfield 83, 3) := by decide +kernel
theorem dX7_restore_105 : decode cX7_restore 105 = .ok (.iload_n 1, 1) := by decide +kernel
theorem dX7_restore_106 : decode cX7_restore 106 = .ok (.aload_n 0, 1) := by decide +kernel
theorem dX7_restore_107 : decode cX7_restore 107 = .ok (.getfield 67, 3) := by decide +kernel
theorem dX7_restore_110 : decode cX7_restore 110 = .ok (.invokestatic 279, 3) := by decide +kernel
theorem dX7_restore_113 : decode cX7_restore 113 = .ok (.istore_n 1, 1) := by decide +kernel
theorem dX7_restore_114 : decode cX7_restore 114 = .ok (.aload_n 0, 1) := by decide +kernel
theorem dX7_restore_115 : decode cX7_restore 115 = .ok (.getfield 83, 3) := by decide +kernel
theorem dX7_restore_118 : decode cX7_restore 118 = .ok (.iload_n 1, 1) := by decide +kernel
theorem dX7_restore_119 : decode cX7_restore 119 = .ok (.aload_n 0, 1) := by decide +kernel
theorem dX7_restore_120 : decode cX7_restore 120 = .ok (.getfield 70, 3) := by decide +kernel
theorem dX7_restore_123 : decode cX7_restore 123 = .ok (.invokestatic 279, 3) := by decide +kernel
theorem dX7_restore_126 : decode cX7_restore 126 = .ok (.istore_n 1, 1) := by decide +kernel
theorem dX7_restore_127 : decode cX7_restore 127 = .ok (.aload_n 0, 1) := by decide +kernel
theorem dX7_restore_128 : decode cX7_restore 128 = .ok (.aload_n 0, 1) := by decide +kernel
theorem dX7_restore_129 : decode cX7_restore 129 = .ok (.getfield 83, 3) := by decide +kernel
theorem dX7_restore_132 : decode cX7_restore 132 = .ok (.iload_n 1, 1) := by decide +kernel
theorem dX7_restore_133 : decode cX7_restore 133 = .ok (.iaload, 1) := by decide +kernel
theorem dX7_restore_134 : decode cX7_restore 134 = .ok (.putfield 206, 3) := by decide +kernel
theorem dX7_restore_137 : decode cX7_restore 137 = .ok (.aload_n 0, 1) := by decide +kernel
theorem dX7_restore_138 : decode cX7_restore 138 = .ok (.aload_n 0, 1) := by decide +kernel
theorem dX7_restore_139 : decode cX7_restore 139 = .ok (.getfield 83, 3) := by decide +kernel
theorem dX7_restore_142 : decode cX7_restore 142 = .ok (.iload_n 1, 1) := by decide +kernel
theorem dX7_restore_143 : decode cX7_restore 143 = .ok (.iconst 1, 1) := by decide +kernel
theorem dX7_restore_144 : decode cX7_restore 144 = .ok (.iadd, 1) := by decide +kernel
theorem dX7_restore_145 : decode cX7_restore 145 = .ok (.iaload, 1) := by decide +kernel
theorem dX7_restore_146 : decode cX7_restore 146 = .ok (.putfield 218, 3) := by decide +kernel
theorem dX7_restore_149 : decode cX7_restore 149 = .ok (.iconst 1, 1) := by decide +kernel
theorem dX7_restore_150 : decode cX7_restore 150 = .ok (.ireturn, 1) := by decide +kernel
