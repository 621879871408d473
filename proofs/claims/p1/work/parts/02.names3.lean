theorem dX6_where_25 : decode cX6_where 25 = .ok (.iload 4, 2) := by decide +kernel
theorem dX6_where_27 : decode cX6_where 27 = .ok (.bipush 10, 2) := by decide +kernel
theorem dX6_where_29 : decode cX6_where 29 = .ok (.if_icmp .ge 30, 3) := by decide +kernel
theorem dX6_where_32 : decode cX6_where 32 = .ok (.aload_n 2, 1) := by decide +kernel
theorem dX6_where_33 : decode cX6_where 33 = .ok (.bipush 10, 2) := by decide +kernel
theorem dX6_where_35 : decode cX6_where 35 = .ok (.iload_n 1, 1) := by decide +kernel
theorem dX6_where_36 : decode cX6_where 36 = .ok (.imul, 1) := by decide +kernel
theorem dX6_where_37 : decode cX6_where 37 = .ok (.iload 4, 2) := by decide +kernel
theorem dX6_where_39 : decode cX6_where 39 = .ok (.iadd, 1) := by decide +kernel
theorem dX6_where_40 : decode cX6_where 40 = .ok (.laload, 1) := by decide +kernel
theorem dX6_where_41 : decode cX6_where 41 = .ok (.lconst 0, 1) := by decide +kernel
theorem dX6_where_42 : decode cX6_where 42 = .ok (.lcmp, 1) := by decide +kernel
theorem dX6_where_43 : decode cX6_where 43 = .ok (.ifCond .le 10, 3) := by decide +kernel
theorem dX6_where_46 : decode cX6_where 46 = .ok (.iload_n 3, 1) := by decide +kernel
theorem dX6_where_47 : decode cX6_where 47 = .ok (.iconst 1, 1) := by decide +kernel
theorem dX6_where_48 : decode cX6_where 48 = .ok (.iload 4, 2) := by decide +kernel
theorem dX6_where_50 : decode cX6_where 50 = .ok (.ishl, 1) := by decide +kernel
theorem dX6_where_51 : decode cX6_where 51 = .ok (.ior, 1) := by decide +kernel
theorem dX6_where_52 : decode cX6_where 52 = .ok (.istore_n 3, 1) := by decide +kernel
theorem dX6_where_53 : decode cX6_where 53 = .ok (.iinc 4 1, 3) := by decide +kernel
theorem dX6_where_56 : decode cX6_where 56 = .ok (.goto (-31), 3) := by decide +kernel
theorem dX6_where_59 : decode cX6_where 59 = .ok (.iload_n 3, 1) := by decide +kernel
theorem dX6_where_60 : decode cX6_where 60 = .ok (.ireturn, 1) := by decide +kernel
set_option maxRecDepth 20000 in
theorem ggX6_count_X6_howManyAbove : GoodIn wsX6_count wsX6_howManyAbove := goodIn_r _ [10] (by decide +kernel) (by decide +kernel)
set_option maxRecDepth 20000 in
theorem gX6_count_X6_howManyAbove : GoodIn wsX6_count (va_wsS RX6 219 yX6_howManyAbove wsX6_howManyAbove) := goodIn_app (goodIn_of _ (by decide +kernel)) ggX6_count_X6_howManyAbove
set_option maxRecDepth 20000 in
theorem ggX6_count_X6_weighed : GoodIn wsX6_count wsX6_weighed := goodIn_r _ [14, 15, 16, 17, 18, 19, 20, 9, 21, 22, 23, 1, 24, 25, 26, 27, 28, 29, 30, 31, 32, 33, 34, 35, 36, 37, 38, 39, 40, 41, 42, 43, 44, 45, 46, 47, 48, 49, 50, 51, 52, 53, 54, 55, 56, 57, 58, 59, 60, 61, 62, 63, 64, 65, 66, 67, 68, 69, 70, 71, 72, 73, 74, 75, 76, 77, 78, 79, 80, 81, 82, 83, 84, 85, 86, 87, 88, 89, 90, 91, 92, 93, 94, 95, 96, 97, 98, 99, 100, 101, 102, 103, 104, 105, 106, 107, 108, 109, 110, 111, 112, 113, 114, 115, 116, 117, 118, 119, 120, 121, 122, 123, 124, 125, 126, 127, 128, 129, 130, 131, 132, 133, 134, 135, 136, 137, 138, 139, 140, 141, 142, 143, 144, 145, 146, 147, 148, 149, 150, 154, 155, 156, 157, 158, 159, 160, 161, 162, 163, 164, 165, 186, 187, 188, 189, 190, 191, 192, 193, 194, 195, 196, 197, 198, 199, 200, 201, 202, 203, 204, 205, 166, 167, 168, 169, 170, 171, 172, 173, 174, 175, 176, 177, 178, 179, 180, 181, 182, 183, 184, 185, 206, 207] (by decide +kernel) (by decide +kernel)
set_option maxRecDepth 20000 in
theorem gX6_count_X6_weighed : GoodIn wsX6_count (wsV RX6 204 RX6 yX6_weighed wsX6_weighed) := goodIn_app (goodIn_of _ (by decide +kernel)) ggX6_count_X6_weighed
set_option maxRecDepth 20000 in
theorem ggX6_count_X6_howManyGreater : GoodIn wsX6_count wsX6_howManyGreater := goodIn_r _ [153] (by decide +kernel) (by decide +kernel)
set_option maxRecDepth 20000 in
theorem gX6_count_X6_howManyGreater : GoodIn wsX6_count (va_wsS RX6 222 yX6_howManyGreater wsX6_howManyGreater) := goodIn_app (goodIn_of _ (by decide +kernel)) ggX6_count_X6_howManyGreater
theorem dX6_count_0 : decode cX6_count 0 = .ok (.iload_n 1, 1) := by decide +kernel
theorem dX6_count_1 : decode cX6_count 1 = .ok (.tableswitch 87 0 4 #[35, 47, 59, 67, 75], 35) := by decide +kernel
theorem dX6_count_36 : decode cX6_count 36 = .ok (.aload_n 0, 1) := by decide +kernel
theorem dX6_count_37 : decode cX6_count 37 = .ok (.getfield 10, 3) := by decide +kernel
theorem dX6_count_40 : decode cX6_count 40 = .ok (.getfield 104, 3) := by decide +kernel
theorem dX6_count_43 : decode cX6_count 43 = .ok (.iconst (-1), 1) := by decide +kernel
theorem dX6_count_44 : decode cX6_count 44 = .ok (.invokestatic 219, 3) := by decide +kernel
theorem dX6_count_47 : decode cX6_count 47 = .ok (.ireturn, 1) := by decide +kernel
theorem dX6_count_48 : decode cX6_count 48 = .ok (.aload_n 0, 1) := by decide +kernel
theorem dX6_count_49 : decode cX6_count 49 = .ok (.getfield 10, 3) := by decide +kernel
theorem dX6_count_52 : decode cX6_count 52 = .ok (.getfield 107, 3) := by decide +kernel
theorem dX6_count_55 : decode cX6_count 55 = .ok (.iconst 0, 1) := by decide +kernel
theorem dX6_count_56 : decode cX6_count 56 = .ok (.invokestatic 219, 3) := by decide +kernel
theorem dX6_count_59 : decode cX6_count 59 = .ok (.ireturn, 1) := by decide +kernel
theorem dX6_count_60 : decode cX6_count 60 = .ok (.aload_n 0, 1) := by decide +kernel
theorem dX6_count_61 : decode cX6_count 61 = .ok (.getfield 10, 3) := by decide +kernel
theorem dX6_count_64 : decode cX6_count 64 = .ok (.getfield 164, 3) := by decide +kernel
theorem dX6_count_67 : decode cX6_count 67 = .ok (.ireturn, 1) := by decide +kernel
theorem dX6_count_68 : decode cX6_count 68 = .ok (.aload_n 0, 1) := by decide +kernel
theorem dX6_count_69 : decode cX6_count 69 = .ok (.getfield 10, 3) := by decide +kernel
theorem dX6_count_72 : decode cX6_count 72 = .ok (.getfield 193, 3) := by decide +kernel
theorem dX6_count_75 : decode cX6_count 75 = .ok (.ireturn, 1) := by decide +kernel
theorem dX6_count_76 : decode cX6_count 76 = .ok (.aload_n 0, 1) := by decide +kernel
theorem dX6_count_77 : decode cX6_count 77 = .ok (.invokevirtual 204, 3) := by decide +kernel
theorem dX6_count_80 : decode cX6_count 80 = .ok (.getfield 208, 3) := by decide +kernel
theorem dX6_count_83 : decode cX6_count 83 = .ok (.lconst 0, 1) := by decide +kernel
theorem dX6_count_84 : decode cX6_count 84 = .ok (.invokestatic 222, 3) := by decide +kernel
theorem dX6_count_87 : decode cX6_count 87 = .ok (.ireturn, 1) := by decide +kernel
theorem dX6_count_88 : decode cX6_count 88 = .ok (.iconst (-1), 1) := by decide +kernel
theorem dX6_count_89 : decode cX6_count 89 = .ok (.ireturn, 1) := by decide +kernel
set_option maxRecDepth 20000 in
theorem ggX6_clear_X6_seaChanged : GoodIn wsX6_clear wsX6_seaChanged := goodIn_r _ [8, 9, 10, 11, 12, 13, 14, 15, 16, 17, 18, 19, 20, 21, 22, 23, 24, 25, 26, 27, 28, 45, 46] (by decide +kernel) (by decide +kernel)
set_option maxRecDepth 20000 in
theorem gX6_clear_X6_seaChanged : GoodIn wsX6_clear (wsV RX6 91 RX6 yX6_seaChanged wsX6_seaChanged) := goodIn_app (goodIn_of _ (by decide +kernel)) ggX6_clear_X6_seaChanged
theorem dX6_clear_0 : decode cX6_clear 0 = .ok (.aload_n 0, 1) := by decide +kernel
theorem dX6_clear_1 : decode cX6_clear 1 = .ok (.getfield 10, 3) := by decide +kernel
theorem dX6_clear_4 : decode cX6_clear 4 = .ok (.getfield 164, 3) := by decide +kernel
theorem dX6_clear_7 : decode cX6_clear 7 = .ok (.aload_n 0, 1) := by decide +kernel
theorem dX6_clear_8 : decode cX6_clear 8 = .ok (.getfield 10, 3) := by decide +kernel
theorem dX6_clear_11 : decode cX6_clear 11 = .ok (.getfield 193, 3) := by decide +kernel
theorem dX6_clear_14 : decode cX6_clear 14 = .ok (.iadd, 1) := by decide +kernel
theorem dX6_clear_15 : decode cX6_clear 15 = .ok (.istore_n 1, 1) := by decide +kernel
theorem dX6_clear_16 : decode cX6_clear 16 = .ok (.aload_n 0, 1) := by decide +kernel
theorem dX6_clear_17 : decode cX6_clear 17 = .ok (.getfield 10, 3) := by decide +kernel
theorem dX6_clear_20 : decode cX6_clear 20 = .ok (.iconst 0, 1) := by decide +kernel
theorem dX6_clear_21 : decode cX6_clear 21 = .ok (.putfield 164, 3) := by decide +kernel
theorem dX6_clear_24 : decode cX6_clear 24 = .ok (.aload_n 0, 1) := by decide +kernel
theorem dX6_clear_25 : decode cX6_clear 25 = .ok (.getfield 10, 3) := by decide +kernel
theorem dX6_clear_28 : decode cX6_clear 28 = .ok (.iconst 0, 1) := by decide +kernel
theorem dX6_clear_29 : decode cX6_clear 29 = .ok (.putfield 193, 3) := by decide +kernel
theorem dX6_clear_32 : decode cX6_clear 32 = .ok (.aload_n 0, 1) := by decide +kernel
theorem dX6_clear_33 : decode cX6_clear 33 = .ok (.invokevirtual 91, 3) := by decide +kernel
theorem dX6_clear_36 : decode cX6_clear 36 = .ok (.iload_n 1, 1) := by decide +kernel
theorem dX6_clear_37 : decode cX6_clear 37 = .ok (.ireturn, 1) := by decide +kernel
set_option maxRecDepth 20000 in
theorem ggX6_moves_X6_within : GoodIn wsX6_moves wsX6_within := goodIn_r _ [4] (by decide +kernel) (by decide +kernel)
set_option maxRecDepth 20000 in
theorem gX6_moves_X6_within : GoodIn wsX6_moves (va_wsS RX6 74 yX6_within wsX6_within) := goodIn_app (goodIn_of _ (by decide +kernel)) ggX6_moves_X6_within
set_option maxRecDepth 20000 in
theorem ggX6_moves_X6_weighed : GoodIn wsX6_moves wsX6_weighed := goodIn_r _ [8, 9, 10, 11, 12, 13, 14, 3, 15, 16, 17, 18, 19, 20, 21, 22, 23, 24, 25, 26, 27, 28, 29, 30, 31, 32, 33, 34, 35, 36, 37, 38, 39, 40, 41, 42, 43, 44, 45, 46, 47, 48, 49, 50, 51, 52, 53, 54, 55, 56, 57, 58, 59, 60, 61, 62, 63, 64, 65, 66, 67, 68, 69, 70, 71, 72, 73, 74, 75, 76, 77, 78, 79, 80, 81, 82, 83, 84, 85, 86, 87, 88, 89, 90, 91, 92, 93, 94, 95, 96, 97, 98, 99, 100, 101, 102, 103, 104, 105, 106, 107, 108, 109, 110, 111, 112, 113, 114, 115, 116, 117, 118, 119, 120, 121, 122, 123, 124, 125, 126, 127, 128, 129, 130, 131, 132, 133, 134, 135, 136, 137, 138, 139, 140, 141, 142, 143, 144, 145, 171, 172, 173, 174, 175, 176, 177, 178, 179, 180, 181, 182, 183, 184, 185, 186, 187, 188, 189, 190, 191, 192, 193, 194, 195, 196, 197, 198, 199, 200, 201, 202, 203, 204, 205, 206, 207, 208, 209, 210, 211, 212, 213, 214, 215, 216, 217, 218, 219, 220, 221, 222, 223, 224] (by decide +kernel) (by decide +kernel)
set_option maxRecDepth 20000 in
theorem gX6_moves_X6_weighed : GoodIn wsX6_moves (wsV RX6 204 RX6 yX6_weighed wsX6_weighed) := goodIn_app (goodIn_of _ (by decide +kernel)) ggX6_moves_X6_weighed
set_option maxRecDepth 20000 in
theorem ggX6_moves_X6_movedBy : GoodIn wsX6_moves wsX6_movedBy := goodIn_r _ [149, 150, 17, 11, 151, 18, 152, 153, 154, 3, 155, 156, 94, 95, 96, 97, 98, 99, 100, 101, 102, 103, 104, 105, 106, 107, 108, 109, 110, 111, 112, 113, 114, 115, 116, 117, 118, 119, 120, 121, 122, 123, 124, 125, 126, 127, 128, 129, 130, 131, 132, 133, 134, 135, 136, 137, 138, 57, 58, 59, 60, 139, 140, 141, 142, 72, 73, 74, 143, 144, 145, 157, 158, 159, 160, 161, 162, 163, 164, 165, 166, 19, 20, 21, 22, 23, 24, 25, 26, 27, 28, 29, 30, 31, 32, 33, 34, 35, 36, 37, 38, 39, 40, 41, 167, 168, 169, 170, 42, 43, 44, 45, 46, 47, 48, 49, 50, 51, 52, 53, 54, 55, 56, 61, 62, 63, 64, 65, 66, 67, 68, 69, 70, 71, 75, 76, 77, 78, 79, 80, 81, 82, 83, 84, 85, 86, 87, 88, 89, 90, 91, 92, 93, 171, 172, 173, 174, 175, 176, 177, 178, 179, 180, 181, 182, 183, 184, 185, 186, 187, 188, 189, 190, 191, 192, 193, 194, 195, 196, 197, 198, 199, 200, 201, 202, 203, 204, 205, 206, 207, 208, 209, 210, 211, 212, 213, 214, 215, 216, 217, 218, 219, 220, 221, 222, 223, 224] (by decide +kernel) (by decide +kernel)
set_option maxRecDepth 20000 in
theorem gX6_moves_X6_movedBy : GoodIn wsX6_moves (wsV RX6 226 RX6 yX6_movedBy wsX6_movedBy) := goodIn_app (goodIn_of _ (by decide +kernel)) ggX6_moves_X6_movedBy
theorem dX6_moves_0 : decode cX6_moves 0 = .ok (.iload_n 1, 1) := by decide +kernel
theorem dX6_moves_1 : decode cX6_moves 1 = .ok (.iconst 0, 1) := by decide +kernel
theorem dX6_moves_2 : decode cX6_moves 2 = .ok (.bipush 12, 2) := by decide +kernel
theorem dX6_moves_4 : decode cX6_moves 4 = .ok (.invokestatic 74, 3) := by decide +kernel
theorem dX6_moves_7 : decode cX6_moves 7 = .ok (.ifCond .ne 5, 3) := by decide +kernel
theorem dX6_moves_10 : decode cX6_moves 10 = .ok (.iconst (-1), 1) := by decide +kernel
theorem dX6_moves_11 : decode cX6_moves 11 = .ok (.ireturn, 1) := by decide +kernel
theorem dX6_moves_12 : decode cX6_moves 12 = .ok (.aload_n 0, 1) := by decide +kernel
theorem dX6_moves_13 : decode cX6_moves 13 = .ok (.iload_n 1, 1) := by decide +kernel
theorem dX6_moves_14 : decode cX6_moves 14 = .ok (.aload_n 0, 1) := by decide +kernel
theorem dX6_moves_15 : decode cX6_moves 15 = .ok (.invokevirtual 204, 3) := by decide +kernel
theorem dX6_moves_18 : decode cX6_moves 18 = .ok (.invokevirtual 226, 3) := by decide +kernel
theorem dX6_moves_21 : decode cX6_moves 21 = .ok (.ireturn, 1) := by decide +kernel
set_option maxRecDepth 20000 in
theorem ggX6_most_X6_weighed : GoodIn wsX6_most wsX6_weighed := goodIn_r _ [5, 6, 7, 8, 9, 10, 11, 4, 12, 13, 14, 15, 16, 17, 18, 19, 20, 21, 22, 23, 24, 25, 26, 27, 28, 29, 30, 31, 32, 33, 34, 35, 36, 37, 38, 39, 40, 41, 42, 43, 44, 45, 46, 47, 48, 49, 50, 51, 52, 53, 54, 55, 56, 57, 58, 59, 60, 61, 62, 63, 64, 65, 66, 67, 68, 69, 70, 71, 72, 73, 74, 75, 76, 77, 78, 79, 80, 81, 82, 83, 84, 85, 86, 87, 88, 89, 90, 91, 92, 93, 94, 95, 96, 97, 98, 99, 100, 101, 102, 103, 104, 105, 106, 107, 108, 109, 110, 111, 112, 113, 114, 115, 116, 117, 118, 119, 120, 121, 122, 123, 124, 125, 126, 127, 128, 129, 130, 131, 132, 133, 134, 135, 136, 137, 138, 139, 140, 141, 142, 168, 169, 170, 171, 172, 173, 174, 175, 176, 177, 178, 179, 180, 181, 182, 183, 184, 185, 186, 187, 188, 189, 190, 191, 192, 193, 194, 195, 196, 197, 198, 199, 200, 201, 202, 203, 204, 205, 206, 207, 208, 209, 210, 211, 212, 213, 214, 215, 216, 217, 218, 219, 220, 221] (by decide +kernel) (by decide +kernel)
set_option maxRecDepth 20000 in
theorem gX6_most_X6_weighed : GoodIn wsX6_most (wsV RX6 204 RX6 yX6_weighed wsX6_weighed) := goodIn_app (goodIn_of _ (by decide +kernel)) ggX6_most_X6_weighed
set_option maxRecDepth 20000 in
theorem ggX6_most_X6_movedBy : GoodIn wsX6_most wsX6_movedBy := goodIn_r _ [146, 147, 14, 8, 148, 15, 149, 150, 151, 4, 152, 153, 91, 92, 93, 94, 95, 96, 97, 98, 99, 100, 101, 102, 103, 104, 105, 106, 107, 108, 109, 110, 111, 112, 113, 114, 115, 116, 117, 118, 119, 120, 121, 122, 123, 124, 125, 126, 127, 128, 129, 130, 131, 132, 133, 134, 135, 54, 55, 56, 57, 136, 137, 138, 139, 69, 70, 71, 140, 141, 142, 154, 155, 156, 157, 158, 159, 160, 161, 162, 163, 16, 17, 18, 19, 20, 21, 22, 23, 24, 25, 26, 27, 28, 29, 30, 31, 32, 33, 34, 35, 36, 37, 38, 164, 165, 166, 167, 39, 40, 41, 42, 43, 44, 45, 46, 47, 48, 49, 50, 51, 52, 53, 58, 59, 60, 61, 62, 63, 64, 65, 66, 67, 68, 72, 73, 74, 75, 76, 77, 78, 79, 80, 81, 82, 83, 84, 85, 86, 87, 88, 89, 90, 168, 169, 170, 171, 172, 173, 174, 175, 176, 177, 178, 179, 180, 181, 182, 183, 184, 185, 186, 187, 188, 189, 190, 191, 192, 193, 194, 195, 196, 197, 198, 199, 200, 201, 202, 203, 204, 205, 206, 207, 208, 209, 210, 211, 212, 213, 214, 215, 216, 217, 218, 219, 220, 221] (by decide +kernel) (by decide +kernel)
set_option maxRecDepth 20000 in
theorem gX6_most_X6_movedBy : GoodIn wsX6_most (wsV RX6 226 RX6 yX6_movedBy wsX6_movedBy) := goodIn_app (goodIn_of _ (by decide +kernel)) ggX6_most_X6_movedBy
theorem dX6_most_0 : decode cX6_most 0 = .ok (.aload_n 0, 1) := by decide +kernel
theorem dX6_most_1 : decode cX6_most 1 = .ok (.invokevirtual 204, 3) := by decide +kernel
theorem dX6_most_4 : decode cX6_most 4 = .ok (.astore_n 1, 1) := by decide +kernel
theorem dX6_most_5 : decode cX6_most 5 = .ok (.iconst 0, 1) := by decide +kernel
theorem dX6_most_6 : decode cX6_most 6 = .ok (.istore_n 2, 1) := by decide +kernel
theorem dX6_most_7 : decode cX6_most 7 = .ok (.iconst (-1), 1) := by decide +kernel
theorem dX6_most_8 : decode cX6_most 8 = .ok (.istore_n 3, 1) := by decide +kernel
theorem dX6_most_9 : decode cX6_most 9 = .ok (.iconst 0, 1) := by decide +kernel
theorem dX6_most_10 : decode cX6_most 10 = .ok (.istore 4, 2) := by decide +kernel
theorem dX6_most_12 : decode cX6_most 12 = .ok (.iload 4, 2) := by decide +kernel
theorem dX6_most_14 : decode cX6_most 14 = .ok (.bipush 13, 2) := by decide +kernel
theorem dX6_most_16 : decode cX6_most 16 = .ok (.if_icmp .ge 30, 3) := by decide +kernel
theorem dX6_most_19 : decode cX6_most 19 = .ok (.aload_n 0, 1) := by decide +kernel
theorem dX6_most_20 : decode cX6_most 20 = .ok (.iload 4, 2) := by decide +kernel
theorem dX6_most_22 : decode cX6_most 22 = .ok (.aload_n 1, 1) := by decide +kernel
theorem dX6_most_23 : decode cX6_most 23 = .ok (.invokevirtual 226, 3) := by decide +kernel
theorem dX6_most_26 : decode cX6_most 26 = .ok (.istore 5, 2) := by decide +kernel
theorem dX6_most_28 : decode cX6_most 28 = .ok (.iload 5, 2) := by decide +kernel
theorem dX6_most_30 : decode cX6_most 30 = .ok (.iload_n 3, 1) := by decide +kernel
theorem dX6_most_31 : decode cX6_most 31 = .ok (.if_icmp .le 9, 3) := by decide +kernel
theorem dX6_most_34 : decode cX6_most 34 = .ok (.iload 4, 2) := by decide +kernel
theorem dX6_most_36 : decode cX6_most 36 = .ok (.istore_n 2, 1) := by decide +kernel
theorem dX6_most_37 : decode cX6_most 37 = .ok (.iload 5, 2) := by decide +kernel
theorem dX6_most_39 : decode cX6_most 39 = .ok (.istore_n 3, 1) := by decide +kernel
theorem dX6_most_40 : decode cX6_most 40 = .ok (.iinc 4 1, 3) := by decide +kernel
theorem dX6_most_43 : decode cX6_most 43 = .ok (.goto (-31), 3) := by decide +kernel
theorem dX6_most_46 : decode cX6_most 46 = .ok (.iload_n 2, 1) := by decide +kernel
theorem dX6_most_47 : decode cX6_most 47 = .ok (.ireturn, 1) := by decide +kernel
set_option maxRecDepth 20000 in
theorem ggX6_next_X6_weighed : GoodIn wsX6_next wsX6_weighed := goodIn_r _ [8, 9, 10, 11, 12, 13, 14, 7, 15, 16, 17, 2, 18, 19, 20, 21, 22, 23, 24, 25, 26, 27, 28, 29, 30, 31, 32, 33, 34, 35, 36, 37, 38, 39, 40, 41, 42, 43, 44, 45, 46, 47, 48, 49, 50, 51, 52, 53, 54, 55, 56, 57, 58, 59, 60, 61, 62, 63, 64, 65, 66, 67, 68, 69, 70, 71, 72, 73, 74, 75, 76, 77, 78, 79, 80, 81, 82, 83, 84, 85, 86, 87, 88, 89, 90, 91, 92, 93, 94, 95, 96, 97, 98, 99, 100, 101, 102, 103, 104, 105, 106, 107, 108, 109, 110, 111, 112, 113, 114, 115, 116, 117, 118, 119, 120, 121, 122, 123, 124, 125, 126, 127, 128, 129, 130, 131, 132, 133, 134, 135, 136, 137, 138, 139, 140, 141, 142, 143, 144, 153, 154, 155, 156, 157, 158, 159, 160, 161, 162, 163, 164, 181, 182, 183, 184, 185, 186, 187, 188, 189, 190, 191, 192, 193, 194, 195, 196, 197, 198, 199, 200, 165, 166, 167, 168, 169, 170, 171, 172, 173, 174, 175, 176, 177, 178, 179, 180, 149, 150, 151, 152, 201, 202] (by decide +kernel) (by decide +kernel)
set_option maxRecDepth 20000 in
theorem gX6_next_X6_weighed : GoodIn wsX6_next (wsV RX6 204 RX6 yX6_weighed wsX6_weighed) := goodIn_app (goodIn_of _ (by decide +kernel)) ggX6_next_X6_weighed
set_option maxRecDepth 20000 in
theorem ggX6_next_X4_isDragged : GoodIn wsX6_next wsX4_isDragged := goodIn_r _ [148, 108, 109, 165, 166, 167, 168, 169, 170, 171, 172, 173, 174, 175, 176, 177, 178, 179, 180] (by decide +kernel) (by decide +kernel)
set_option maxRecDepth 20000 in
theorem gX6_next_X4_isDragged : GoodIn wsX6_next (wsV RX6 230 RX4 yX4_isDragged wsX4_isDragged) := goodIn_app (goodIn_of _ (by decide +kernel)) ggX6_next_X4_isDragged
theorem dX6_next_0 : decode cX6_next 0 = .ok (.aload_n 0, 1) := by decide +kernel
theorem dX6_next_1 : decode cX6_next 1 = .ok (.invokevirtual 204, 3) := by decide +kernel
theorem dX6_next_4 : decode cX6_next 4 = .ok (.getfield 208, 3) := by decide +kernel
theorem dX6_next_7 : decode cX6_next 7 = .ok (.astore_n 1, 1) := by decide +kernel
theorem dX6_next_8 : decode cX6_next 8 = .ok (.bipush (-4), 2) := by decide +kernel
theorem dX6_next_10 : decode cX6_next 10 = .ok (.istore_n 2, 1) := by decide +kernel
theorem dX6_next_11 : decode cX6_next 11 = .ok (.iconst 0, 1) := by decide +kernel
theorem dX6_next_12 : decode cX6_next 12 = .ok (.istore_n 3, 1) := by decide +kernel
theorem dX6_next_13 : decode cX6_next 13 = .ok (.iload_n 3, 1) := by decide +kernel
theorem dX6_next_14 : decode cX6_next 14 = .ok (.bipush 100, 2) := by decide +kernel
theorem dX6_next_16 : decode cX6_next 16 = .ok (.if_icmp .ge 69, 3) := by decide +kernel
theorem dX6_next_19 : decode cX6_next 19 = .ok (.aload_n 1, 1) := by decide +kernel
theorem dX6_next_20 : decode cX6_next 20 = .ok (.iload_n 3, 1) := by decide +kernel
theorem dX6_next_21 : decode cX6_next 21 = .ok (.laload, 1) := by decide +kernel
theorem dX6_next_22 : decode cX6_next 22 = .ok (.lconst 0, 1) := by decide +kernel
theorem dX6_next_23 : decode cX6_next 23 = .ok (.lcmp, 1) := by decide +kernel
theorem dX6_next_24 : decode cX6_next 24 = .ok (.ifCond .le 55, 3) := by decide +kernel
theorem dX6_next_27 : decode cX6_next 27 = .ok (.aload_n 0, 1) := by decide +kernel
theorem dX6_next_28 : decode cX6_next 28 = .ok (.getfield 10, 3) := by decide +kernel
theorem dX6_next_31 : decode cX6_next 31 = .ok (.iload_n 3, 1) := by decide +kernel
theorem dX6_next_32 : decode cX6_next 32 = .ok (.invokevirtual 230, 3) := by decide +kernel
theorem dX6_next_35 : decode cX6_next 35 = .ok (.ifCond .eq 6, 3) := by decide +kernel
theorem dX6_next_38 : decode cX6_next 38 = .ok (.goto 41, 3) := by decide +kernel
theorem dX6_next_41 : decode cX6_next 41 = .ok (.iload_n 2, 1) := by decide +kernel
theorem dX6_next_42 : decode cX6_next 42 = .ok (.ifCond .lt 35, 3) := by decide +kernel
theorem dX6_next_45 : decode cX6_next 45 = .ok (.aload_n 1, 1) := by decide +kernel
theorem dX6_next_46 : decode cX6_next 46 = .ok (.iload_n 3, 1) := by decide +kernel
theorem dX6_next_47 : decode cX6_next 47 = .ok (.laload, 1) := by decide +kernel
theorem dX6_next_48 : decode cX6_next 48 = .ok (.aload_n 0, 1) := by decide +kernel
theorem dX6_next_49 : decode cX6_next 49 = .ok (.getfield 10, 3) := by decide +kernel
theorem dX6_next_52 : decode cX6_next 52 = .ok (.getfield 161, 3) := by decide +kernel
theorem dX6_next_55 : decode cX6_next 55 = .ok (.iload_n 2, 1) := by decide +kernel
theorem dX6_next_56 : decode cX6_next 56 = .ok (.iaload, 1) := by decide +kernel
theorem dX6_next_57 : decode cX6_next 57 = .ok (.i2l, 1) := by decide +kernel
theorem dX6_next_58 : decode cX6_next 58 = .ok (.lmul, 1) := by decide +kernel
theorem dX6_next_59 : decode cX6_next 59 = .ok (.aload_n 1, 1) := by decide +kernel
theorem dX6_next_60 : decode cX6_next 60 = .ok (.iload_n 2, 1) := by decide +kernel
theorem dX6_next_61 : decode cX6_next 61 = .ok (.laload, 1) := by decide +kernel
theorem dX6_next_62 : decode cX6_next 62 = .ok (.aload_n 0, 1) := by decide +kernel
theorem dX6_next_63 : decode cX6_next 63 = .ok (.getfield 10, 3) := by decide +kernel
theorem dX6_next_66 : decode cX6_next 66 = .ok (.getfield 161, 3) := by decide +kernel
theorem dX6_next_69 : decode cX6_next 69 = .ok (.iload_n 3, 1) := by decide +kernel
theorem dX6_next_70 : decode cX6_next 70 = .ok (.iaload, 1) := by decide +kernel
theorem dX6_next_71 : decode cX6_next 71 = .ok (.i2l, 1) := by decide +kernel
theorem dX6_next_72 : decode cX6_next 72 = .ok (.lmul, 1) := by decide +kernel
theorem dX6_next_73 : decode cX6_next 73 = .ok (.lcmp, 1) := by decide +kernel
theorem dX6_next_74 : decode cX6_next 74 = .ok (.ifCond .le 5, 3) := by decide +kernel
theorem dX6_next_77 : decode cX6_next 77 = .ok (.iload_n 3, 1) := by decide +kernel
theorem dX6_next_78 : decode cX6_next 78 = .ok (.istore_n 2, 1) := by decide +kernel
theorem dX6_next_79 : decode cX6_next 79 = .ok (.iinc 3 1, 3) := by decide +kernel
theorem dX6_next_82 : decode cX6_next 82 = .ok (.goto (-69), 3) := by decide +kernel
theorem dX6_next_85 : decode cX6_next 85 = .ok (.iload_n 2, 1) := by decide +kernel
theorem dX6_next_86 : decode cX6_next 86 = .ok (.ireturn, 1) := by decide +kernel
set_option maxRecDepth 20000 in
theorem ggX6_should_X6_isCell : GoodIn wsX6_should wsX6_isCell := goodIn_r _ [8] (by decide +kernel) (by decide +kernel)
set_option maxRecDepth 20000 in
theorem gX6_should_X6_isCell : GoodIn wsX6_should (va_wsS RX6 97 yX6_isCell wsX6_isCell) := goodIn_app (goodIn_of _ (by decide +kernel)) ggX6_should_X6_isCell
set_option maxRecDepth 20000 in
theorem ggX6_should_X6_within : GoodIn wsX6_should wsX6_within := goodIn_r _ [11] (by decide +kernel) (by decide +kernel)
set_option maxRecDepth 20000 in
theorem gX6_should_X6_within : GoodIn wsX6_should (va_wsS RX6 74 yX6_within wsX6_within) := goodIn_app (goodIn_of _ (by decide +kernel)) ggX6_should_X6_within
set_option maxRecDepth 20000 in
theorem ggX6_should_X6_weighed : GoodIn wsX6_should wsX6_weighed := goodIn_r _ [15, 16, 17, 18, 19, 20, 21, 7, 22, 23, 24, 25, 26, 27, 28, 29, 30, 31, 32, 33, 34, 35, 36, 37, 38, 39, 40, 41, 42, 43, 44, 45, 46, 47, 48, 49, 50, 51, 52, 53, 54, 55, 56, 57, 58, 59, 60, 61, 62, 63, 64, 65, 66, 67, 6, 8, 68, 69, 70, 71, 72, 73, 74, 75, 76, 77, 78, 79, 80, 81, 82, 83, 84, 85, 86, 87, 88, 89, 90, 91, 92, 93, 94, 95, 96, 97, 98, 99, 100, 101, 102, 103, 104, 105, 106, 107, 108, 109, 110, 111, 112, 113, 114, 115, 116, 117, 118, 119, 120, 121, 122, 123, 124, 125, 126, 127, 128, 129, 130, 131, 132, 133, 134, 135, 136, 137, 138, 139, 140, 141, 142, 143, 144, 145, 146, 147, 148, 149, 150, 166, 167, 168, 169, 170, 171, 172, 173, 174, 175, 176, 177, 178, 179, 180, 181, 182, 183, 184, 185, 186, 187, 188, 189, 190, 191, 192, 193, 194, 195, 196, 197, 198, 199, 200, 201, 202, 203, 204, 205, 206, 207, 208, 209, 210, 211, 212, 213, 162, 163, 164, 165, 214, 215] (by decide +kernel) (by decide +kernel)
set_option maxRecDepth 20000 in
theorem gX6_should_X6_weighed : GoodIn wsX6_should (wsV RX6 204 RX6 yX6_weighed wsX6_weighed) := goodIn_app (goodIn_of _ (by decide +kernel)) ggX6_should_X6_weighed
set_option maxRecDepth 20000 in
theorem ggX6_should_X1_behind : GoodIn wsX6_should wsX1_behind := goodIn_r _ [154, 138, 139, 140, 121, 141, 128, 142, 143, 135, 136, 137, 64, 7, 65, 66, 67, 214, 215, 198, 199, 200, 201, 202, 203, 204, 205, 206, 207, 208, 209, 210, 211, 212, 213] (by decide +kernel) (by decide +kernel)
set_option maxRecDepth 20000 in
theorem gX6_should_X1_behind : GoodIn wsX6_should (wsV RX6 182 RX1 yX1_behind wsX1_behind) := goodIn_app (goodIn_of _ (by decide +kernel)) ggX6_should_X1_behind
set_option maxRecDepth 20000 in
theorem ggX6_should_X6_partOf : GoodIn wsX6_should wsX6_partOf := goodIn_r _ [157, 158, 159, 160, 7, 161] (by decide +kernel) (by decide +kernel)
set_option maxRecDepth 20000 in
theorem gX6_should_X6_partOf : GoodIn wsX6_should (va_wsS RX6 215 yX6_partOf wsX6_partOf) := goodIn_app (goodIn_of _ (by decide +kernel)) ggX6_should_X6_partOf
theorem dX6_should_0 : decode cX6_should 0 = .ok (.iload_n 1, 1) := by decide +kernel
theorem dX6_should_1 : decode cX6_should 1 = .ok (.invokestatic 97, 3) := by decide +kernel
theorem dX6_should_4 : decode cX6_should 4 = .ok (.ifCond .eq 32, 3) := by decide +kernel
theorem dX6_should_7 : decode cX6_should 7 = .ok (.iload_n 2, 1) := by decide +kernel
theorem dX6_should_8 : decode cX6_should 8 = .ok (.iconst 0, 1) := by decide +kernel
theorem dX6_should_9 : decode cX6_should 9 = .ok (.bipush 24, 2) := by decide +kernel
theorem dX6_should_11 : decode cX6_should 11 = .ok (.invokestatic 74, 3) := by decide +kernel
theorem dX6_should_14 : decode cX6_should 14 = .ok (.ifCond .eq 22, 3) := by decide +kernel
theorem dX6_should_17 : decode cX6_should 17 = .ok (.iload_n 3, 1) := by decide +kernel
theorem dX6_should_18 : decode cX6_should 18 = .ok (.iconst 0, 1) := by decide +kernel
theorem dX6_should_19 : decode cX6_should 19 = .ok (.iconst 1, 1) := by decide +kernel
theorem dX6_should_20 : decode cX6_should 20 = .ok (.invokestatic 74, 3) := by decide +kernel
theorem dX6_should_23 : decode cX6_should 23 = .ok (.ifCond .eq 13, 3) := by decide +kernel
theorem dX6_should_26 : decode cX6_should 26 = .ok (.iload 4, 2) := by decide +kernel
theorem dX6_should_28 : decode cX6_should 28 = .ok (.iconst 0, 1) := by decide +kernel
theorem dX6_should_29 : decode cX6_should 29 = .ok (.iconst 1, 1) := by decide +kernel
theorem dX6_should_30 : decode cX6_should 30 = .ok (.invokestatic 74, 3) := by decide +kernel
theorem dX6_should_33 : decode cX6_should 33 = .ok (.ifCond .ne 7, 3) := by decide +kernel
theorem dX6_should_36 : decode cX6_should 36 = .ok (.ldc2_w 202, 3) := by decide +kernel
theorem dX6_should_39 : decode cX6_should 39 = .ok (.lreturn, 1) := by decide +kernel
theorem dX6_should_40 : decode cX6_should 40 = .ok (.aload_n 0, 1) := by decide +kernel
theorem dX6_should_41 : decode cX6_should 41 = .ok (.invokevirtual 204, 3) := by decide +kernel
theorem dX6_should_44 : decode cX6_should 44 = .ok (.astore 5, 2) := by decide +kernel
theorem dX6_should_46 : decode cX6_should 46 = .ok (.lconst 0, 1) := by decide +kernel
theorem dX6_should_47 : decode cX6_should 47 = .ok (.lstore 6, 2) := by decide +kernel
theorem dX6_should_49 : decode cX6_should 49 = .ok (.iconst 0, 1) := by decide +kernel
theorem dX6_should_50 : decode cX6_should 50 = .ok (.istore 8, 2) := by decide +kernel
theorem dX6_should_52 : decode cX6_should 52 = .ok (.iload 8, 2) := by decide +kernel
theorem dX6_should_54 : decode cX6_should 54 = .ok (.bipush 100, 2) := by decide +kernel
theorem dX6_should_56 : decode cX6_should 56 = .ok (.if_icmp .ge 50, 3) := by decide +kernel
theorem dX6_should_59 : decode cX6_should 59 = .ok (.aload 5, 2) := by decide +kernel
theorem dX6_should_61 : decode cX6_should 61 = .ok (.getfield 208, 3) := by decide +kernel
theorem dX6_should_64 : decode cX6_should 64 = .ok (.iload 8, 2) := by decide +kernel
theorem dX6_should_66 : decode cX6_should 66 = .ok (.laload, 1) := by decide +kernel
theorem dX6_should_67 : decode cX6_should 67 = .ok (.lconst 0, 1) := by decide +kernel
theorem dX6_should_68 : decode cX6_should 68 = .ok (.lcmp, 1) := by decide +kernel
theorem dX6_should_69 : decode cX6_should 69 = .ok (.ifCond .le 31, 3) := by decide +kernel
theorem dX6_should_72 : decode cX6_should 72 = .ok (.aload_n 0, 1) := by decide +kernel
theorem dX6_should_73 : decode cX6_should 73 = .ok (.getfield 34, 3) := by decide +kernel
theorem dX6_should_76 : decode cX6_should 76 = .ok (.iload 8, 2) := by decide +kernel
theorem dX6_should_78 : decode cX6_should 78 = .ok (.iload_n 2, 1) := by decide +kernel
theorem dX6_should_79 : decode cX6_should 79 = .ok (.iload_n 3, 1) := by decide +kernel
theorem dX6_should_80 : decode cX6_should 80 = .ok (.invokevirtual 182, 3) := by decide +kernel
theorem dX6_should_83 : decode cX6_should 83 = .ok (.iload_n 1, 1) := by decide +kernel
theorem dX6_should_84 : decode cX6_should 84 = .ok (.if_icmp .ne 16, 3) := by decide +kernel
theorem dX6_should_87 : decode cX6_should 87 = .ok (.lload 6, 2) := by decide +kernel
theorem dX6_should_89 : decode cX6_should 89 = .ok (.aload 5, 2) := by decide +kernel
theorem dX6_should_91 : decode cX6_should 91 = .ok (.getfield 208, 3) := by decide +kernel
theorem dX6_should_94 : decode cX6_should 94 = .ok (.iload 8, 2) := by decide +kernel
theorem dX6_should_96 : decode cX6_should 96 = .ok (.laload, 1) := by decide +kernel
theorem dX6_should_97 : decode cX6_should 97 = .ok (.ladd, 1) := by decide +kernel
theorem dX6_should_98 : decode cX6_should 98 = .ok (.lstore 6, 2) := by decide +kernel
theorem dX6_should_100 : decode cX6_should 100 = .ok (.iinc 8 1, 3) := by decide +kernel
theorem dX6_should_103 : decode cX6_should 103 = .ok (.goto (-51), 3) := by decide +kernel
theorem dX6_should_106 : decode cX6_should 106 = .ok (.lload 6, 2) := by decide +kernel
theorem dX6_should_108 : decode cX6_should 108 = .ok (.aload 5, 2) := by decide +kernel
theorem dX6_should_110 : decode cX6_should 110 = .ok (.getfield 212, 3) := by decide +kernel
theorem dX6_should_113 : decode cX6_should 113 = .ok (.iload 4, 2) := by decide +kernel
theorem dX6_should_115 : decode cX6_should 115 = .ok (.invokestatic 215, 3) := by decide +kernel
theorem dX6_should_118 : decode cX6_should 118 = .ok (.lreturn, 1) := by decide +kernel
set_option maxRecDepth 20000 in
theorem ggX6_held_X6_wrongRow : GoodIn wsX6_held wsX6_wrongRow := goodIn_r _ [11, 3, 12, 13, 14, 10, 15, 16, 17, 18, 19, 20, 21, 22, 23, 24, 25, 26, 27, 28, 29, 129, 130, 131, 132, 133, 134, 135, 136, 137, 138, 139, 140, 177, 178, 179] (by decide +kernel) (by decide +kernel)
set_option maxRecDepth 20000 in
theorem gX6_held_X6_wrongRow : GoodIn wsX6_held (wsV RX6 233 RX6 yX6_wrongRow wsX6_wrongRow) := goodIn_app (goodIn_of _ (by decide +kernel)) ggX6_held_X6_wrongRow
set_option maxRecDepth 20000 in
theorem ggX6_held_X2_at : GoodIn wsX6_held wsX2_at := goodIn_r _ [33, 34, 35, 26, 27, 22, 28, 29, 177, 178, 179] (by decide +kernel) (by decide +kernel)
set_option maxRecDepth 20000 in
theorem gX6_held_X2_at : GoodIn wsX6_held (wsV RX6 237 RX2 yX2_at wsX2_at) := goodIn_app (goodIn_of _ (by decide +kernel)) ggX6_held_X2_at
set_option maxRecDepth 20000 in
theorem ggX6_held_X5_begin : GoodIn wsX6_held wsX5_begin := goodIn_r _ [40, 41, 42, 43, 44, 45, 46, 47, 48, 49, 50, 51, 52, 53, 54, 55, 56, 57, 58, 141, 142, 143, 144, 145, 146, 147, 148, 149, 150, 151, 152, 153, 154, 155, 156, 157, 158, 159, 160, 161, 162, 163, 164, 165, 166, 167, 168, 169, 170, 171, 172, 173, 174, 175, 176] (by decide +kernel) (by decide +kernel)
set_option maxRecDepth 20000 in
theorem gX6_held_X5_begin : GoodIn wsX6_held (wsV RX6 241 RX5 yX5_begin wsX5_begin) := goodIn_app (goodIn_of _ (by decide +kernel)) ggX6_held_X5_begin
set_option maxRecDepth 20000 in
theorem ggX6_held_X5_leaveOutRings : GoodIn wsX6_held wsX5_leaveOutRings := goodIn_r _ [62, 42, 48, 157, 158, 159, 160, 161, 162, 163, 164, 165, 166, 167, 168, 169, 170, 171, 172, 173, 174, 175, 176] (by decide +kernel) (by decide +kernel)
set_option maxRecDepth 20000 in
theorem gX6_held_X5_leaveOutRings : GoodIn wsX6_held (wsV RX6 244 RX5 yX5_leaveOutRings wsX5_leaveOutRings) := goodIn_app (goodIn_of _ (by decide +kernel)) ggX6_held_X5_leaveOutRings
set_option maxRecDepth 20000 in
theorem ggX6_held_X5_keepTo : GoodIn wsX6_held wsX5_keepTo := goodIn_r _ [66, 54, 51, 67, 31, 32, 22, 33, 34, 35, 26, 27, 28, 29, 68, 10, 69, 157, 158, 159, 160, 161, 162, 163, 164, 165, 166, 167, 168, 169, 170, 171, 172, 173, 174, 175, 176, 177, 178, 179] (by decide +kernel) (by decide +kernel)
set_option maxRecDepth 20000 in
theorem gX6_held_X5_keepTo : GoodIn wsX6_held (wsV RX6 247 RX5 yX5_keepTo wsX5_keepTo) := goodIn_app (goodIn_of _ (by decide +kernel)) ggX6_held_X5_keepTo
set_option maxRecDepth 20000 in
theorem ggX6_held_X5_goAll : GoodIn wsX6_held wsX5_goAll := goodIn_r _ [73, 74, 75, 76, 77, 78, 79, 57, 80, 52, 81, 82, 83, 39, 84, 54, 50, 85, 10, 86, 87, 88, 68, 69, 89, 90, 91, 92, 51, 93, 94, 95, 96, 48, 42, 97, 98, 99, 100, 101, 102, 103, 104, 105, 106, 107, 58, 108, 109, 110, 111, 112, 113, 114, 115, 56, 55, 116, 117, 118, 119, 157, 158, 159, 160, 161, 162, 163, 164, 165, 166, 167, 168, 169, 170, 171, 172, 173, 174, 175, 176] (by decide +kernel) (by decide +kernel)
set_option maxRecDepth 20000 in
theorem gX6_held_X5_goAll : GoodIn wsX6_held (wsV RX6 251 RX5 yX5_goAll wsX5_goAll) := goodIn_app (goodIn_of _ (by decide +kernel)) ggX6_held_X5_goAll
set_option maxRecDepth 20000 in
theorem ggX6_held_X6_isCell : GoodIn wsX6_held wsX6_isCell := goodIn_r _ [69] (by decide +kernel) (by decide +kernel)
set_option maxRecDepth 20000 in
theorem gX6_held_X6_isCell : GoodIn wsX6_held (va_wsS RX6 97 yX6_isCell wsX6_isCell) := goodIn_app (goodIn_of _ (by decide +kernel)) ggX6_held_X6_isCell
set_option maxRecDepth 20000 in
theorem ggX6_held_X5_takeRingsOf : GoodIn wsX6_held wsX5_takeRingsOf := goodIn_r _ [124, 54, 42, 50, 125, 60, 61, 39, 62, 48, 67, 31, 32, 22, 33, 34, 35, 26, 27, 28, 29, 68, 10, 69, 157, 158, 159, 160, 161, 162, 163, 164, 165, 166, 167, 168, 169, 170, 171, 172, 173, 174, 175, 176, 177, 178, 179] (by decide +kernel) (by decide +kernel)
set_option maxRecDepth 20000 in
theorem gX6_held_X5_takeRingsOf : GoodIn wsX6_held (wsV RX6 254 RX5 yX5_takeRingsOf wsX5_takeRingsOf) := goodIn_app (goodIn_of _ (by decide +kernel)) ggX6_held_X5_takeRingsOf
set_option maxRecDepth 20000 in
theorem ggX6_held_X6_howManyGreater : GoodIn wsX6_held wsX6_howManyGreater := goodIn_r _ [128] (by decide +kernel) (by decide +kernel)
set_option maxRecDepth 20000 in
theorem gX6_held_X6_howManyGreater : GoodIn wsX6_held (va_wsS RX6 222 yX6_howManyGreater wsX6_howManyGreater) := goodIn_app (goodIn_of _ (by decide +kernel)) ggX6_held_X6_howManyGreater
theorem dX6_held_0 : decode cX6_held 0 = .ok (.aload_n 0, 1) := by decide +kernel
theorem dX6_held_1 : decode cX6_held 1 = .ok (.getfield 10, 3) := by decide +kernel
theorem dX6_held_4 : decode cX6_held 4 = .ok (.getfield 85, 3) := by decide +kernel
theorem dX6_held_7 : decode cX6_held 7 = .ok (.iconst 2, 1) := by decide +kernel
theorem dX6_held_8 : decode cX6_held 8 = .ok (.iaload, 1) := by decide +kernel
theorem dX6_held_9 : decode cX6_held 9 = .ok (.iconst 1, 1) := by decide +kernel
theorem dX6_held_10 : decode cX6_held 10 = .ok (.iadd, 1) := by decide +kernel
theorem dX6_held_11 : decode cX6_held 11 = .ok (.istore 4, 2) := by decide +kernel
theorem dX6_held_13 : decode cX6_held 13 = .ok (.aload_n 0, 1) := by decide +kernel
theorem dX6_held_14 : decode cX6_held 14 = .ok (.iload_n 1, 1) := by decide +kernel
theorem dX6_held_15 : decode cX6_held 15 = .ok (.iload_n 2, 1) := by decide +kernel
theorem dX6_held_16 : decode cX6_held 16 = .ok (.iload_n 3, 1) := by decide +kernel
theorem dX6_held_17 : decode cX6_held 17 = .ok (.iload 4, 2) := by decide +kernel
theorem dX6_held_19 : decode cX6_held 19 = .ok (.invokevirtual 233, 3) := by decide +kernel
theorem dX6_held_22 : decode cX6_held 22 = .ok (.istore 5, 2) := by decide +kernel
theorem dX6_held_24 : decode cX6_held 24 = .ok (.iload 5, 2) := by decide +kernel
theorem dX6_held_26 : decode cX6_held 26 = .ok (.ifCond .ge 6, 3) := by decide +kernel
theorem dX6_held_29 : decode cX6_held 29 = .ok (.iload 5, 2) := by decide +kernel
theorem dX6_held_31 : decode cX6_held 31 = .ok (.ireturn, 1) := by decide +kernel
theorem dX6_held_32 : decode cX6_held 32 = .ok (.aload_n 0, 1) := by decide +kernel
theorem dX6_held_33 : decode cX6_held 33 = .ok (.getfield 59, 3) := by decide +kernel
theorem dX6_held_36 : decode cX6_held 36 = .ok (.iload_n 1, 1) := by decide +kernel
theorem dX6_held_37 : decode cX6_held 37 = .ok (.aaload, 1) := by decide +kernel
theorem dX6_held_38 : decode cX6_held 38 = .ok (.astore 6, 2) := by decide +kernel
theorem dX6_held_40 : decode cX6_held 40 = .ok (.aload 6, 2) := by decide +kernel
theorem dX6_held_42 : decode cX6_held 42 = .ok (.iload_n 3, 1) := by decide +kernel
theorem dX6_held_43 : decode cX6_held 43 = .ok (.iload 4, 2) := by decide +kernel
theorem dX6_held_45 : decode cX6_held 45 = .ok (.iadd, 1) := by decide +kernel
theorem dX6_held_46 : decode cX6_held 46 = .ok (.iconst 1, 1) := by decide +kernel
theorem dX6_held_47 : decode cX6_held 47 = .ok (.isub, 1) := by decide +kernel
theorem dX6_held_48 : decode cX6_held 48 = .ok (.invokevirtual 237, 3) := by decide +kernel
theorem dX6_held_51 : decode cX6_held 51 = .ok (.istore 7, 2) := by decide +kernel
theorem dX6_held_53 : decode cX6_held 53 = .ok (.aload_n 0, 1) := by decide +kernel
theorem dX6_held_54 : decode cX6_held 54 = .ok (.getfield 26, 3) := by decide +kernel
theorem dX6_held_57 : decode cX6_held 57 = .ok (.aload_n 0, 1) := by decide +kernel
theorem dX6_held_58 : decode cX6_held 58 = .ok (.getfield 10, 3) := by decide +kernel
theorem dX6_held_61 : decode cX6_held 61 = .ok (.invokevirtual 241, 3) := by decide +kernel
theorem dX6_held_64 : decode cX6_held 64 = .ok (.aload_n 0, 1) := by decide +kernel
theorem dX6_held_65 : decode cX6_held 65 = .ok (.getfield 26, 3) := by decide +kernel
theorem dX6_held_68 : decode cX6_held 68 = .ok (.invokevirtual 244, 3) := by decide +kernel
theorem dX6_held_71 : decode cX6_held 71 = .ok (.aload_n 0, 1) := by decide +kernel
theorem dX6_held_72 : decode cX6_held 72 = .ok (.getfield 26, 3) := by decide +kernel
theorem dX6_held_75 : decode cX6_held 75 = .ok (.aload 6, 2) := by decide +kernel
theorem dX6_held_77 : decode cX6_held 77 = .ok (.iload_n 3, 1) := by decide +kernel
theorem dX6_held_78 : decode cX6_held 78 = .ok (.invokevirtual 247, 3) := by decide +kernel
theorem dX6_held_81 : decode cX6_held 81 = .ok (.aload_n 0, 1) := by decide +kernel
theorem dX6_held_82 : decode cX6_held 82 = .ok (.getfield 26, 3) := by decide +kernel
theorem dX6_held_85 : decode cX6_held 85 = .ok (.invokevirtual 251, 3) := by decide +kernel
theorem dX6_held_88 : decode cX6_held 88 = .ok (.aload_n 0, 1) := by decide +kernel
theorem dX6_held_89 : decode cX6_held 89 = .ok (.getfield 26, 3) := by decide +kernel
theorem dX6_held_92 : decode cX6_held 92 = .ok (.getfield 125, 3) := by decide +kernel
theorem dX6_held_95 : decode cX6_held 95 = .ok (.ifCond .eq 11, 3) := by decide +kernel
theorem dX6_held_98 : decode cX6_held 98 = .ok (.iload 7, 2) := by decide +kernel
theorem dX6_held_100 : decode cX6_held 100 = .ok (.invokestatic 97, 3) := by decide +kernel
theorem dX6_held_103 : decode cX6_held 103 = .ok (.ifCond .ne 6, 3) := by decide +kernel
theorem dX6_held_106 : decode cX6_held 106 = .ok (.bipush (-2), 2) := by decide +kernel
theorem dX6_held_108 : decode cX6_held 108 = .ok (.ireturn, 1) := by decide +kernel
theorem dX6_held_109 : decode cX6_held 109 = .ok (.aload_n 0, 1) := by decide +kernel
theorem dX6_held_110 : decode cX6_held 110 = .ok (.getfield 26, 3) := by decide +kernel
theorem dX6_held_113 : decode cX6_held 113 = .ok (.aload_n 0, 1) := by decide +kernel
theorem dX6_held_114 : decode cX6_held 114 = .ok (.getfield 10, 3) := by decide +kernel
theorem dX6_held_117 : decode cX6_held 117 = .ok (.invokevirtual 241, 3) := by decide +kernel
theorem dX6_held_120 : decode cX6_held 120 = .ok (.aload_n 0, 1) := by decide +kernel
theorem dX6_held_121 : decode cX6_held 121 = .ok (.getfield 26, 3) := by decide +kernel
theorem dX6_held_124 : decode cX6_held 124 = .ok (.aload 6, 2) := by decide +kernel
theorem dX6_held_126 : decode cX6_held 126 = .ok (.iload_n 3, 1) := by decide +kernel
theorem dX6_held_127 : decode cX6_held 127 = .ok (.invokevirtual 254, 3) := by decide +kernel
theorem dX6_held_130 : decode cX6_held 130 = .ok (.aload_n 0, 1) := by decide +kernel
theorem dX6_held_131 : decode cX6_held 131 = .ok (.getfield 26, 3) := by decide +kernel
theorem dX6_held_134 : decode cX6_held 134 = .ok (.invokevirtual 251, 3) := by decide +kernel
theorem dX6_held_137 : decode cX6_held 137 = .ok (.aload_n 0, 1) := by decide +kernel
theorem dX6_held_138 : decode cX6_held 138 = .ok (.getfield 26, 3) := by decide +kernel
theorem dX6_held_141 : decode cX6_held 141 = .ok (.getfield 257, 3) := by decide +kernel
theorem dX6_held_144 : decode cX6_held 144 = .ok (.aload_n 0, 1) := by decide +kernel
theorem dX6_held_145 : decode cX6_held 145 = .ok (.getfield 26, 3) := by decide +kernel
theorem dX6_held_148 : decode cX6_held 148 = .ok (.getfield 257, 3) := by decide +kernel
theorem dX6_held_151 : decode cX6_held 151 = .ok (.iload 7, 2) := by decide +kernel
theorem dX6_held_153 : decode cX6_held 153 = .ok (.laload, 1) := by decide +kernel
theorem dX6_held_154 : decode cX6_held 154 = .ok (.invokestatic 222, 3) := by decide +kernel
theorem dX6_held_157 : decode cX6_held 157 = .ok (.ireturn, 1) := by decide +kernel
set_option maxRecDepth 20000 in
theorem ggX6_image_X4_take : GoodIn wsX6_image wsX4_take := goodIn_r _ [8, 9, 10, 11, 12, 13, 14, 15, 16, 17, 18, 19, 20, 21, 22, 23, 24, 25, 26, 27, 28, 41, 42, 43, 44, 45, 46, 47, 48, 49, 50, 51, 52, 53, 54, 55, 56] (by decide +kernel) (by decide +kernel)
set_option maxRecDepth 20000 in
theorem gX6_image_X4_take : GoodIn wsX6_image (wsV RX6 259 RX4 yX4_take wsX4_take) := goodIn_app (goodIn_of _ (by decide +kernel)) ggX6_image_X4_take
theorem dX6_image_0 : decode cX6_image 0 = .ok (.aload_n 0, 1) := by decide +kernel
theorem dX6_image_1 : decode cX6_image 1 = .ok (.getfield 16, 3) := by decide +kernel
theorem dX6_image_4 : decode cX6_image 4 = .ok (.aload_n 0, 1) := by decide +kernel
theorem dX6_image_5 : decode cX6_image 5 = .ok (.getfield 10, 3) := by decide +kernel
theorem dX6_image_8 : decode cX6_image 8 = .ok (.invokevirtual 259, 3) := by decide +kernel
theorem dX6_image_11 : decode cX6_image 11 = .ok (.aload_n 0, 1) := by decide +kernel
theorem dX6_image_12 : decode cX6_image 12 = .ok (.iconst 1, 1) := by decide +kernel
theorem dX6_image_13 : decode cX6_image 13 = .ok (.putfield 63, 3) := by decide +kernel
theorem dX6_image_16 : decode cX6_image 16 = .ok (.iconst 1, 1) := by decide +kernel
theorem dX6_image_17 : decode cX6_image 17 = .ok (.ireturn, 1) := by decide +kernel
set_option maxRecDepth 20000 in
theorem ggX6_restore_X4_take : GoodIn wsX6_restore wsX4_take := goodIn_r _ [8, 9, 10, 11, 12, 13, 14, 15, 16, 17, 18, 19, 20, 21, 22, 23, 24, 25, 26, 27, 28, 59, 60, 61, 62, 63, 64, 65, 66, 67, 68, 69, 70, 71, 72, 73, 74] (by decide +kernel) (by decide +kernel)
set_option maxRecDepth 20000 in
theorem gX6_restore_X4_take : GoodIn wsX6_restore (wsV RX6 259 RX4 yX4_take wsX4_take) := goodIn_app (goodIn_of _ (by decide +kernel)) ggX6_restore_X4_take
set_option maxRecDepth 20000 in
theorem ggX6_restore_X6_waysChanged : GoodIn wsX6_restore wsX6_waysChanged := goodIn_r _ [33, 34, 35, 47, 48, 49, 50, 51, 52, 53, 54, 55, 56, 57, 58] (by decide +kernel) (by decide +kernel)
set_option maxRecDepth 20000 in
theorem gX6_restore_X6_waysChanged : GoodIn wsX6_restore (wsV RX6 94 RX6 yX6_waysChanged wsX6_waysChanged) := goodIn_app (goodIn_of _ (by decide +kernel)) ggX6_restore_X6_waysChanged
set_option maxRecDepth 20000 in
theorem ggX6_restore_X6_seaChanged : GoodIn wsX6_restore wsX6_seaChanged := goodIn_r _ [39, 40, 35, 41, 42, 43, 44, 45, 46, 47, 48, 49, 50, 51, 52, 53, 54, 55, 56, 57, 58, 75, 76] (by decide +kernel) (by decide +kernel)
set_option maxRecDepth 20000 in
theorem gX6_restore_X6_seaChanged : GoodIn wsX6_restore (wsV RX6 91 RX6 yX6_seaChanged wsX6_seaChanged) := goodIn_app (goodIn_of _ (by decide +kernel)) ggX6_restore_X6_seaChanged
theorem dX6_restore_0 : decode cX6_restore 0 = .ok (.aload_n 0, 1) := by decide +kernel
theorem dX6_restore_1 : decode cX6_restore 1 = .ok (.getfield 63, 3) := by decide +kernel
theorem dX6_restore_4 : decode cX6_restore 4 = .ok (.ifCond .ne 6, 3) := by decide +kernel
theorem dX6_restore_7 : decode cX6_restore 7 = .ok (.bipush (-4), 2) := by decide +kernel
theorem dX6_restore_9 : decode cX6_restore 9 = .ok (.ireturn, 1) := by decide +kernel
theorem dX6_restore_10 : decode cX6_restore 10 = .ok (.aload_n 0, 1) := by decide +kernel
theorem dX6_restore_11 : decode cX6_restore 11 = .ok (.getfield 10, 3) := by decide +kernel
theorem dX6_restore_14 : decode cX6_restore 14 = .ok (.aload_n 0, 1) := by decide +kernel
theorem dX6_restore_15 : decode cX6_restore 15 = .ok (.getfield 16, 3) := by decide +kernel
theorem dX6_restore_18 : decode cX6_restore 18 = .ok (.invokevirtual 259, 3) := by decide +kernel
theorem dX6_restore_21 : decode cX6_restore 21 = .ok (.aload_n 0, 1) := by decide +kernel
theorem dX6_restore_22 : decode cX6_restore 22 = .ok (.invokevirtual 94, 3) := by decide +kernel
theorem dX6_restore_25 : decode cX6_restore 25 = .ok (.aload_n 0, 1) := by decide +kernel
theorem dX6_restore_26 : decode cX6_restore 26 = .ok (.invokevirtual 91, 3) := by decide +kernel
theorem dX6_restore_29 : decode cX6_restore 29 = .ok (.iconst 1, 1) := by decide +kernel
theorem dX6_restore_30 : decode cX6_restore 30 = .ok (.ireturn, 1) := by decide +kernel
set_option maxRecDepth 20000 in
theorem ggX6_sheet_X6_isSheet : GoodIn wsX6_sheet wsX6_isSheet := goodIn_r _ [5] (by decide +kernel) (by decide +kernel)
set_option maxRecDepth 20000 in
theorem gX6_sheet_X6_isSheet : GoodIn wsX6_sheet (va_wsS RX6 262 yX6_isSheet wsX6_isSheet) := goodIn_app (goodIn_of _ (by decide +kernel)) ggX6_sheet_X6_isSheet
set_option maxRecDepth 20000 in
theorem ggX6_sheet_X6_isLane : GoodIn wsX6_sheet wsX6_isLane := goodIn_r _ [8] (by decide +kernel) (by decide +kernel)
set_option maxRecDepth 20000 in
theorem gX6_sheet_X6_isLane : GoodIn wsX6_sheet (va_wsS RX6 265 yX6_isLane wsX6_isLane) := goodIn_app (goodIn_of _ (by decide +kernel)) ggX6_sheet_X6_isLane
set_option maxRecDepth 20000 in
theorem ggX6_sheet_X2_hold : GoodIn wsX6_sheet wsX2_hold := goodIn_r _ [13, 14, 15, 16, 29, 30, 31] (by decide +kernel) (by decide +kernel)
set_option maxRecDepth 20000 in
theorem gX6_sheet_X2_hold : GoodIn wsX6_sheet (wsV RX6 268 RX2 yX2_hold wsX2_hold) := goodIn_app (goodIn_of _ (by decide +kernel)) ggX6_sheet_X2_hold
theorem dX6_sheet_0 : decode cX6_sheet 0 = .ok (.iload_n 1, 1) := by decide +kernel
theorem dX6_sheet_1 : decode cX6_sheet 1 = .ok (.invokestatic 262, 3) := by decide +kernel
theorem dX6_sheet_4 : decode cX6_sheet 4 = .ok (.ifCond .eq 16, 3) := by decide +kernel
theorem dX6_sheet_7 : decode cX6_sheet 7 = .ok (.iload_n 2, 1) := by decide +kernel
theorem dX6_sheet_8 : decode cX6_sheet 8 = .ok (.invokestatic 265, 3) := by decide +kernel
theorem dX6_sheet_11 : decode cX6_sheet 11 = .ok (.ifCond .eq 9, 3) := by decide +kernel
theorem dX6_sheet_14 : decode cX6_sheet 14 = .ok (.iload_n 3, 1) := by decide +kernel
theorem dX6_sheet_15 : decode cX6_sheet 15 = .ok (.bipush 16, 2) := by decide +kernel
theorem dX6_sheet_17 : decode cX6_sheet 17 = .ok (.if_icmp .le 5, 3) := by decide +kernel
theorem dX6_sheet_20 : decode cX6_sheet 20 = .ok (.iconst (-1), 1) := by decide +kernel
theorem dX6_sheet_21 : decode cX6_sheet 21 = .ok (.ireturn, 1) := by decide +kernel
theorem dX6_sheet_22 : decode cX6_sheet 22 = .ok (.iload_n 3, 1) := by decide +kernel
theorem dX6_sheet_23 : decode cX6_sheet 23 = .ok (.ifCond .ge 6, 3) := by decide +kernel
theorem dX6_sheet_26 : decode cX6_sheet 26 = .ok (.bipush (-14), 2) := by decide +kernel
theorem dX6_sheet_28 : decode cX6_sheet 28 = .ok (.ireturn, 1) := by decide +kernel
theorem dX6_sheet_29 : decode cX6_sheet 29 = .ok (.aload_n 0, 1) := by decide +kernel
theorem dX6_sheet_30 : decode cX6_sheet 30 = .ok (.getfield 59, 3) := by decide +kernel
theorem dX6_sheet_33 : decode cX6_sheet 33 = .ok (.iload_n 1, 1) := by decide +kernel
theorem dX6_sheet_34 : decode cX6_sheet 34 = .ok (.aaload, 1) := by decide +kernel
theorem dX6_sheet_35 : decode cX6_sheet 35 = .ok (.iload_n 2, 1) := by decide +kernel
theorem dX6_sheet_36 : decode cX6_sheet 36 = .ok (.iload_n 3, 1) := by decide +kernel
theorem dX6_sheet_37 : decode cX6_sheet 37 = .ok (.invokevirtual 268, 3) := by decide +kernel
theorem dX6_sheet_40 : decode cX6_sheet 40 = .ok (.iload_n 3, 1) := by decide +kernel
theorem dX6_sheet_41 : decode cX6_sheet 41 = .ok (.ireturn, 1) := by decide +kernel
set_option maxRecDepth 20000 in
theorem ggX6_drop_X6_isSheet : GoodIn wsX6_drop wsX6_isSheet := goodIn_r _ [6] (by decide +kernel) (by decide +kernel)
set_option maxRecDepth 20000 in
theorem gX6_drop_X6_isSheet : GoodIn wsX6_drop (va_wsS RX6 262 yX6_isSheet wsX6_isSheet) := goodIn_app (goodIn_of _ (by decide +kernel)) ggX6_drop_X6_isSheet
set_option maxRecDepth 20000 in
theorem ggX6_drop_X2_isNothing : GoodIn wsX6_drop wsX2_isNothing := goodIn_r _ [11, 12, 30, 31, 32] (by decide +kernel) (by decide +kernel)
set_option maxRecDepth 20000 in
theorem gX6_drop_X2_isNothing : GoodIn wsX6_drop (wsV RX6 272 RX2 yX2_isNothing wsX2_isNothing) := goodIn_app (goodIn_of _ (by decide +kernel)) ggX6_drop_X2_isNothing
set_option maxRecDepth 20000 in
theorem ggX6_drop_X2_holdNothing : GoodIn wsX6_drop wsX2_holdNothing := goodIn_r _ [16, 12, 17, 30, 31, 32] (by decide +kernel) (by decide +kernel)
set_option maxRecDepth 20000 in
theorem gX6_drop_X2_holdNothing : GoodIn wsX6_drop (wsV RX6 279 RX2 yX2_holdNothing wsX2_holdNothing) := goodIn_app (goodIn_of _ (by decide +kernel)) ggX6_drop_X2_holdNothing
theorem dX6_drop_0 : decode cX6_drop 0 = .ok (.iload_n 1, 1) := by decide +kernel
theorem dX6_drop_1 : decode cX6_drop 1 = .ok (.invokestatic 262, 3) := by decide +kernel
theorem dX6_drop_4 : decode cX6_drop 4 = .ok (.ifCond .ne 5, 3) := by decide +kernel
theorem dX6_drop_7 : decode cX6_drop 7 = .ok (.iconst (-1), 1) := by decide +kernel
theorem dX6_drop_8 : decode cX6_drop 8 = .ok (.ireturn, 1) := by decide +kernel
theorem dX6_drop_9 : decode cX6_drop 9 = .ok (.aload_n 0, 1) := by decide +kernel
theorem dX6_drop_10 : decode cX6_drop 10 = .ok (.getfield 59, 3) := by decide +kernel
theorem dX6_drop_13 : decode cX6_drop 13 = .ok (.iload_n 1, 1) := by decide +kernel
theorem dX6_drop_14 : decode cX6_drop 14 = .ok (.aaload, 1) := by decide +kernel
theorem dX6_drop_15 : decode cX6_drop 15 = .ok (.astore_n 2, 1) := by decide +kernel
theorem dX6_drop_16 : decode cX6_drop 16 = .ok (.aload_n 2, 1) := by decide +kernel
theorem dX6_drop_17 : decode cX6_drop 17 = .ok (.invokevirtual 272, 3) := by decide +kernel
theorem dX6_drop_20 : decode cX6_drop 20 = .ok (.ifCond .eq 6, 3) := by decide +kernel
theorem dX6_drop_23 : decode cX6_drop 23 = .ok (.bipush (-11), 2) := by decide +kernel
theorem dX6_drop_25 : decode cX6_drop 25 = .ok (.ireturn, 1) := by decide +kernel
theorem dX6_drop_26 : decode cX6_drop 26 = .ok (.aload_n 2, 1) := by decide +kernel
theorem dX6_drop_27 : decode cX6_drop 27 = .ok (.getfield 276, 3) := by decide +kernel
theorem dX6_drop_30 : decode cX6_drop 30 = .ok (.istore_n 3, 1) := by decide +kernel
theorem dX6_drop_31 : decode cX6_drop 31 = .ok (.aload_n 2, 1) := by decide +kernel
theorem dX6_drop_32 : decode cX6_drop 32 = .ok (.invokevirtual 279, 3) := by decide +kernel
theorem dX6_drop_35 : decode cX6_drop 35 = .ok (.iload_n 3, 1) := by decide +kernel
theorem dX6_drop_36 : decode cX6_drop 36 = .ok (.ireturn, 1) := by decide +kernel
set_option maxRecDepth 20000 in
theorem ggX6_item_X6_wrongRow : GoodIn wsX6_item wsX6_wrongRow := goodIn_r _ [6, 1, 7, 8, 9, 5, 10, 11, 12, 13, 14, 15, 16, 17, 18, 19, 20, 21, 22, 23, 24, 31, 32, 33, 34, 35, 36, 37, 38, 39, 40, 41, 42, 43, 44, 45] (by decide +kernel) (by decide +kernel)
set_option maxRecDepth 20000 in
theorem gX6_item_X6_wrongRow : GoodIn wsX6_item (wsV RX6 233 RX6 yX6_wrongRow wsX6_wrongRow) := goodIn_app (goodIn_of _ (by decide +kernel)) ggX6_item_X6_wrongRow
set_option maxRecDepth 20000 in
theorem ggX6_item_X2_put : GoodIn wsX6_item wsX2_put := goodIn_r _ [28, 29, 19, 30, 21, 22, 17, 23, 24, 43, 44, 45] (by decide +kernel) (by decide +kernel)
set_option maxRecDepth 20000 in
theorem gX6_item_X2_put : GoodIn wsX6_item (wsV RX6 282 RX2 yX2_put wsX2_put) := goodIn_app (goodIn_of _ (by decide +kernel)) ggX6_item_X2_put
theorem dX6_item_0 : decode cX6_item 0 = .ok (.aload_n 0, 1) := by decide +kernel
theorem dX6_item_1 : decode cX6_item 1 = .ok (.iload_n 1, 1) := by decide +kernel
theorem dX6_item_2 : decode cX6_item 2 = .ok (.iload_n 2, 1) := by decide +kernel
theorem dX6_item_3 : decode cX6_item 3 = .ok (.iload_n 3, 1) := by decide +kernel
theorem dX6_item_4 : decode cX6_item 4 = .ok (.iconst 1, 1) := by decide +kernel
theorem dX6_item_5 : decode cX6_item 5 = .ok (.invokevirtual 233, 3) := by decide +kernel
theorem dX6_item_8 : decode cX6_item 8 = .ok (.istore 5, 2) := by decide +kernel
theorem dX6_item_10 : decode cX6_item 10 = .ok (.iload 5, 2) := by decide +kernel
theorem dX6_item_12 : decode cX6_item 12 = .ok (.ifCond .ge 6, 3) := by decide +kernel
theorem dX6_item_15 : decode cX6_item 15 = .ok (.iload 5, 2) := by decide +kernel
theorem dX6_item_17 : decode cX6_item 17 = .ok (.ireturn, 1) := by decide +kernel
theorem dX6_item_18 : decode cX6_item 18 = .ok (.aload_n 0, 1) := by decide +kernel
theorem dX6_item_19 : decode cX6_item 19 = .ok (.getfield 59, 3) := by decide +kernel
theorem dX6_item_22 : decode cX6_item 22 = .ok (.iload_n 1, 1) := by decide +kernel
theorem dX6_item_23 : decode cX6_item 23 = .ok (.aaload, 1) := by decide +kernel
theorem dX6_item_24 : decode cX6_item 24 = .ok (.iload_n 3, 1) := by decide +kernel
theorem dX6_item_25 : decode cX6_item 25 = .ok (.iload 4, 2) := by decide +kernel
theorem dX6_item_27 : decode cX6_item 27 = .ok (.invokevirtual 282, 3) := by decide +kernel
theorem dX6_item_30 : decode cX6_item 30 = .ok (.iconst 1, 1) := by decide +kernel
theorem dX6_item_31 : decode cX6_item 31 = .ok (.ireturn, 1) := by decide +kernel
set_option maxRecDepth 20000 in
theorem ggX6_film_X6_wrongRow : GoodIn wsX6_film wsX6_wrongRow := goodIn_r _ [9, 3, 10, 11, 12, 8, 13, 14, 15, 16, 17, 18, 19, 20, 21, 22, 23, 24, 25, 26, 27, 119, 120, 121, 122, 123, 124, 125, 126, 127, 128, 129, 130, 167, 168, 169] (by decide +kernel) (by decide +kernel)
set_option maxRecDepth 20000 in
theorem gX6_film_X6_wrongRow : GoodIn wsX6_film (wsV RX6 233 RX6 yX6_wrongRow wsX6_wrongRow) := goodIn_app (goodIn_of _ (by decide +kernel)) ggX6_film_X6_wrongRow
set_option maxRecDepth 20000 in
theorem ggX6_film_X6_walked : GoodIn wsX6_film wsX6_walked := goodIn_r _ [31, 32, 33, 1, 34, 35, 36, 37, 38, 39, 40, 41, 42, 43, 44, 45, 46, 47, 48, 49, 50, 51, 52, 53, 54, 55, 56, 57, 58, 59, 60, 61, 62, 63, 64, 65, 66, 67, 68, 69, 70, 71, 72, 8, 73, 74, 75, 76, 77, 78, 79, 80, 81, 82, 83, 84, 85, 86, 87, 88, 89, 90, 91, 92, 93, 94, 95, 96, 97, 98, 99, 100, 101, 102, 103, 104, 105, 106, 107, 108, 119, 120, 121, 122, 123, 124, 125, 126, 127, 128, 129, 130, 131, 132, 133, 134, 135, 136, 137, 138, 139, 140, 141, 142, 143, 144, 145, 146, 147, 148, 149, 150, 151, 152, 153, 154, 155, 156, 157, 158, 159, 160, 161, 162, 163, 164, 165, 166] (by decide +kernel) (by decide +kernel)
set_option maxRecDepth 20000 in
theorem gX6_film_X6_walked : GoodIn wsX6_film (wsV RX6 121 RX6 yX6_walked wsX6_walked) := goodIn_app (goodIn_of _ (by decide +kernel)) ggX6_film_X6_walked
set_option maxRecDepth 20000 in
theorem ggX6_film_X5_find : GoodIn wsX6_film wsX5_find := goodIn_r _ [112, 61, 64, 67, 63, 55, 68, 69, 70, 37, 71, 52, 50, 48, 72, 8, 73, 74, 75, 76, 77, 78, 79, 80, 81, 49, 82, 83, 84, 85, 46, 40, 86, 87, 88, 89, 90, 91, 92, 93, 94, 95, 96, 62, 56, 65, 97, 98, 99, 100, 101, 102, 103, 66, 104, 54, 53, 105, 106, 107, 108, 147, 148, 149, 150, 151, 152, 153, 154, 155, 156, 157, 158, 159, 160, 161, 162, 163, 164, 165, 166] (by decide +kernel) (by decide +kernel)
set_option maxRecDepth 20000 in
theorem gX6_film_X5_find : GoodIn wsX6_film (wsV RX6 133 RX5 yX5_find wsX5_find) := goodIn_app (goodIn_of _ (by decide +kernel)) ggX6_film_X5_find
set_option maxRecDepth 20000 in
theorem ggX6_film_X2_put : GoodIn wsX6_film wsX2_put := goodIn_r _ [116, 117, 22, 118, 24, 25, 20, 26, 27, 167, 168, 169] (by decide +kernel) (by decide +kernel)
set_option maxRecDepth 20000 in
theorem gX6_film_X2_put : GoodIn wsX6_film (wsV RX6 282 RX2 yX2_put wsX2_put) := goodIn_app (goodIn_of _ (by decide +kernel)) ggX6_film_X2_put
theorem dX6_film_0 : decode cX6_film 0 = .ok (.iload_n 1, 1) := by decide +kernel
theorem dX6_film_1 : decode cX6_film 1 = .ok (.ifCond .ge 5, 3) := by decide +kernel
theorem dX6_film_4 : decode cX6_film 4 = .ok (.iconst (-1), 1) := by decide +kernel
theorem dX6_film_5 : decode cX6_film 5 = .ok (.ireturn, 1) := by decide +kernel
theorem dX6_film_6 : decode cX6_film 6 = .ok (.aload_n 0, 1) := by decide +kernel
theorem dX6_film_7 : decode cX6_film 7 = .ok (.getfield 10, 3) := by decide +kernel
theorem dX6_film_10 : decode cX6_film 10 = .ok (.getfield 85, 3) := by decide +kernel
theorem dX6_film_13 : decode cX6_film 13 = .ok (.iconst 2, 1) := by decide +kernel
theorem dX6_film_14 : decode cX6_film 14 = .ok (.iaload, 1) := by decide +kernel
theorem dX6_film_15 : decode cX6_film 15 = .ok (.iconst 1, 1) := by decide +kernel
theorem dX6_film_16 : decode cX6_film 16 = .ok (.iadd, 1) := by decide +kernel
theorem dX6_film_17 : decode cX6_film 17 = .ok (.istore 5, 2) := by decide +kernel
theorem dX6_film_19 : decode cX6_film 19 = .ok (.aload_n 0, 1) := by decide +kernel
theorem dX6_film_20 : decode cX6_film 20 = .ok (.iload_n 2, 1) := by decide +kernel
theorem dX6_film_21 : decode cX6_film 21 = .ok (.iload_n 3, 1) := by decide +kernel
theorem dX6_film_22 : decode cX6_film 22 = .ok (.iload 4, 2) := by decide +kernel
theorem dX6_film_24 : decode cX6_film 24 = .ok (.iload 5, 2) := by decide +kernel
theorem dX6_film_26 : decode cX6_film 26 = .ok (.invokevirtual 233, 3) := by decide +kernel
theorem dX6_film_29 : decode cX6_film 29 = .ok (.istore 6, 2) := by decide +kernel
theorem dX6_film_31 : decode cX6_film 31 = .ok (.iload 6, 2) := by decide +kernel
theorem dX6_film_33 : decode cX6_film 33 = .ok (.ifCond .ge 6, 3) := by decide +kernel
theorem dX6_film_36 : decode cX6_film 36 = .ok (.iload 6, 2) := by decide +kernel
theorem dX6_film_38 : decode cX6_film 38 = .ok (.ireturn, 1) := by decide +kernel
theorem dX6_film_39 : decode cX6_film 39 = .ok (.aload_n 0, 1) := by decide +kernel
theorem dX6_film_40 : decode cX6_film 40 = .ok (.invokevirtual 121, 3) := by decide +kernel
theorem dX6_film_43 : decode cX6_film 43 = .ok (.astore 7, 2) := by decide +kernel
theorem dX6_film_45 : decode cX6_film 45 = .ok (.aload 7, 2) := by decide +kernel
theorem dX6_film_47 : decode cX6_film 47 = .ok (.iload_n 1, 1) := by decide +kernel
theorem dX6_film_48 : decode cX6_film 48 = .ok (.invokevirtual 133, 3) := by decide +kernel
theorem dX6_film_51 : decode cX6_film 51 = .ok (.ifCond .ne 6, 3) := by decide +kernel
theorem dX6_film_54 : decode cX6_film 54 = .ok (.bipush (-2), 2) := by decide +kernel
theorem dX6_film_56 : decode cX6_film 56 = .ok (.ireturn, 1) := by decide +kernel
theorem dX6_film_57 : decode cX6_film 57 = .ok (.iconst 0, 1) := by decide +kernel
theorem dX6_film_58 : decode cX6_film 58 = .ok (.istore 8, 2) := by decide +kernel
theorem dX6_film_60 : decode cX6_film 60 = .ok (.iload 8, 2) := by decide +kernel
theorem dX6_film_62 : decode cX6_film 62 = .ok (.iload 5, 2) := by decide +kernel
theorem dX6_film_64 : decode cX6_film 64 = .ok (.if_icmp .ge 31, 3) := by decide +kernel
theorem dX6_film_67 : decode cX6_film 67 = .ok (.aload_n 0, 1) := by decide +kernel
theorem dX6_film_68 : decode cX6_film 68 = .ok (.getfield 59, 3) := by decide +kernel
theorem dX6_film_71 : decode cX6_film 71 = .ok (.iload_n 2, 1) := by decide +kernel
theorem dX6_film_72 : decode cX6_film 72 = .ok (.aaload, 1) := by decide +kernel
theorem dX6_film_73 : decode cX6_film 73 = .ok (.iload 4, 2) := by decide +kernel
theorem dX6_film_75 : decode cX6_film 75 = .ok (.iload 8, 2) := by decide +kernel
theorem dX6_film_77 : decode cX6_film 77 = .ok (.iadd, 1) := by decide +kernel
theorem dX6_film_78 : decode cX6_film 78 = .ok (.aload 7, 2) := by decide +kernel
theorem dX6_film_80 : decode cX6_film 80 = .ok (.getfield 145, 3) := by decide +kernel
theorem dX6_film_83 : decode cX6_film 83 = .ok (.iload 8, 2) := by decide +kernel
theorem dX6_film_85 : decode cX6_film 85 = .ok (.iaload, 1) := by decide +kernel
theorem dX6_film_86 : decode cX6_film 86 = .ok (.invokevirtual 282, 3) := by decide +kernel
theorem dX6_film_89 : decode cX6_film 89 = .ok (.iinc 8 1, 3) := by decide +kernel
theorem dX6_film_92 : decode cX6_film 92 = .ok (.goto (-32), 3) := by decide +kernel
theorem dX6_film_95 : decode cX6_film 95 = .ok (.iload 5, 2) := by decide +kernel
theorem dX6_film_97 : decode cX6_film 97 = .ok (.ireturn, 1) := by decide +kernel
set_option maxRecDepth 20000 in
theorem ggX6_copy_X6_isSheet : GoodIn wsX6_copy wsX6_isSheet := goodIn_r _ [11] (by decide +kernel) (by decide +kernel)
set_option maxRecDepth 20000 in
theorem gX6_copy_X6_isSheet : GoodIn wsX6_copy (va_wsS RX6 262 yX6_isSheet wsX6_isSheet) := goodIn_app (goodIn_of _ (by decide +kernel)) ggX6_copy_X6_isSheet
set_option maxRecDepth 20000 in
theorem ggX6_copy_X2_isNothing : GoodIn wsX6_copy wsX2_isNothing := goodIn_r _ [16, 17, 35, 36, 37] (by decide +kernel) (by decide +kernel)
set_option maxRecDepth 20000 in
theorem gX6_copy_X2_isNothing : GoodIn wsX6_copy (wsV RX6 272 RX2 yX2_isNothing wsX2_isNothing) := goodIn_app (goodIn_of _ (by decide +kernel)) ggX6_copy_X2_isNothing
set_option maxRecDepth 20000 in
theorem ggX6_copy_X2_has : GoodIn wsX6_copy wsX2_has := goodIn_r _ [21, 22, 35, 36, 37] (by decide +kernel) (by decide +kernel)
set_option maxRecDepth 20000 in
theorem gX6_copy_X2_has : GoodIn wsX6_copy (wsV RX6 288 RX2 yX2_has wsX2_has) := goodIn_app (goodIn_of _ (by decide +kernel)) ggX6_copy_X2_has
theorem dX6_copy_0 : decode cX6_copy 0 = .ok (.iload_n 1, 1) := by decide +kernel
theorem dX6_copy_1 : decode cX6_copy 1 = .ok (.invokestatic 262, 3) := by decide +kernel
theorem dX6_copy_4 : decode cX6_copy 4 = .ok (.ifCond .eq 10, 3) := by decide +kernel
theorem dX6_copy_7 : decode cX6_copy 7 = .ok (.iload_n 3, 1) := by decide +kernel
theorem dX6_copy_8 : decode cX6_copy 8 = .ok (.invokestatic 262, 3) := by decide +kernel
theorem dX6_copy_11 : decode cX6_copy 11 = .ok (.ifCond .ne 5, 3) := by decide +kernel
theorem dX6_copy_14 : decode cX6_copy 14 = .ok (.iconst (-1), 1) := by decide +kernel
theorem dX6_copy_15 : decode cX6_copy 15 = .ok (.ireturn, 1) := by decide +kernel
theorem dX6_copy_16 : decode cX6_copy 16 = .ok (.aload_n 0, 1) := by decide +kernel
theorem dX6_copy_17 : decode cX6_copy 17 = .ok (.getfield 59, 3) := by decide +kernel
theorem dX6_copy_20 : decode cX6_copy 20 = .ok (.iload_n 1, 1) := by decide +kernel
theorem dX6_copy_21 : decode cX6_copy 21 = .ok (.aaload, 1) := by decide +kernel
theorem dX6_copy_22 : decode cX6_copy 22 = .ok (.astore 6, 2) := by decide +kernel
theorem dX6_copy_24 : decode cX6_copy 24 = .ok (.aload_n 0, 1) := by decide +kernel
theorem dX6_copy_25 : decode cX6_copy 25 = .ok (.getfield 59, 3) := by decide +kernel
theorem dX6_copy_28 : decode cX6_copy 28 = .ok (.iload_n 3, 1) := by decide +kernel
theorem dX6_copy_29 : decode cX6_copy 29 = .ok (.aaload, 1) := by decide +kernel
theorem dX6_copy_30 : decode cX6_copy 30 = .ok (.astore 7, 2) := by decide +kernel
theorem dX6_copy_32 : decode cX6_copy 32 = .ok (.aload 6, 2) := by decide +kernel
theorem dX6_copy_34 : decode cX6_copy 34 = .ok (.invokevirtual 272, 3) := by decide +kernel
theorem dX6_copy_37 : decode cX6_copy 37 = .ok (.ifCond .ne 11, 3) := by decide +kernel
theorem dX6_copy_40 : decode cX6_copy 40 = .ok (.aload 7, 2) := by decide +kernel
theorem dX6_copy_42 : decode cX6_copy 42 = .ok (.invokevirtual 272, 3) := by decide +kernel
theorem dX6_copy_45 : decode cX6_copy 45 = .ok (.ifCond .eq 6, 3) := by decide +kernel
theorem dX6_copy_48 : decode cX6_copy 48 = .ok (.bipush (-11), 2) := by decide +kernel
theorem dX6_copy_50 : decode cX6_copy 50 = .ok (.ireturn, 1) := by decide +kernel
theorem dX6_copy_51 : decode cX6_copy 51 = .ok (.aload 6, 2) := by decide +kernel
theorem dX6_copy_53 : decode cX6_copy 53 = .ok (.getfield 285, 3) := by decide +kernel
theorem dX6_copy_56 : decode cX6_copy 56 = .ok (.aload 7, 2) := by decide +kernel
theorem dX6_copy_58 : decode cX6_copy 58 = .ok (.getfield 285, 3) := by decide +kernel
theorem dX6_copy_61 : decode cX6_copy 61 = .ok (.if_icmp .eq 6, 3) := by decide +kernel
theorem dX6_copy_64 : decode cX6_copy 64 = .ok (.bipush (-12), 2) := by decide +kernel
theorem dX6_copy_66 : decode cX6_copy 66 = .ok (.ireturn, 1) := by decide +kernel
theorem dX6_copy_67 : decode cX6_copy 67 = .ok (.aload 6, 2) := by decide +kernel
theorem dX6_copy_69 : decode cX6_copy 69 = .ok (.iload_n 2, 1) := by decide +kernel
theorem dX6_copy_70 : decode cX6_copy 70 = .ok (.iload 5, 2) := by decide +kernel
theorem dX6_copy_72 : decode cX6_copy 72 = .ok (.invokevirtual 288, 3) := by decide +kernel
theorem dX6_copy_75 : decode cX6_copy 75 = .ok (.ifCond .eq 15, 3) := by decide +kernel
theorem dX6_copy_78 : decode cX6_copy 78 = .ok (.aload 7, 2) := by decide +kernel
theorem dX6_copy_80 : decode cX6_copy 80 = .ok (.iload 4, 2) := by decide +kernel
theorem dX6_copy_82 : decode cX6_copy 82 = .ok (.iload 5, 2) := by decide +kernel
theorem dX6_copy_84 : decode cX6_copy 84 = .ok (.invokevirtual 288, 3) := by decide +kernel
theorem dX6_copy_87 : decode cX6_copy 87 = .ok (.ifCond .ne 6, 3) := by decide +kernel
theorem dX6_copy_90 : decode cX6_copy 90 = .ok (.bipush (-13), 2) := by decide +kernel
theorem dX6_copy_92 : decode cX6_copy 92 = .ok (.ireturn, 1) := by decide +kernel
theorem dX6_copy_93 : decode cX6_copy 93 = .ok (.aload 6, 2) := by decide +kernel
theorem dX6_copy_95 : decode cX6_copy 95 = .ok (.getfield 292, 3) := by decide +kernel
theorem dX6_copy_98 : decode cX6_copy 98 = .ok (.iload_n 2, 1) := by decide +kernel
theorem dX6_copy_99 : decode cX6_copy 99 = .ok (.aload 7, 2) := by decide +kernel
theorem dX6_copy_101 : decode cX6_copy 101 = .ok (.getfield 292, 3) := by decide +kernel
theorem dX6_copy_104 : decode cX6_copy 104 = .ok (.iload 4, 2) := by decide +kernel
theorem dX6_copy_106 : decode cX6_copy 106 = .ok (.iload 5, 2) := by decide +kernel
theorem dX6_copy_108 : decode cX6_copy 108 = .ok (.invokestatic 295, 3) := by decide +kernel
theorem dX6_copy_111 : decode cX6_copy 111 = .ok (.iload 5, 2) := by decide +kernel
theorem dX6_copy_113 : decode cX6_copy 113 = .ok (.ireturn, 1) := by decide +kernel
theorem dX6_within_0 : decode cX6_within 0 = .ok (.iload_n 0, 1) := by decide +kernel
theorem dX6_within_1 : decode cX6_within 1 = .ok (.iload_n 1, 1) := by decide +kernel
theorem dX6_within_2 : decode cX6_within 2 = .ok (.if_icmp .lt 12, 3) := by decide +kernel
theorem dX6_within_5 : decode cX6_within 5 = .ok (.iload_n 0, 1) := by decide +kernel
theorem dX6_within_6 : decode cX6_within 6 = .ok (.iload_n 2, 1) := by decide +kernel
theorem dX6_within_7 : decode cX6_within 7 = .ok (.if_icmp .gt 7, 3) := by decide +kernel
theorem dX6_within_10 : decode cX6_within 10 = .ok (.iconst 1, 1) := by decide +kernel
theorem dX6_within_11 : decode cX6_within 11 = .ok (.goto 4, 3) := by decide +kernel
theorem dX6_within_14 : decode cX6_within 14 = .ok (.iconst 0, 1) := by decide +kernel
theorem dX6_within_15 : decode cX6_within 15 = .ok (.ireturn, 1) := by decide +kernel
theorem dX6_isCell_0 : decode cX6_isCell 0 = .ok (.iload_n 0, 1) := by decide +kernel
theorem dX6_isCell_1 : decode cX6_isCell 1 = .ok (.ifCond .lt 13, 3) := by decide +kernel
theorem dX6_isCell_4 : decode cX6_isCell 4 = .ok (.iload_n 0, 1) := by decide +kernel
theorem dX6_isCell_5 : decode cX6_isCell 5 = .ok (.bipush 100, 2) := by decide +kernel
theorem dX6_isCell_7 : decode cX6_isCell 7 = .ok (.if_icmp .ge 7, 3) := by decide +kernel
theorem dX6_isCell_10 : decode cX6_isCell 10 = .ok (.iconst 1, 1) := by decide +kernel
theorem dX6_isCell_11 : decode cX6_isCell 11 = .ok (.goto 4, 3) := by decide +kernel
theorem dX6_isCell_14 : decode cX6_isCell 14 = .ok (.iconst 0, 1) := by decide +kernel
theorem dX6_isCell_15 : decode cX6_isCell 15 = .ok (.ireturn, 1) := by decide +kernel
theorem dX6_isSheet_0 : decode cX6_isSheet 0 = .ok (.iload_n 0, 1) := by decide +kernel
theorem dX6_isSheet_1 : decode cX6_isSheet 1 = .ok (.ifCond .lt 12, 3) := by decide +kernel
theorem dX6_isSheet_4 : decode cX6_isSheet 4 = .ok (.iload_n 0, 1) := by decide +kernel
theorem dX6_isSheet_5 : decode cX6_isSheet 5 = .ok (.iconst 4, 1) := by decide +kernel
theorem dX6_isSheet_6 : decode cX6_isSheet 6 = .ok (.if_icmp .ge 7, 3) := by decide +kernel
theorem dX6_isSheet_9 : decode cX6_isSheet 9 = .ok (.iconst 1, 1) := by decide +kernel
theorem dX6_isSheet_10 : decode cX6_isSheet 10 = .ok (.goto 4, 3) := by decide +kernel
theorem dX6_isSheet_13 : decode cX6_isSheet 13 = .ok (.iconst 0, 1) := by decide +kernel
theorem dX6_isSheet_14 : decode cX6_isSheet 14 = .ok (.ireturn, 1) := by decide +kernel
theorem dX6_isLane_0 : decode cX6_isLane 0 = .ok (.iload_n 0, 1) := by decide +kernel
theorem dX6_isLane_1 : decode cX6_isLane 1 = .ok (.ifCond .lt 12, 3) := by decide +kernel
theorem dX6_isLane_4 : decode cX6_isLane 4 = .ok (.iload_n 0, 1) := by decide +kernel
theorem dX6_isLane_5 : decode cX6_isLane 5 = .ok (.iconst 3, 1) := by decide +kernel
theorem dX6_isLane_6 : decode cX6_isLane 6 = .ok (.if_icmp .ge 7, 3) := by decide +kernel
theorem dX6_isLane_9 : decode cX6_isLane 9 = .ok (.iconst 1, 1) := by decide +kernel
theorem dX6_isLane_10 : decode cX6_isLane 10 = .ok (.goto 4, 3) := by decide +kernel
theorem dX6_isLane_13 : decode cX6_isLane 13 = .ok (.iconst 0, 1) := by decide +kernel
theorem dX6_isLane_14 : decode cX6_isLane 14 = .ok (.ireturn, 1) := by decide +kernel
theorem dX6_ahead_0 : decode cX6_ahead 0 = .ok (.iload_n 0, 1) := by decide +kernel
theorem dX6_ahead_1 : decode cX6_ahead 1 = .ok (.ifCond .lt 19, 3) := by decide +kernel
theorem dX6_ahead_4 : decode cX6_ahead 4 = .ok (.iload_n 0, 1) := by decide +kernel
theorem dX6_ahead_5 : decode cX6_ahead 5 = .ok (.bipush 100, 2) := by decide +kernel
theorem dX6_ahead_7 : decode cX6_ahead 7 = .ok (.if_icmp .ge 13, 3) := by decide +kernel
theorem dX6_ahead_10 : decode cX6_ahead 10 = .ok (.iload_n 1, 1) := by decide +kernel
theorem dX6_ahead_11 : decode cX6_ahead 11 = .ok (.ifCond .lt 9, 3) := by decide +kernel
theorem dX6_ahead_14 : decode cX6_ahead 14 = .ok (.iload_n 1, 1) := by decide +kernel
theorem dX6_ahead_15 : decode cX6_ahead 15 = .ok (.bipush 8, 2) := by decide +kernel
theorem dX6_ahead_17 : decode cX6_ahead 17 = .ok (.if_icmp .lt 5, 3) := by decide +kernel
theorem dX6_ahead_20 : decode cX6_ahead 20 = .ok (.iconst (-1), 1) := by decide +kernel
theorem dX6_ahead_21 : decode cX6_ahead 21 = .ok (.ireturn, 1) := by decide +kernel
theorem dX6_ahead_22 : decode cX6_ahead 22 = .ok (.iload_n 0, 1) := by decide +kernel
theorem dX6_ahead_23 : decode cX6_ahead 23 = .ok (.bipush 10, 2) := by decide +kernel
theorem dX6_ahead_25 : decode cX6_ahead 25 = .ok (.idiv, 1) := by decide +kernel
theorem dX6_ahead_26 : decode cX6_ahead 26 = .ok (.iload_n 2, 1) := by decide +kernel
theorem dX6_ahead_27 : decode cX6_ahead 27 = .ok (.getstatic 301, 3) := by decide +kernel
theorem dX6_ahead_30 : decode cX6_ahead 30 = .ok (.iload_n 1, 1) := by decide +kernel
theorem dX6_ahead_31 : decode cX6_ahead 31 = .ok (.iaload, 1) := by decide +kernel
theorem dX6_ahead_32 : decode cX6_ahead 32 = .ok (.imul, 1) := by decide +kernel
theorem dX6_ahead_33 : decode cX6_ahead 33 = .ok (.iadd, 1) := by decide +kernel
theorem dX6_ahead_34 : decode cX6_ahead 34 = .ok (.istore_n 3, 1) := by decide +kernel
theorem dX6_ahead_35 : decode cX6_ahead 35 = .ok (.iload_n 0, 1) := by decide +kernel
theorem dX6_ahead_36 : decode cX6_ahead 36 = .ok (.bipush 10, 2) := by decide +kernel
theorem dX6_ahead_38 : decode cX6_ahead 38 = .ok (.irem, 1) := by decide +kernel
theorem dX6_ahead_39 : decode cX6_ahead 39 = .ok (.iload_n 2, 1) := by decide +kernel
theorem dX6_ahead_40 : decode cX6_ahead 40 = .ok (.getstatic 304, 3) := by decide +kernel
theorem dX6_ahead_43 : decode cX6_ahead 43 = .ok (.iload_n 1, 1) := by decide +kernel
theorem dX6_ahead_44 : decode cX6_ahead 44 = .ok (.iaload, 1) := by decide +kernel
theorem dX6_ahead_45 : decode cX6_ahead 45 = .ok (.imul, 1) := by decide +kernel
theorem dX6_ahead_46 : decode cX6_ahead 46 = .ok (.iadd, 1) := by decide +kernel
theorem dX6_ahead_47 : decode cX6_ahead 47 = .ok (.istore 4, 2) := by decide +kernel
theorem dX6_ahead_49 : decode cX6_ahead 49 = .ok (.iload_n 3, 1) := by decide +kernel
theorem dX6_ahead_50 : decode cX6_ahead 50 = .ok (.ifCond .lt 25, 3) := by decide +kernel
theorem dX6_ahead_53 : decode cX6_ahead 53 = .ok (.iload_n 3, 1) := by decide +kernel
theorem dX6_ahead_54 : decode cX6_ahead 54 = .ok (.bipush 10, 2) := by decide +kernel
theorem dX6_ahead_56 : decode cX6_ahead 56 = .ok (.if_icmp .ge 19, 3) := by decide +kernel
theorem dX6_ahead_59 : decode cX6_ahead 59 = .ok (.iload 4, 2) := by decide +kernel
theorem dX6_ahead_61 : decode cX6_ahead 61 = .ok (.ifCond .lt 14, 3) := by decide +kernel
theorem dX6_ahead_64 : decode cX6_ahead 64 = .ok (.iload 4, 2) := by decide +kernel
theorem dX6_ahead_66 : decode cX6_ahead 66 = .ok (.bipush 10, 2) := by decide +kernel
theorem dX6_ahead_68 : decode cX6_ahead 68 = .ok (.if_icmp .ge 7, 3) := by decide +kernel
theorem dX6_ahead_71 : decode cX6_ahead 71 = .ok (.iconst 1, 1) := by decide +kernel
theorem dX6_ahead_72 : decode cX6_ahead 72 = .ok (.goto 4, 3) := by decide +kernel
theorem dX6_ahead_75 : decode cX6_ahead 75 = .ok (.iconst 0, 1) := by decide +kernel
theorem dX6_ahead_76 : decode cX6_ahead 76 = .ok (.istore 5, 2) := by decide +kernel
theorem dX6_ahead_78 : decode cX6_ahead 78 = .ok (.iload 5, 2) := by decide +kernel
theorem dX6_ahead_80 : decode cX6_ahead 80 = .ok (.ifCond .eq 13, 3) := by decide +kernel
theorem dX6_ahead_83 : decode cX6_ahead 83 = .ok (.bipush 10, 2) := by decide +kernel
theorem dX6_ahead_85 : decode cX6_ahead 85 = .ok (.iload_n 3, 1) := by decide +kernel
theorem dX6_ahead_86 : decode cX6_ahead 86 = .ok (.imul, 1) := by decide +kernel
theorem dX6_ahead_87 : decode cX6_ahead 87 = .ok (.iload 4, 2) := by decide +kernel
theorem dX6_ahead_89 : decode cX6_ahead 89 = .ok (.iadd, 1) := by decide +kernel
theorem dX6_ahead_90 : decode cX6_ahead 90 = .ok (.goto 4, 3) := by decide +kernel
theorem dX6_ahead_93 : decode cX6_ahead 93 = .ok (.iconst (-1), 1) := by decide +kernel
theorem dX6_ahead_94 : decode cX6_ahead 94 = .ok (.ireturn, 1) := by decide +kernel
set_option maxRecDepth 20000 in
theorem ggX6_wrongRow_X6_isSheet : GoodIn wsX6_wrongRow wsX6_isSheet := goodIn_r _ [6] (by decide +kernel) (by decide +kernel)
set_option maxRecDepth 20000 in
theorem gX6_wrongRow_X6_isSheet : GoodIn wsX6_wrongRow (va_wsS RX6 262 yX6_isSheet wsX6_isSheet) := goodIn_app (goodIn_of _ (by decide +kernel)) ggX6_wrongRow_X6_isSheet
set_option maxRecDepth 20000 in
theorem ggX6_wrongRow_X6_isLane : GoodIn wsX6_wrongRow wsX6_isLane := goodIn_r _ [9] (by decide +kernel) (by decide +kernel)
set_option maxRecDepth 20000 in
theorem gX6_wrongRow_X6_isLane : GoodIn wsX6_wrongRow (va_wsS RX6 265 yX6_isLane wsX6_isLane) := goodIn_app (goodIn_of _ (by decide +kernel)) ggX6_wrongRow_X6_isLane
set_option maxRecDepth 20000 in
theorem ggX6_wrongRow_X2_isNothing : GoodIn wsX6_wrongRow wsX2_isNothing := goodIn_r _ [14, 15, 33, 34, 35] (by decide +kernel) (by decide +kernel)
set_option maxRecDepth 20000 in
theorem gX6_wrongRow_X2_isNothing : GoodIn wsX6_wrongRow (wsV RX6 272 RX2 yX2_isNothing wsX2_isNothing) := goodIn_app (goodIn_of _ (by decide +kernel)) ggX6_wrongRow_X2_isNothing
set_option maxRecDepth 20000 in
theorem ggX6_wrongRow_X2_has : GoodIn wsX6_wrongRow wsX2_has := goodIn_r _ [19, 20, 33, 34, 35] (by decide +kernel) (by decide +kernel)
set_option maxRecDepth 20000 in
theorem gX6_wrongRow_X2_has : GoodIn wsX6_wrongRow (wsV RX6 288 RX2 yX2_has wsX2_has) := goodIn_app (goodIn_of _ (by decide +kernel)) ggX6_wrongRow_X2_has
theorem dX6_wrongRow_0 : decode cX6_wrongRow 0 = .ok (.iload_n 1, 1) := by decide +kernel
theorem dX6_wrongRow_1 : decode cX6_wrongRow 1 = .ok (.invokestatic 262, 3) := by decide +kernel
theorem dX6_wrongRow_4 : decode cX6_wrongRow 4 = .ok (.ifCond .eq 10, 3) := by decide +kernel
theorem dX6_wrongRow_7 : decode cX6_wrongRow 7 = .ok (.iload_n 2, 1) := by decide +kernel
theorem dX6_wrongRow_8 : decode cX6_wrongRow 8 = .ok (.invokestatic 265, 3) := by decide +kernel
theorem dX6_wrongRow_11 : decode cX6_wrongRow 11 = .ok (.ifCond .ne 5, 3) := by decide +kernel
theorem dX6_wrongRow_14 : decode cX6_wrongRow 14 = .ok (.iconst (-1), 1) := by decide +kernel
theorem dX6_wrongRow_15 : decode cX6_wrongRow 15 = .ok (.ireturn, 1) := by decide +kernel
theorem dX6_wrongRow_16 : decode cX6_wrongRow 16 = .ok (.aload_n 0, 1) := by decide +kernel
theorem dX6_wrongRow_17 : decode cX6_wrongRow 17 = .ok (.getfield 59, 3) := by decide +kernel
theorem dX6_wrongRow_20 : decode cX6_wrongRow 20 = .ok (.iload_n 1, 1) := by decide +kernel
theorem dX6_wrongRow_21 : decode cX6_wrongRow 21 = .ok (.aaload, 1) := by decide +kernel
theorem dX6_wrongRow_22 : decode cX6_wrongRow 22 = .ok (.astore 5, 2) := by decide +kernel
theorem dX6_wrongRow_24 : decode cX6_wrongRow 24 = .ok (.aload 5, 2) := by decide +kernel
theorem dX6_wrongRow_26 : decode cX6_wrongRow 26 = .ok (.invokevirtual 272, 3) := by decide +kernel
theorem dX6_wrongRow_29 : decode cX6_wrongRow 29 = .ok (.ifCond .eq 6, 3) := by decide +kernel
theorem dX6_wrongRow_32 : decode cX6_wrongRow 32 = .ok (.bipush (-11), 2) := by decide +kernel
theorem dX6_wrongRow_34 : decode cX6_wrongRow 34 = .ok (.ireturn, 1) := by decide +kernel
theorem dX6_wrongRow_35 : decode cX6_wrongRow 35 = .ok (.aload 5, 2) := by decide +kernel
theorem dX6_wrongRow_37 : decode cX6_wrongRow 37 = .ok (.getfield 285, 3) := by decide +kernel
theorem dX6_wrongRow_40 : decode cX6_wrongRow 40 = .ok (.iload_n 2, 1) := by decide +kernel
theorem dX6_wrongRow_41 : decode cX6_wrongRow 41 = .ok (.if_icmp .eq 6, 3) := by decide +kernel
theorem dX6_wrongRow_44 : decode cX6_wrongRow 44 = .ok (.bipush (-12), 2) := by decide +kernel
theorem dX6_wrongRow_46 : decode cX6_wrongRow 46 = .ok (.ireturn, 1) := by decide +kernel
theorem dX6_wrongRow_47 : decode cX6_wrongRow 47 = .ok (.aload 5, 2) := by decide +kernel
theorem dX6_wrongRow_49 : decode cX6_wrongRow 49 = .ok (.iload_n 3, 1) := by decide +kernel
theorem dX6_wrongRow_50 : decode cX6_wrongRow 50 = .ok (.iload 4, 2) := by decide +kernel
theorem dX6_wrongRow_52 : decode cX6_wrongRow 52 = .ok (.invokevirtual 288, 3) := by decide +kernel
theorem dX6_wrongRow_55 : decode cX6_wrongRow 55 = .ok (.ifCond .eq 7, 3) := by decide +kernel
theorem dX6_wrongRow_58 : decode cX6_wrongRow 58 = .ok (.iconst 0, 1) := by decide +kernel
theorem dX6_wrongRow_59 : decode cX6_wrongRow 59 = .ok (.goto 5, 3) := by decide +kernel
theorem dX6_wrongRow_62 : decode cX6_wrongRow 62 = .ok (.bipush (-13), 2) := by decide +kernel
theorem dX6_wrongRow_64 : decode cX6_wrongRow 64 = .ok (.ireturn, 1) := by decide +kernel
theorem dX6_waysChanged_0 : decode cX6_waysChanged 0 = .ok (.aload_n 0, 1) := by decide +kernel
theorem dX6_waysChanged_1 : decode cX6_waysChanged 1 = .ok (.iconst 1, 1) := by decide +kernel
theorem dX6_waysChanged_2 : decode cX6_waysChanged 2 = .ok (.putfield 67, 3) := by decide +kernel
theorem dX6_waysChanged_5 : decode cX6_waysChanged 5 = .ok (.aload_n 0, 1) := by decide +kernel
theorem dX6_waysChanged_6 : decode cX6_waysChanged 6 = .ok (.iconst 1, 1) := by decide +kernel
theorem dX6_waysChanged_7 : decode cX6_waysChanged 7 = .ok (.putfield 70, 3) := by decide +kernel
theorem dX6_waysChanged_10 : decode cX6_waysChanged 10 = .ok (.return_, 1) := by decide +kernel
set_option maxRecDepth 20000 in
theorem ggX6_seaChanged_X1_forget : GoodIn wsX6_seaChanged wsX1_forget := goodIn_r _ [7, 8, 21, 22] (by decide +kernel) (by decide +kernel)
set_option maxRecDepth 20000 in
theorem gX6_seaChanged_X1_forget : GoodIn wsX6_seaChanged (wsV RX6 307 RX1 yX1_forget wsX1_forget) := goodIn_app (goodIn_of _ (by decide +kernel)) ggX6_seaChanged_X1_forget
theorem dX6_seaChanged_0 : decode cX6_seaChanged 0 = .ok (.aload_n 0, 1) := by decide +kernel
theorem dX6_seaChanged_1 : decode cX6_seaChanged 1 = .ok (.getfield 34, 3) := by decide +kernel
theorem dX6_seaChanged_4 : decode cX6_seaChanged 4 = .ok (.invokevirtual 307, 3) := by decide +kernel
theorem dX6_seaChanged_7 : decode cX6_seaChanged 7 = .ok (.aload_n 0, 1) := by decide +kernel
theorem dX6_seaChanged_8 : decode cX6_seaChanged 8 = .ok (.iconst 1, 1) := by decide +kernel
theorem dX6_seaChanged_9 : decode cX6_seaChanged 9 = .ok (.putfield 70, 3) := by decide +kernel
theorem dX6_seaChanged_12 : decode cX6_seaChanged 12 = .ok (.return_, 1) := by decide +kernel
set_option maxRecDepth 20000 in
theorem ggX6_walked_X5_begin : GoodIn wsX6_walked wsX5_begin := goodIn_r _ [8, 9, 10, 11, 12, 13, 14, 15, 16, 17, 18, 19, 20, 21, 22, 23, 24, 25, 26, 92, 93, 94, 95, 96, 97, 98, 99, 100, 101, 102, 103, 104, 105, 106, 107, 108, 109, 110, 111, 112, 113, 114, 115, 116, 117, 118, 119, 120, 121, 122, 123, 124, 125, 126, 127] (by decide +kernel) (by decide +kernel)
set_option maxRecDepth 20000 in
theorem gX6_walked_X5_begin : GoodIn wsX6_walked (wsV RX6 241 RX5 yX5_begin wsX5_begin) := goodIn_app (goodIn_of _ (by decide +kernel)) ggX6_walked_X5_begin
set_option maxRecDepth 20000 in
theorem ggX6_walked_X5_goAll : GoodIn wsX6_walked wsX5_goAll := goodIn_r _ [30, 31, 32, 33, 34, 35, 36, 25, 37, 20, 38, 39, 40, 7, 41, 22, 18, 42, 43, 44, 45, 46, 47, 48, 49, 50, 51, 52, 19, 53, 54, 55, 56, 16, 10, 57, 58, 59, 60, 61, 62, 63, 64, 65, 66, 67, 26, 68, 69, 70, 71, 72, 73, 74, 75, 24, 23, 76, 77, 78, 79, 108, 109, 110, 111, 112, 113, 114, 115, 116, 117, 118, 119, 120, 121, 122, 123, 124, 125, 126, 127] (by decide +kernel) (by decide +kernel)
set_option maxRecDepth 20000 in
theorem gX6_walked_X5_goAll : GoodIn wsX6_walked (wsV RX6 251 RX5 yX5_goAll wsX5_goAll) := goodIn_app (goodIn_of _ (by decide +kernel)) ggX6_walked_X5_goAll
theorem dX6_walked_0 : decode cX6_walked 0 = .ok (.aload_n 0, 1) := by decide +kernel
theorem dX6_walked_1 : decode cX6_walked 1 = .ok (.getfield 67, 3) := by decide +kernel
theorem dX6_walked_4 : decode cX6_walked 4 = .ok (.ifCond .eq 26, 3) := by decide +kernel
theorem dX6_walked_7 : decode cX6_walked 7 = .ok (.aload_n 0, 1) := by decide +kernel
theorem dX6_walked_8 : decode cX6_walked 8 = .ok (.getfield 22, 3) := by decide +kernel
theorem dX6_walked_11 : decode cX6_walked 11 = .ok (.aload_n 0, 1) := by decide +kernel
theorem dX6_walked_12 : decode cX6_walked 12 = .ok (.getfield 10, 3) := by decide +kernel
theorem dX6_walked_15 : decode cX6_walked 15 = .ok (.invokevirtual 241, 3) := by decide +kernel
theorem dX6_walked_18 : decode cX6_walked 18 = .ok (.aload_n 0, 1) := by decide +kernel
theorem dX6_walked_19 : decode cX6_walked 19 = .ok (.getfield 22, 3) := by decide +kernel
theorem dX6_walked_22 : decode cX6_walked 22 = .ok (.invokevirtual 251, 3) := by decide +kernel
theorem dX6_walked_25 : decode cX6_walked 25 = .ok (.aload_n 0, 1) := by decide +kernel
theorem dX6_walked_26 : decode cX6_walked 26 = .ok (.iconst 0, 1) := by decide +kernel
theorem dX6_walked_27 : decode cX6_walked 27 = .ok (.putfield 67, 3) := by decide +kernel
theorem dX6_walked_30 : decode cX6_walked 30 = .ok (.aload_n 0, 1) := by decide +kernel
theorem dX6_walked_31 : decode cX6_walked 31 = .ok (.getfield 22, 3) := by decide +kernel
theorem dX6_walked_34 : decode cX6_walked 34 = .ok (.areturn, 1) := by decide +kernel
set_option maxRecDepth 20000 in
theorem ggX6_weighed_X6_walked : GoodIn wsX6_weighed wsX6_walked := goodIn_r _ [8, 9, 10, 11, 12, 13, 14, 15, 16, 17, 18, 19, 20, 21, 22, 23, 24, 25, 26, 27, 28, 29, 30, 31, 32, 33, 34, 35, 36, 37, 38, 39, 40, 41, 42, 43, 44, 45, 46, 47, 48, 49, 50, 7, 51, 52, 53, 54, 55, 56, 57, 58, 59, 60, 61, 62, 63, 64, 65, 66, 67, 68, 69, 70, 71, 72, 73, 74, 75, 76, 77, 78, 79, 80, 81, 82, 83, 84, 85, 86, 139, 140, 141, 142, 143, 144, 145, 146, 147, 148, 149, 150, 171, 172, 173, 174, 175, 176, 177, 178, 179, 180, 181, 182, 183, 184, 185, 186, 151, 152, 153, 154, 155, 156, 157, 158, 159, 160, 161, 162, 163, 164, 165, 166, 167, 168, 169, 170] (by decide +kernel) (by decide +kernel)
set_option maxRecDepth 20000 in
theorem gX6_weighed_X6_walked : GoodIn wsX6_weighed (wsV RX6 121 RX6 yX6_walked wsX6_walked) := goodIn_app (goodIn_of _ (by decide +kernel)) ggX6_weighed_X6_walked
set_option maxRecDepth 20000 in
theorem ggX6_weighed_X0_weigh : GoodIn wsX6_weighed wsX0_weigh := goodIn_r _ [91, 92, 93, 94, 95, 96, 97, 98, 99, 100, 101, 102, 103, 104, 105, 106, 107, 108, 109, 110, 111, 112, 113, 114, 115, 116, 117, 118, 119, 120, 121, 122, 123, 124, 125, 126, 127, 128, 129, 130, 131, 50, 7, 51, 52, 53, 132, 133, 134, 135, 65, 66, 67, 136, 137, 138, 187, 188, 189, 190, 171, 172, 173, 174, 175, 176, 177, 178, 179, 180, 181, 182, 183, 184, 185, 186, 191, 192] (by decide +kernel) (by decide +kernel)
set_option maxRecDepth 20000 in
theorem gX6_weighed_X0_weigh : GoodIn wsX6_weighed (wsV RX6 310 RX0 yX0_weigh wsX0_weigh) := goodIn_app (goodIn_of _ (by decide +kernel)) ggX6_weighed_X0_weigh
theorem dX6_weighed_0 : decode cX6_weighed 0 = .ok (.aload_n 0, 1) := by decide +kernel
theorem dX6_weighed_1 : decode cX6_weighed 1 = .ok (.invokevirtual 121, 3) := by decide +kernel
theorem dX6_weighed_4 : decode cX6_weighed 4 = .ok (.astore_n 1, 1) := by decide +kernel
theorem dX6_weighed_5 : decode cX6_weighed 5 = .ok (.aload_n 0, 1) := by decide +kernel
theorem dX6_weighed_6 : decode cX6_weighed 6 = .ok (.getfield 70, 3) := by decide +kernel
theorem dX6_weighed_9 : decode cX6_weighed 9 = .ok (.ifCond .eq 20, 3) := by decide +kernel
theorem dX6_weighed_12 : decode cX6_weighed 12 = .ok (.aload_n 0, 1) := by decide +kernel
theorem dX6_weighed_13 : decode cX6_weighed 13 = .ok (.getfield 43, 3) := by decide +kernel
theorem dX6_weighed_16 : decode cX6_weighed 16 = .ok (.aload_n 1, 1) := by decide +kernel
theorem dX6_weighed_17 : decode cX6_weighed 17 = .ok (.getfield 257, 3) := by decide +kernel
theorem dX6_weighed_20 : decode cX6_weighed 20 = .ok (.iconst (-1), 1) := by decide +kernel
theorem dX6_weighed_21 : decode cX6_weighed 21 = .ok (.invokevirtual 310, 3) := by decide +kernel
theorem dX6_weighed_24 : decode cX6_weighed 24 = .ok (.aload_n 0, 1) := by decide +kernel
theorem dX6_weighed_25 : decode cX6_weighed 25 = .ok (.iconst 0, 1) := by decide +kernel
theorem dX6_weighed_26 : decode cX6_weighed 26 = .ok (.putfield 70, 3) := by decide +kernel
theorem dX6_weighed_29 : decode cX6_weighed 29 = .ok (.aload_n 0, 1) := by decide +kernel
theorem dX6_weighed_30 : decode cX6_weighed 30 = .ok (.getfield 43, 3) := by decide +kernel
theorem dX6_weighed_33 : decode cX6_weighed 33 = .ok (.areturn, 1) := by decide +kernel
theorem dX6_isPiece_0 : decode cX6_isPiece 0 = .ok (.iload_n 1, 1) := by decide +kernel
theorem dX6_isPiece_1 : decode cX6_isPiece 1 = .ok (.ifCond .lt 18, 3) := by decide +kernel
theorem dX6_isPiece_4 : decode cX6_isPiece 4 = .ok (.iload_n 1, 1) := by decide +kernel
theorem dX6_isPiece_5 : decode cX6_isPiece 5 = .ok (.aload_n 0, 1) := by decide +kernel
theorem dX6_isPiece_6 : decode cX6_isPiece 6 = .ok (.getfield 10, 3) := by decide +kernel
theorem dX6_isPiece_9 : decode cX6_isPiece 9 = .ok (.getfield 164, 3) := by decide +kernel
theorem dX6_isPiece_12 : decode cX6_isPiece 12 = .ok (.if_icmp .ge 7, 3) := by decide +kernel
theorem dX6_isPiece_15 : decode cX6_isPiece 15 = .ok (.iconst 1, 1) := by decide +kernel
theorem dX6_isPiece_16 : decode cX6_isPiece 16 = .ok (.goto 4, 3) := by decide +kernel
theorem dX6_isPiece_19 : decode cX6_isPiece 19 = .ok (.iconst 0, 1) := by decide +kernel
theorem dX6_isPiece_20 : decode cX6_isPiece 20 = .ok (.ireturn, 1) := by decide +kernel
set_option maxRecDepth 20000 in
theorem ggX6_movedBy_X6_isPiece : GoodIn wsX6_movedBy wsX6_isPiece := goodIn_r _ [10, 5, 11, 153, 154, 155, 156, 157, 158, 159, 160, 161, 162, 163, 164, 185, 186, 187, 188, 189, 190, 191, 192, 193, 194, 195, 196, 197, 198, 199, 200] (by decide +kernel) (by decide +kernel)
set_option maxRecDepth 20000 in
theorem gX6_movedBy_X6_isPiece : GoodIn wsX6_movedBy (wsV RX6 186 RX6 yX6_isPiece wsX6_isPiece) := goodIn_app (goodIn_of _ (by decide +kernel)) ggX6_movedBy_X6_isPiece
set_option maxRecDepth 20000 in
theorem ggX6_movedBy_X0_weigh : GoodIn wsX6_movedBy wsX0_weigh := goodIn_r _ [16, 17, 18, 19, 20, 21, 22, 23, 24, 25, 26, 27, 28, 29, 30, 31, 32, 33, 34, 35, 36, 37, 38, 39, 40, 41, 42, 43, 44, 45, 46, 47, 48, 49, 50, 51, 52, 53, 54, 55, 56, 57, 9, 58, 59, 60, 61, 62, 63, 64, 65, 66, 67, 68, 69, 70, 201, 202, 203, 204, 185, 186, 187, 188, 189, 190, 191, 192, 193, 194, 195, 196, 197, 198, 199, 200, 205, 206] (by decide +kernel) (by decide +kernel)
set_option maxRecDepth 20000 in
theorem gX6_movedBy_X0_weigh : GoodIn wsX6_movedBy (wsV RX6 310 RX0 yX0_weigh wsX0_weigh) := goodIn_app (goodIn_of _ (by decide +kernel)) ggX6_movedBy_X0_weigh
set_option maxRecDepth 20000 in
theorem ggX6_movedBy_X0_apart : GoodIn wsX6_movedBy wsX0_apart := goodIn_r _ [74, 17, 75, 65, 66, 67, 76, 77, 78, 15, 79, 80, 21, 201, 202, 203, 204] (by decide +kernel) (by decide +kernel)
set_option maxRecDepth 20000 in
theorem gX6_movedBy_X0_apart : GoodIn wsX6_movedBy (wsV RX6 314 RX0 yX0_apart wsX0_apart) := goodIn_app (goodIn_of _ (by decide +kernel)) ggX6_movedBy_X0_apart
set_option maxRecDepth 20000 in
theorem ggX6_movedBy_X5_begin : GoodIn wsX6_movedBy wsX5_begin := goodIn_r _ [85, 86, 87, 88, 89, 90, 91, 92, 93, 94, 95, 96, 97, 98, 99, 100, 101, 102, 103, 185, 186, 187, 188, 189, 190, 191, 192, 193, 194, 195, 196, 197, 198, 199, 200, 165, 166, 167, 168, 169, 170, 171, 172, 173, 174, 175, 176, 177, 178, 179, 180, 181, 182, 183, 184] (by decide +kernel) (by decide +kernel)
set_option maxRecDepth 20000 in
theorem gX6_movedBy_X5_begin : GoodIn wsX6_movedBy (wsV RX6 241 RX5 yX5_begin wsX5_begin) := goodIn_app (goodIn_of _ (by decide +kernel)) ggX6_movedBy_X5_begin
set_option maxRecDepth 20000 in
theorem ggX6_movedBy_X5_leaveOut : GoodIn wsX6_movedBy wsX5_leaveOut := goodIn_r _ [107, 102, 99, 93, 87, 165, 166, 167, 168, 169, 170, 171, 172, 173, 174, 175, 176, 177, 178, 179, 180, 181, 182, 183, 184] (by decide +kernel) (by decide +kernel)
set_option maxRecDepth 20000 in
theorem gX6_movedBy_X5_leaveOut : GoodIn wsX6_movedBy (wsV RX6 318 RX5 yX5_leaveOut wsX5_leaveOut) := goodIn_app (goodIn_of _ (by decide +kernel)) ggX6_movedBy_X5_leaveOut
set_option maxRecDepth 20000 in
theorem ggX6_movedBy_X5_goAll : GoodIn wsX6_movedBy wsX5_goAll := goodIn_r _ [111, 112, 113, 114, 115, 116, 117, 102, 118, 97, 119, 120, 121, 84, 122, 99, 95, 57, 9, 58, 59, 60, 123, 124, 125, 126, 127, 128, 96, 129, 130, 131, 132, 93, 87, 133, 65, 66, 67, 134, 135, 136, 137, 138, 139, 140, 103, 141, 142, 143, 144, 145, 146, 147, 148, 101, 100, 149, 150, 151, 152, 165, 166, 167, 168, 169, 170, 171, 172, 173, 174, 175, 176, 177, 178, 179, 180, 181, 182, 183, 184] (by decide +kernel) (by decide +kernel)
set_option maxRecDepth 20000 in
theorem gX6_movedBy_X5_goAll : GoodIn wsX6_movedBy (wsV RX6 251 RX5 yX5_goAll wsX5_goAll) := goodIn_app (goodIn_of _ (by decide +kernel)) ggX6_movedBy_X5_goAll
theorem dX6_movedBy_0 : decode cX6_movedBy 0 = .ok (.iload_n 1, 1) := by decide +kernel
theorem dX6_movedBy_1 : decode cX6_movedBy 1 = .ok (.bipush 12, 2) := by decide +kernel
theorem dX6_movedBy_3 : decode cX6_movedBy 3 = .ok (.if_icmp .ge 14, 3) := by decide +kernel
theorem dX6_movedBy_6 : decode cX6_movedBy 6 = .ok (.aload_n 0, 1) := by decide +kernel
theorem dX6_movedBy_7 : decode cX6_movedBy 7 = .ok (.iload_n 1, 1) := by decide +kernel
theorem dX6_movedBy_8 : decode cX6_movedBy 8 = .ok (.bipush 8, 2) := by decide +kernel
theorem dX6_movedBy_10 : decode cX6_movedBy 10 = .ok (.isub, 1) := by decide +kernel
theorem dX6_movedBy_11 : decode cX6_movedBy 11 = .ok (.invokevirtual 186, 3) := by decide +kernel
theorem dX6_movedBy_14 : decode cX6_movedBy 14 = .ok (.ifCond .eq 27, 3) := by decide +kernel
theorem dX6_movedBy_17 : decode cX6_movedBy 17 = .ok (.aload_n 0, 1) := by decide +kernel
theorem dX6_movedBy_18 : decode cX6_movedBy 18 = .ok (.getfield 47, 3) := by decide +kernel
theorem dX6_movedBy_21 : decode cX6_movedBy 21 = .ok (.aload_n 0, 1) := by decide +kernel
theorem dX6_movedBy_22 : decode cX6_movedBy 22 = .ok (.getfield 22, 3) := by decide +kernel
theorem dX6_movedBy_25 : decode cX6_movedBy 25 = .ok (.getfield 257, 3) := by decide +kernel
theorem dX6_movedBy_28 : decode cX6_movedBy 28 = .ok (.iload_n 1, 1) := by decide +kernel
theorem dX6_movedBy_29 : decode cX6_movedBy 29 = .ok (.invokevirtual 310, 3) := by decide +kernel
theorem dX6_movedBy_32 : decode cX6_movedBy 32 = .ok (.aload_n 2, 1) := by decide +kernel
theorem dX6_movedBy_33 : decode cX6_movedBy 33 = .ok (.aload_n 0, 1) := by decide +kernel
theorem dX6_movedBy_34 : decode cX6_movedBy 34 = .ok (.getfield 47, 3) := by decide +kernel
theorem dX6_movedBy_37 : decode cX6_movedBy 37 = .ok (.invokevirtual 314, 3) := by decide +kernel
theorem dX6_movedBy_40 : decode cX6_movedBy 40 = .ok (.ireturn, 1) := by decide +kernel
theorem dX6_movedBy_41 : decode cX6_movedBy 41 = .ok (.iload_n 1, 1) := by decide +kernel
theorem dX6_movedBy_42 : decode cX6_movedBy 42 = .ok (.bipush 8, 2) := by decide +kernel
theorem dX6_movedBy_44 : decode cX6_movedBy 44 = .ok (.if_icmp .lt 5, 3) := by decide +kernel
theorem dX6_movedBy_47 : decode cX6_movedBy 47 = .ok (.iconst (-1), 1) := by decide +kernel
theorem dX6_movedBy_48 : decode cX6_movedBy 48 = .ok (.ireturn, 1) := by decide +kernel
theorem dX6_movedBy_49 : decode cX6_movedBy 49 = .ok (.aload_n 0, 1) := by decide +kernel
theorem dX6_movedBy_50 : decode cX6_movedBy 50 = .ok (.getfield 26, 3) := by decide +kernel
theorem dX6_movedBy_53 : decode cX6_movedBy 53 = .ok (.aload_n 0, 1) := by decide +kernel
theorem dX6_movedBy_54 : decode cX6_movedBy 54 = .ok (.getfield 10, 3) := by decide +kernel
theorem dX6_movedBy_57 : decode cX6_movedBy 57 = .ok (.invokevirtual 241, 3) := by decide +kernel
theorem dX6_movedBy_60 : decode cX6_movedBy 60 = .ok (.aload_n 0, 1) := by decide +kernel
theorem dX6_movedBy_61 : decode cX6_movedBy 61 = .ok (.getfield 26, 3) := by decide +kernel
theorem dX6_movedBy_64 : decode cX6_movedBy 64 = .ok (.iload_n 1, 1) := by decide +kernel
theorem dX6_movedBy_65 : decode cX6_movedBy 65 = .ok (.invokevirtual 318, 3) := by decide +kernel
theorem dX6_movedBy_68 : decode cX6_movedBy 68 = .ok (.ifCond .ne 5, 3) := by decide +kernel
theorem dX6_movedBy_71 : decode cX6_movedBy 71 = .ok (.iconst 0, 1) := by decide +kernel
theorem dX6_movedBy_72 : decode cX6_movedBy 72 = .ok (.ireturn, 1) := by decide +kernel
theorem dX6_movedBy_73 : decode cX6_movedBy 73 = .ok (.aload_n 0, 1) := by decide +kernel
theorem dX6_movedBy_74 : decode cX6_movedBy 74 = .ok (.getfield 26, 3) := by decide +kernel
theorem dX6_movedBy_77 : decode cX6_movedBy 77 = .ok (.invokevirtual 251, 3) := by decide +kernel
theorem dX6_movedBy_80 : decode cX6_movedBy 80 = .ok (.aload_n 0, 1) := by decide +kernel
theorem dX6_movedBy_81 : decode cX6_movedBy 81 = .ok (.getfield 47, 3) := by decide +kernel
theorem dX6_movedBy_84 : decode cX6_movedBy 84 = .ok (.aload_n 0, 1) := by decide +kernel
theorem dX6_movedBy_85 : decode cX6_movedBy 85 = .ok (.getfield 26, 3) := by decide +kernel
theorem dX6_movedBy_88 : decode cX6_movedBy 88 = .ok (.getfield 257, 3) := by decide +kernel
theorem dX6_movedBy_91 : decode cX6_movedBy 91 = .ok (.iconst (-1), 1) := by decide +kernel
theorem dX6_movedBy_92 : decode cX6_movedBy 92 = .ok (.invokevirtual 310, 3) := by decide +kernel
theorem dX6_movedBy_95 : decode cX6_movedBy 95 = .ok (.aload_n 2, 1) := by decide +kernel
theorem dX6_movedBy_96 : decode cX6_movedBy 96 = .ok (.aload_n 0, 1) := by decide +kernel
theorem dX6_movedBy_97 : decode cX6_movedBy 97 = .ok (.getfield 47, 3) := by decide +kernel
theorem dX6_movedBy_100 : decode cX6_movedBy 100 = .ok (.invokevirtual 314, 3) := by decide +kernel
theorem dX6_movedBy_103 : decode cX6_movedBy 103 = .ok (.ireturn, 1) := by decide +kernel
theorem dX6_howManyAbove_0 : decode cX6_howManyAbove 0 = .ok (.iconst 0, 1) := by decide +kernel
theorem dX6_howManyAbove_1 : decode cX6_howManyAbove 1 = .ok (.istore_n 2, 1) := by decide +kernel
theorem dX6_howManyAbove_2 : decode cX6_howManyAbove 2 = .ok (.aload_n 0, 1) := by decide +kernel
theorem dX6_howManyAbove_3 : decode cX6_howManyAbove 3 = .ok (.astore_n 3, 1) := by decide +kernel
theorem dX6_howManyAbove_4 : decode cX6_howManyAbove 4 = .ok (.aload_n 3, 1) := by decide +kernel
theorem dX6_howManyAbove_5 : decode cX6_howManyAbove 5 = .ok (.arraylength, 1) := by decide +kernel
theorem dX6_howManyAbove_6 : decode cX6_howManyAbove 6 = .ok (.istore 4, 2) := by decide +kernel
theorem dX6_howManyAbove_8 : decode cX6_howManyAbove 8 = .ok (.iconst 0, 1) := by decide +kernel
theorem dX6_howManyAbove_9 : decode cX6_howManyAbove 9 = .ok (.istore 5, 2) := by decide +kernel
theorem dX6_howManyAbove_11 : decode cX6_howManyAbove 11 = .ok (.iload 5, 2) := by decide +kernel
theorem dX6_howManyAbove_13 : decode cX6_howManyAbove 13 = .ok (.iload 4, 2) := by decide +kernel
theorem dX6_howManyAbove_15 : decode cX6_howManyAbove 15 = .ok (.if_icmp .ge 29, 3) := by decide +kernel
theorem dX6_howManyAbove_18 : decode cX6_howManyAbove 18 = .ok (.aload_n 3, 1) := by decide +kernel
theorem dX6_howManyAbove_19 : decode cX6_howManyAbove 19 = .ok (.iload 5, 2) := by decide +kernel
theorem dX6_howManyAbove_21 : decode cX6_howManyAbove 21 = .ok (.iaload, 1) := by decide +kernel
theorem dX6_howManyAbove_22 : decode cX6_howManyAbove 22 = .ok (.istore 6, 2) := by decide +kernel
theorem dX6_howManyAbove_24 : decode cX6_howManyAbove 24 = .ok (.iload_n 2, 1) := by decide +kernel
theorem dX6_howManyAbove_25 : decode cX6_howManyAbove 25 = .ok (.iload 6, 2) := by decide +kernel
theorem dX6_howManyAbove_27 : decode cX6_howManyAbove 27 = .ok (.iload_n 1, 1) := by decide +kernel
theorem dX6_howManyAbove_28 : decode cX6_howManyAbove 28 = .ok (.if_icmp .le 7, 3) := by decide +kernel
theorem dX6_howManyAbove_31 : decode cX6_howManyAbove 31 = .ok (.iconst 1, 1) := by decide +kernel
theorem dX6_howManyAbove_32 : decode cX6_howManyAbove 32 = .ok (.goto 4, 3) := by decide +kernel
theorem dX6_howManyAbove_35 : decode cX6_howManyAbove 35 = .ok (.iconst 0, 1) := by decide +kernel
theorem dX6_howManyAbove_36 : decode cX6_howManyAbove 36 = .ok (.iadd, 1) := by decide +kernel
theorem dX6_howManyAbove_37 : decode cX6_howManyAbove 37 = .ok (.istore_n 2, 1) := by decide +kernel
theorem dX6_howManyAbove_38 : decode cX6_howManyAbove 38 = .ok (.iinc 5 1, 3) := by decide +kernel
theorem dX6_howManyAbove_41 : decode cX6_howManyAbove 41 = .ok (.goto (-30), 3) := by decide +kernel
theorem dX6_howManyAbove_44 : decode cX6_howManyAbove 44 = .ok (.iload_n 2, 1) := by decide +kernel
theorem dX6_howManyAbove_45 : decode cX6_howManyAbove 45 = .ok (.ireturn, 1) := by decide +kernel
theorem dX6_howManyGreater_0 : decode cX6_howManyGreater 0 = .ok (.iconst 0, 1) := by decide +kernel
theorem dX6_howManyGreater_1 : decode cX6_howManyGreater 1 = .ok (.istore_n 3, 1) := by decide +kernel
theorem dX6_howManyGreater_2 : decode cX6_howManyGreater 2 = .ok (.aload_n 0, 1) := by decide +kernel
theorem dX6_howManyGreater_3 : decode cX6_howManyGreater 3 = .ok (.astore 4, 2) := by decide +kernel
theorem dX6_howManyGreater_5 : decode cX6_howManyGreater 5 = .ok (.aload 4, 2) := by decide +kernel
theorem dX6_howManyGreater_7 : decode cX6_howManyGreater 7 = .ok (.arraylength, 1) := by decide +kernel
theorem dX6_howManyGreater_8 : decode cX6_howManyGreater 8 = .ok (.istore 5, 2) := by decide +kernel
theorem dX6_howManyGreater_10 : decode cX6_howManyGreater 10 = .ok (.iconst 0, 1) := by decide +kernel
theorem dX6_howManyGreater_11 : decode cX6_howManyGreater 11 = .ok (.istore 6, 2) := by decide +kernel
theorem dX6_howManyGreater_13 : decode cX6_howManyGreater 13 = .ok (.iload 6, 2) := by decide +kernel
theorem dX6_howManyGreater_15 : decode cX6_howManyGreater 15 = .ok (.iload 5, 2) := by decide +kernel
theorem dX6_howManyGreater_17 : decode cX6_howManyGreater 17 = .ok (.if_icmp .ge 31, 3) := by decide +kernel
theorem dX6_howManyGreater_20 : decode cX6_howManyGreater 20 = .ok (.aload 4, 2) := by decide +kernel
theorem dX6_howManyGreater_22 : decode cX6_howManyGreater 22 = .ok (.iload 6, 2) := by decide +kernel
theorem dX6_howManyGreater_24 : decode cX6_howManyGreater 24 = .ok (.laload, 1) := by decide +kernel
theorem dX6_howManyGreater_25 : decode cX6_howManyGreater 25 = .ok (.lstore 7, 2) := by decide +kernel
theorem dX6_howManyGreater_27 : decode cX6_howManyGreater 27 = .ok (.iload_n 3, 1) := by decide +kernel
theorem dX6_howManyGreater_28 : decode cX6_howManyGreater 28 = .ok (.lload 7, 2) := by decide +kernel
theorem dX6_howManyGreater_30 : decode cX6_howManyGreater 30 = .ok (.lload_n 1, 1) := by decide +kernel
theorem dX6_howManyGreater_31 : decode cX6_howManyGreater 31 = .ok (.lcmp, 1) := by decide +kernel
theorem dX6_howManyGreater_32 : decode cX6_howManyGreater 32 = .ok (.ifCond .le 7, 3) := by decide +kernel
theorem dX6_howManyGreater_35 : decode cX6_howManyGreater 35 = .ok (.iconst 1, 1) := by decide +kernel
theorem dX6_howManyGreater_36 : decode cX6_howManyGreater 36 = .ok (.goto 4, 3) := by decide +kernel
theorem dX6_howManyGreater_39 : decode cX6_howManyGreater 39 = .ok (.iconst 0, 1) := by decide +kernel
theorem dX6_howManyGreater_40 : decode cX6_howManyGreater 40 = .ok (.iadd, 1) := by decide +kernel
theorem dX6_howManyGreater_41 : decode cX6_howManyGreater 41 = .ok (.istore_n 3, 1) := by decide +kernel
theorem dX6_howManyGreater_42 : decode cX6_howManyGreater 42 = .ok (.iinc 6 1, 3) := by decide +kernel
theorem dX6_howManyGreater_45 : decode cX6_howManyGreater 45 = .ok (.goto (-32), 3) := by decide +kernel
theorem dX6_howManyGreater_48 : decode cX6_howManyGreater 48 = .ok (.iload_n 3, 1) := by decide +kernel
theorem dX6_howManyGreater_49 : decode cX6_howManyGreater 49 = .ok (.ireturn, 1) := by decide +kernel
set_option maxRecDepth 20000 in
theorem ggX6_partOf_X6_greatestCommon : GoodIn wsX6_partOf wsX6_greatestCommon := goodIn_r _ [5] (by decide +kernel) (by decide +kernel)
set_option maxRecDepth 20000 in
theorem gX6_partOf_X6_greatestCommon : GoodIn wsX6_partOf (va_wsS RX6 323 yX6_greatestCommon wsX6_greatestCommon) := goodIn_app (goodIn_of _ (by decide +kernel)) ggX6_partOf_X6_greatestCommon
theorem dX6_partOf_0 : decode cX6_partOf 0 = .ok (.lload_n 2, 1) := by decide +kernel
theorem dX6_partOf_1 : decode cX6_partOf 1 = .ok (.lconst 0, 1) := by decide +kernel
theorem dX6_partOf_2 : decode cX6_partOf 2 = .ok (.lcmp, 1) := by decide +kernel
theorem dX6_partOf_3 : decode cX6_partOf 3 = .ok (.ifCond .gt 7, 3) := by decide +kernel
theorem dX6_partOf_6 : decode cX6_partOf 6 = .ok (.ldc2_w 321, 3) := by decide +kernel
theorem dX6_partOf_9 : decode cX6_partOf 9 = .ok (.lreturn, 1) := by decide +kernel
theorem dX6_partOf_10 : decode cX6_partOf 10 = .ok (.lload_n 0, 1) := by decide +kernel
theorem dX6_partOf_11 : decode cX6_partOf 11 = .ok (.lload_n 2, 1) := by decide +kernel
theorem dX6_partOf_12 : decode cX6_partOf 12 = .ok (.invokestatic 323, 3) := by decide +kernel
theorem dX6_partOf_15 : decode cX6_partOf 15 = .ok (.lstore 5, 2) := by decide +kernel
theorem dX6_partOf_17 : decode cX6_partOf 17 = .ok (.lload 5, 2) := by decide +kernel
theorem dX6_partOf_19 : decode cX6_partOf 19 = .ok (.lconst 0, 1) := by decide +kernel
theorem dX6_partOf_20 : decode cX6_partOf 20 = .ok (.lcmp, 1) := by decide +kernel
theorem dX6_partOf_21 : decode cX6_partOf 21 = .ok (.ifCond .gt 7, 3) := by decide +kernel
theorem dX6_partOf_24 : decode cX6_partOf 24 = .ok (.ldc2_w 321, 3) := by decide +kernel
theorem dX6_partOf_27 : decode cX6_partOf 27 = .ok (.lreturn, 1) := by decide +kernel
theorem dX6_partOf_28 : decode cX6_partOf 28 = .ok (.iload 4, 2) := by decide +kernel
theorem dX6_partOf_30 : decode cX6_partOf 30 = .ok (.ifCond .ne 7, 3) := by decide +kernel
theorem dX6_partOf_33 : decode cX6_partOf 33 = .ok (.lload_n 0, 1) := by decide +kernel
theorem dX6_partOf_34 : decode cX6_partOf 34 = .ok (.goto 4, 3) := by decide +kernel
theorem dX6_partOf_37 : decode cX6_partOf 37 = .ok (.lload_n 2, 1) := by decide +kernel
theorem dX6_partOf_38 : decode cX6_partOf 38 = .ok (.lload 5, 2) := by decide +kernel
theorem dX6_partOf_40 : decode cX6_partOf 40 = .ok (.ldiv, 1) := by decide +kernel
theorem dX6_partOf_41 : decode cX6_partOf 41 = .ok (.lreturn, 1) := by decide +kernel
theorem dX6_greatestCommon_0 : decode cX6_greatestCommon 0 = .ok (.iconst 0, 1) := by decide +kernel
theorem dX6_greatestCommon_1 : decode cX6_greatestCommon 1 = .ok (.istore 4, 2) := by decide +kernel
theorem dX6_greatestCommon_3 : decode cX6_greatestCommon 3 = .ok (.iload 4, 2) := by decide +kernel
theorem dX6_greatestCommon_5 : decode cX6_greatestCommon 5 = .ok (.sipush 200, 3) := by decide +kernel
theorem dX6_greatestCommon_8 : decode cX6_greatestCommon 8 = .ok (.if_icmp .ge 25, 3) := by decide +kernel
theorem dX6_greatestCommon_11 : decode cX6_greatestCommon 11 = .ok (.lload_n 2, 1) := by decide +kernel
theorem dX6_greatestCommon_12 : decode cX6_greatestCommon 12 = .ok (.lconst 0, 1) := by decide +kernel
theorem dX6_greatestCommon_13 : decode cX6_greatestCommon 13 = .ok (.lcmp, 1) := by decide +kernel
theorem dX6_greatestCommon_14 : decode cX6_greatestCommon 14 = .ok (.ifCond .eq 19, 3) := by decide +kernel
theorem dX6_greatestCommon_17 : decode cX6_greatestCommon 17 = .ok (.lload_n 0, 1) := by decide +kernel
theorem dX6_greatestCommon_18 : decode cX6_greatestCommon 18 = .ok (.lload_n 2, 1) := by decide +kernel
theorem dX6_greatestCommon_19 : decode cX6_greatestCommon 19 = .ok (.lrem, 1) := by decide +kernel
theorem dX6_greatestCommon_20 : decode cX6_greatestCommon 20 = .ok (.lstore 5, 2) := by decide +kernel
theorem dX6_greatestCommon_22 : decode cX6_greatestCommon 22 = .ok (.lload_n 2, 1) := by decide +kernel
theorem dX6_greatestCommon_23 : decode cX6_greatestCommon 23 = .ok (.lstore_n 0, 1) := by decide +kernel
theorem dX6_greatestCommon_24 : decode cX6_greatestCommon 24 = .ok (.lload 5, 2) := by decide +kernel
theorem dX6_greatestCommon_26 : decode cX6_greatestCommon 26 = .ok (.lstore_n 2, 1) := by decide +kernel
theorem dX6_greatestCommon_27 : decode cX6_greatestCommon 27 = .ok (.iinc 4 1, 3) := by decide +kernel
theorem dX6_greatestCommon_30 : decode cX6_greatestCommon 30 = .ok (.goto (-27), 3) := by decide +kernel
theorem dX6_greatestCommon_33 : decode cX6_greatestCommon 33 = .ok (.lload_n 0, 1) := by decide +kernel
theorem dX6_greatestCommon_34 : decode cX6_greatestCommon 34 = .ok (.lreturn, 1) := by decide +kernel
theorem dX7_in_0 : decode cX7_in 0 = .ok (.lload_n 0, 1) := by decide +kernel
theorem dX7_in_1 : decode cX7_in 1 = .ok (.lload_n 2, 1) := by decide +kernel
theorem dX7_in_2 : decode cX7_in 2 = .ok (.lcmp, 1) := by decide +kernel
theorem dX7_in_3 : decode cX7_in 3 = .ok (.ifCond .lt 14, 3) := by decide +kernel
theorem dX7_in_6 : decode cX7_in 6 = .ok (.lload_n 0, 1) := by decide +kernel
theorem dX7_in_7 : decode cX7_in 7 = .ok (.lload 4, 2) := by decide +kernel
theorem dX7_in_9 : decode cX7_in 9 = .ok (.lcmp, 1) := by decide +kernel
theorem dX7_in_10 : decode cX7_in 10 = .ok (.ifCond .gt 7, 3) := by decide +kernel
theorem dX7_in_13 : decode cX7_in 13 = .ok (.iconst 1, 1) := by decide +kernel
theorem dX7_in_14 : decode cX7_in 14 = .ok (.goto 4, 3) := by decide +kernel
theorem dX7_in_17 : decode cX7_in 17 = .ok (.iconst 0, 1) := by decide +kernel
theorem dX7_in_18 : decode cX7_in 18 = .ok (.ireturn, 1) := by decide +kernel
theorem dX7_init_0 : decode cX7_init 0 = .ok (.aload_n 0, 1) := by decide +kernel
theorem dX7_init_1 : decode cX7_init 1 = .ok (.invokespecial 1, 3) := by decide +kernel
theorem dX7_init_4 : decode cX7_init 4 = .ok (.aload_n 0, 1) := by decide +kernel
theorem dX7_init_5 : decode cX7_init 5 = .ok (.bipush 8, 2) := by decide +kernel
theorem dX7_init_7 : decode cX7_init 7 = .ok (.newarray .int, 2) := by decide +kernel
theorem dX7_init_9 : decode cX7_init 9 = .ok (.putfield 7, 3) := by decide +kernel
theorem dX7_init_12 : decode cX7_init 12 = .ok (.aload_n 0, 1) := by decide +kernel
theorem dX7_init_13 : decode cX7_init 13 = .ok (.bipush 7, 2) := by decide +kernel
theorem dX7_init_15 : decode cX7_init 15 = .ok (.newarray .int, 2) := by decide +kernel
theorem dX7_init_17 : decode cX7_init 17 = .ok (.putfield 13, 3) := by decide +kernel
theorem dX7_init_20 : decode cX7_init 20 = .ok (.aload_n 0, 1) := by decide +kernel
theorem dX7_init_21 : decode cX7_init 21 = .ok (.bipush 7, 2) := by decide +kernel
theorem dX7_init_23 : decode cX7_init 23 = .ok (.newarray .int, 2) := by decide +kernel
theorem dX7_init_25 : decode cX7_init 25 = .ok (.putfield 16, 3) := by decide +kernel
theorem dX7_init_28 : decode cX7_init 28 = .ok (.aload_n 0, 1) := by decide +kernel
theorem dX7_init_29 : decode cX7_init 29 = .ok (.sipush 200, 3) := by decide +kernel
theorem dX7_init_32 : decode cX7_init 32 = .ok (.newarray .int, 2) := by decide +kernel
theorem dX7_init_34 : decode cX7_init 34 = .ok (.putfield 19, 3) := by decide +kernel
theorem dX7_init_37 : decode cX7_init 37 = .ok (.aload_n 0, 1) := by decide +kernel
theorem dX7_init_38 : decode cX7_init 38 = .ok (.sipush 200, 3) := by decide +kernel
theorem dX7_init_41 : decode cX7_init 41 = .ok (.newarray .int, 2) := by decide +kernel
theorem dX7_init_43 : decode cX7_init 43 = .ok (.putfield 22, 3) := by decide +kernel
theorem dX7_init_46 : decode cX7_init 46 = .ok (.aload_n 0, 1) := by decide +kernel
theorem dX7_init_47 : decode cX7_init 47 = .ok (.bipush 100, 2) := by decide +kernel
theorem dX7_init_49 : decode cX7_init 49 = .ok (.newarray .int, 2) := by decide +kernel
theorem dX7_init_51 : decode cX7_init 51 = .ok (.putfield 25, 3) := by decide +kernel
theorem dX7_init_54 : decode cX7_init 54 = .ok (.aload_n 0, 1) := by decide +kernel
theorem dX7_init_55 : decode cX7_init 55 = .ok (.bipush 60, 2) := by decide +kernel
theorem dX7_init_57 : decode cX7_init 57 = .ok (.newarray .int, 2) := by decide +kernel
theorem dX7_init_59 : decode cX7_init 59 = .ok (.putfield 28, 3) := by decide +kernel
theorem dX7_init_62 : decode cX7_init 62 = .ok (.aload_n 0, 1) := by decide +kernel
theorem dX7_init_63 : decode cX7_init 63 = .ok (.bipush 7, 2) := by decide +kernel
theorem dX7_init_65 : decode cX7_init 65 = .ok (.newarray .int, 2) := by decide +kernel
theorem dX7_init_67 : decode cX7_init 67 = .ok (.putfield 31, 3) := by decide +kernel
theorem dX7_init_70 : decode cX7_init 70 = .ok (.aload_n 0, 1) := by decide +kernel
theorem dX7_init_71 : decode cX7_init 71 = .ok (.bipush 7, 2) := by decide +kernel
theorem dX7_init_73 : decode cX7_init 73 = .ok (.newarray .int, 2) := by decide +kernel
theorem dX7_init_75 : decode cX7_init 75 = .ok (.putfield 34, 3) := by decide +kernel
theorem dX7_init_78 : decode cX7_init 78 = .ok (.aload_n 0, 1) := by decide +kernel
theorem dX7_init_79 : decode cX7_init 79 = .ok (.bipush 10, 2) := by decide +kernel
theorem dX7_init_81 : decode cX7_init 81 = .ok (.newarray .int, 2) := by decide +kernel
theorem dX7_init_83 : decode cX7_init 83 = .ok (.putfield 37, 3) := by decide +kernel
theorem dX7_init_86 : decode cX7_init 86 = .ok (.aload_n 0, 1) := by decide +kernel
theorem dX7_init_87 : decode cX7_init 87 = .ok (.bipush 7, 2) := by decide +kernel
theorem dX7_init_89 : decode cX7_init 89 = .ok (.newarray .int, 2) := by decide +kernel
theorem dX7_init_91 : decode cX7_init 91 = .ok (.putfield 40, 3) := by decide +kernel
theorem dX7_init_94 : decode cX7_init 94 = .ok (.aload_n 0, 1) := by decide +kernel
theorem dX7_init_95 : decode cX7_init 95 = .ok (.bipush 7, 2) := by decide +kernel
theorem dX7_init_97 : decode cX7_init 97 = .ok (.newarray .int, 2) := by decide +kernel
theorem dX7_init_99 : decode cX7_init 99 = .ok (.putfield 43, 3) := by decide +kernel
theorem dX7_init_102 : decode cX7_init 102 = .ok (.aload_n 0, 1) := by decide +kernel
theorem dX7_init_103 : decode cX7_init 103 = .ok (.bipush 7, 2) := by decide +kernel
theorem dX7_init_105 : decode cX7_init 105 = .ok (.newarray .int, 2) := by decide +kernel
theorem dX7_init_107 : decode cX7_init 107 = .ok (.putfield 46, 3) := by decide +kernel
theorem dX7_init_110 : decode cX7_init 110 = .ok (.aload_n 0, 1) := by decide +kernel
theorem dX7_init_111 : decode cX7_init 111 = .ok (.bipush 7, 2) := by decide +kernel
theorem dX7_init_113 : decode cX7_init 113 = .ok (.newarray .int, 2) := by decide +kernel
theorem dX7_init_115 : decode cX7_init 115 = .ok (.putfield 49, 3) := by decide +kernel
theorem dX7_init_118 : decode cX7_init 118 = .ok (.aload_n 0, 1) := by decide +kernel
theorem dX7_init_119 : decode cX7_init 119 = .ok (.bipush 7, 2) := by decide +kernel
theorem dX7_init_121 : decode cX7_init 121 = .ok (.newarray .int, 2) := by decide +kernel
theorem dX7_init_123 : decode cX7_init 123 = .ok (.putfield 52, 3) := by decide +kernel
theorem dX7_init_126 : decode cX7_init 126 = .ok (.aload_n 0, 1) := by decide +kernel
theorem dX7_init_127 : decode cX7_init 127 = .ok (.bipush 7, 2) := by decide +kernel
theorem dX7_init_129 : decode cX7_init 129 = .ok (.newarray .int, 2) := by decide +kernel
theorem dX7_init_131 : decode cX7_init 131 = .ok (.putfield 55, 3) := by decide +kernel
theorem dX7_init_134 : decode cX7_init 134 = .ok (.aload_n 0, 1) := by decide +kernel
theorem dX7_init_135 : decode cX7_init 135 = .ok (.bipush 7, 2) := by decide +kernel
theorem dX7_init_137 : decode cX7_init 137 = .ok (.newarray .int, 2) := by decide +kernel
theorem dX7_init_139 : decode cX7_init 139 = .ok (.putfield 58, 3) := by decide +kernel
theorem dX7_init_142 : decode cX7_init 142 = .ok (.aload_n 0, 1) := by decide +kernel
theorem dX7_init_143 : decode cX7_init 143 = .ok (.bipush 7, 2) := by decide +kernel
theorem dX7_init_145 : decode cX7_init 145 = .ok (.newarray .int, 2) := by decide +kernel
theorem dX7_init_147 : decode cX7_init 147 = .ok (.putfield 61, 3) := by decide +kernel
theorem dX7_init_150 : decode cX7_init 150 = .ok (.aload_n 0, 1) := by decide +kernel
theorem dX7_init_151 : decode cX7_init 151 = .ok (.bipush 20, 2) := by decide +kernel
theorem dX7_init_153 : decode cX7_init 153 = .ok (.newarray .int, 2) := by decide +kernel
theorem dX7_init_155 : decode cX7_init 155 = .ok (.putfield 64, 3) := by decide +kernel
theorem dX7_init_158 : decode cX7_init 158 = .ok (.aload_n 0, 1) := by decide +kernel
theorem dX7_init_159 : decode cX7_init 159 = .ok (.bipush 6, 2) := by decide +kernel
theorem dX7_init_161 : decode cX7_init 161 = .ok (.newarray .int, 2) := by decide +kernel
theorem dX7_init_163 : decode cX7_init 163 = .ok (.putfield 67, 3) := by decide +kernel
theorem dX7_init_166 : decode cX7_init 166 = .ok (.aload_n 0, 1) := by decide +kernel
theorem dX7_init_167 : decode cX7_init 167 = .ok (.bipush 6, 2) := by decide +kernel
theorem dX7_init_169 : decode cX7_init 169 = .ok (.newarray .int, 2) := by decide +kernel
theorem dX7_init_171 : decode cX7_init 171 = .ok (.putfield 70, 3) := by decide +kernel
theorem dX7_init_174 : decode cX7_init 174 = .ok (.aload_n 0, 1) := by decide +kernel
theorem dX7_init_175 : decode cX7_init 175 = .ok (.bipush 100, 2) := by decide +kernel
theorem dX7_init_177 : decode cX7_init 177 = .ok (.newarray .long, 2) := by decide +kernel
theorem dX7_init_179 : decode cX7_init 179 = .ok (.putfield 73, 3) := by decide +kernel
theorem dX7_init_182 : decode cX7_init 182 = .ok (.aload_n 0, 1) := by decide +kernel
theorem dX7_init_183 : decode cX7_init 183 = .ok (.bipush 100, 2) := by decide +kernel
theorem dX7_init_185 : decode cX7_init 185 = .ok (.newarray .int, 2) := by decide +kernel
theorem dX7_init_187 : decode cX7_init 187 = .ok (.putfield 77, 3) := by decide +kernel
theorem dX7_init_190 : decode cX7_init 190 = .ok (.aload_n 0, 1) := by decide +kernel
theorem dX7_init_191 : decode cX7_init 191 = .ok (.bipush 7, 2) := by decide +kernel
theorem dX7_init_193 : decode cX7_init 193 = .ok (.newarray .int, 2) := by decide +kernel
theorem dX7_init_195 : decode cX7_init 195 = .ok (.putfield 80, 3) := by decide +kernel
theorem dX7_init_198 : decode cX7_init 198 = .ok (.aload_n 0, 1) := by decide +kernel
theorem dX7_init_199 : decode cX7_init 199 = .ok (.sipush 570, 3) := by decide +kernel
theorem dX7_init_202 : decode cX7_init 202 = .ok (.newarray .int, 2) := by decide +kernel
theorem dX7_init_204 : decode cX7_init 204 = .ok (.putfield 83, 3) := by decide +kernel
theorem dX7_init_207 : decode cX7_init 207 = .ok (.aload_n 0, 1) := by decide +kernel
theorem dX7_init_208 : decode cX7_init 208 = .ok (.iconst 4, 1) := by decide +kernel
theorem dX7_init_209 : decode cX7_init 209 = .ok (.newarray .int, 2) := by decide +kernel
theorem dX7_init_211 : decode cX7_init 211 = .ok (.putfield 86, 3) := by decide +kernel
theorem dX7_init_214 : decode cX7_init 214 = .ok (.aload_n 0, 1) := by decide +kernel
theorem dX7_init_215 : decode cX7_init 215 = .ok (.iconst 4, 1) := by decide +kernel
theorem dX7_init_216 : decode cX7_init 216 = .ok (.newarray .int, 2) := by decide +kernel
theorem dX7_init_218 : decode cX7_init 218 = .ok (.putfield 89, 3) := by decide +kernel
theorem dX7_init_221 : decode cX7_init 221 = .ok (.aload_n 0, 1) := by decide +kernel
theorem dX7_init_222 : decode cX7_init 222 = .ok (.bipush 64, 2) := by decide +kernel
theorem dX7_init_224 : decode cX7_init 224 = .ok (.newarray .int, 2) := by decide +kernel
theorem dX7_init_226 : decode cX7_init 226 = .ok (.putfield 92, 3) := by decide +kernel
theorem dX7_init_229 : decode cX7_init 229 = .ok (.aload_n 0, 1) := by decide +kernel
theorem dX7_init_230 : decode cX7_init 230 = .ok (.bipush 16, 2) := by decide +kernel
theorem dX7_init_232 : decode cX7_init 232 = .ok (.newarray .int, 2) := by decide +kernel
theorem dX7_init_234 : decode cX7_init 234 = .ok (.putfield 95, 3) := by decide +kernel
theorem dX7_init_237 : decode cX7_init 237 = .ok (.iconst 0, 1) := by decide +kernel
theorem dX7_init_238 : decode cX7_init 238 = .ok (.istore_n 1, 1) := by decide +kernel
theorem dX7_init_239 : decode cX7_init 239 = .ok (.iload_n 1, 1) := by decide +kernel
theorem dX7_init_240 : decode cX7_init 240 = .ok (.iconst 4, 1) := by decide +kernel
theorem dX7_init_241 : decode cX7_init 241 = .ok (.if_icmp .ge 16, 3) := by decide +kernel
theorem dX7_init_244 : decode cX7_init 244 = .ok (.aload_n 0, 1) := by decide +kernel
theorem dX7_init_245 : decode cX7_init 245 = .ok (.getfield 86, 3) := by decide +kernel
theorem dX7_init_248 : decode cX7_init 248 = .ok (.iload_n 1, 1) := by decide +kernel
theorem dX7_init_249 : decode cX7_init 249 = .ok (.iconst (-1), 1) := by decide +kernel
theorem dX7_init_250 : decode cX7_init 250 = .ok (.iastore, 1) := by decide +kernel
theorem dX7_init_251 : decode cX7_init 251 = .ok (.iinc 1 1, 3) := by decide +kernel
theorem dX7_init_254 : decode cX7_init 254 = .ok (.goto (-15), 3) := by decide +kernel
theorem dX7_init_257 : decode cX7_init 257 = .ok (.iconst 0, 1) := by decide +kernel
theorem dX7_init_258 : decode cX7_init 258 = .ok (.istore_n 1, 1) := by decide +kernel
theorem dX7_init_259 : decode cX7_init 259 = .ok (.iload_n 1, 1) := by decide +kernel
theorem dX7_init_260 : decode cX7_init 260 = .ok (.sipush 200, 3) := by decide +kernel
theorem dX7_init_263 : decode cX7_init 263 = .ok (.if_icmp .ge 27, 3) := by decide +kernel
theorem dX7_init_266 : decode cX7_init 266 = .ok (.aload_n 0, 1) := by decide +kernel
theorem dX7_init_267 : decode cX7_init 267 = .ok (.getfield 19, 3) := by decide +kernel
theorem dX7_init_270 : decode cX7_init 270 = .ok (.iload_n 1, 1) := by decide +kernel
theorem dX7_init_271 : decode cX7_init 271 = .ok (.bipush 8, 2) := by decide +kernel
theorem dX7_init_273 : decode cX7_init 273 = .ok (.iastore, 1) := by decide +kernel
theorem dX7_init_274 : decode cX7_init 274 = .ok (.aload_n 0, 1) := by decide +kernel
theorem dX7_init_275 : decode cX7_init 275 = .ok (.getfield 25, 3) := by decide +kernel
theorem dX7_init_278 : decode cX7_init 278 = .ok (.iload_n 1, 1) := by decide +kernel
theorem dX7_init_279 : decode cX7_init 279 = .ok (.bipush 100, 2) := by decide +kernel
theorem dX7_init_281 : decode cX7_init 281 = .ok (.irem, 1) := by decide +kernel
theorem dX7_init_282 : decode cX7_init 282 = .ok (.iconst 1, 1) := by decide +kernel
theorem dX7_init_283 : decode cX7_init 283 = .ok (.iastore, 1) := by decide +kernel
theorem dX7_init_284 : decode cX7_init 284 = .ok (.iinc 1 1, 3) := by decide +kernel
theorem dX7_init_287 : decode cX7_init 287 = .ok (.goto (-28), 3) := by decide +kernel
theorem dX7_init_290 : decode cX7_init 290 = .ok (.iconst 0, 1) := by decide +kernel
theorem dX7_init_291 : decode cX7_init 291 = .ok (.istore_n 1, 1) := by decide +kernel
theorem dX7_init_292 : decode cX7_init 292 = .ok (.iload_n 1, 1) := by decide +kernel
theorem dX7_init_293 : decode cX7_init 293 = .ok (.bipush 7, 2) := by decide +kernel
theorem dX7_init_295 : decode cX7_init 295 = .ok (.if_icmp .ge 16, 3) := by decide +kernel
theorem dX7_init_298 : decode cX7_init 298 = .ok (.aload_n 0, 1) := by decide +kernel
theorem dX7_init_299 : decode cX7_init 299 = .ok (.getfield 13, 3) := by decide +kernel
theorem dX7_init_302 : decode cX7_init 302 = .ok (.iload_n 1, 1) := by decide +kernel
theorem dX7_init_303 : decode cX7_init 303 = .ok (.iconst (-1), 1) := by decide +kernel
theorem dX7_init_304 : decode cX7_init 304 = .ok (.iastore, 1) := by decide +kernel
theorem dX7_init_305 : decode cX7_init 305 = .ok (.iinc 1 1, 3) := by decide +kernel
theorem dX7_init_308 : decode cX7_init 308 = .ok (.goto (-16), 3) := by decide +kernel
theorem dX7_init_311 : decode cX7_init 311 = .ok (.aload_n 0, 1) := by decide +kernel
theorem dX7_init_312 : decode cX7_init 312 = .ok (.getfield 7, 3) := by decide +kernel
theorem dX7_init_315 : decode cX7_init 315 = .ok (.iconst 2, 1) := by decide +kernel
theorem dX7_init_316 : decode cX7_init 316 = .ok (.bipush 6, 2) := by decide +kernel
theorem dX7_init_318 : decode cX7_init 318 = .ok (.iastore, 1) := by decide +kernel
theorem dX7_init_319 : decode cX7_init 319 = .ok (.aload_n 0, 1) := by decide +kernel
theorem dX7_init_320 : decode cX7_init 320 = .ok (.getfield 7, 3) := by decide +kernel
theorem dX7_init_323 : decode cX7_init 323 = .ok (.iconst 3, 1) := by decide +kernel
theorem dX7_init_324 : decode cX7_init 324 = .ok (.iconst 1, 1) := by decide +kernel
theorem dX7_init_325 : decode cX7_init 325 = .ok (.iastore, 1) := by decide +kernel
theorem dX7_init_326 : decode cX7_init 326 = .ok (.aload_n 0, 1) := by decide +kernel
theorem dX7_init_327 : decode cX7_init 327 = .ok (.getfield 7, 3) := by decide +kernel
theorem dX7_init_330 : decode cX7_init 330 = .ok (.iconst 5, 1) := by decide +kernel
theorem dX7_init_331 : decode cX7_init 331 = .ok (.bipush 60, 2) := by decide +kernel
theorem dX7_init_333 : decode cX7_init 333 = .ok (.iastore, 1) := by decide +kernel
theorem dX7_init_334 : decode cX7_init 334 = .ok (.aload_n 0, 1) := by decide +kernel
theorem dX7_init_335 : decode cX7_init 335 = .ok (.getfield 7, 3) := by decide +kernel
theorem dX7_init_338 : decode cX7_init 338 = .ok (.bipush 6, 2) := by decide +kernel
theorem dX7_init_340 : decode cX7_init 340 = .ok (.iconst 1, 1) := by decide +kernel
theorem dX7_init_341 : decode cX7_init 341 = .ok (.iastore, 1) := by decide +kernel
theorem dX7_init_342 : decode cX7_init 342 = .ok (.aload_n 0, 1) := by decide +kernel
theorem dX7_init_343 : decode cX7_init 343 = .ok (.getfield 7, 3) := by decide +kernel
theorem dX7_init_346 : decode cX7_init 346 = .ok (.bipush 7, 2) := by decide +kernel
theorem dX7_init_348 : decode cX7_init 348 = .ok (.bipush 8, 2) := by decide +kernel
theorem dX7_init_350 : decode cX7_init 350 = .ok (.iastore, 1) := by decide +kernel
theorem dX7_init_351 : decode cX7_init 351 = .ok (.return_, 1) := by decide +kernel
set_option maxRecDepth 20000 in
theorem ggX7_isCell_X7_in : GoodIn wsX7_isCell wsX7_in := goodIn_r _ [5] (by decide +kernel) (by decide +kernel)
set_option maxRecDepth 20000 in
theorem gX7_isCell_X7_in : GoodIn wsX7_isCell (va_wsS RX7 100 yX7_in wsX7_in) := goodIn_app (goodIn_of _ (by decide +kernel)) ggX7_isCell_X7_in
theorem dX7_isCell_0 : decode cX7_isCell 0 = .ok (.iload_n 0, 1) := by decide +kernel
theorem dX7_isCell_1 : decode cX7_isCell 1 = .ok (.i2l, 1) := by decide +kernel
theorem dX7_isCell_2 : decode cX7_isCell 2 = .ok (.lconst 0, 1) := by decide +kernel
theorem dX7_isCell_3 : decode cX7_isCell 3 = .ok (.ldc2_w 98, 3) := by decide +kernel
theorem dX7_isCell_6 : decode cX7_isCell 6 = .ok (.invokestatic 100, 3) := by decide +kernel
theorem dX7_isCell_9 : decode cX7_isCell 9 = .ok (.ireturn, 1) := by decide +kernel
theorem dX7_rowStep_0 : decode cX7_rowStep 0 = .ok (.iload_n 0, 1) := by decide +kernel
theorem dX7_rowStep_1 : decode cX7_rowStep 1 = .ok (.bipush 7, 2) := by decide +kernel
theorem dX7_rowStep_3 : decode cX7_rowStep 3 = .ok (.if_icmp .eq 8, 3) := by decide +kernel
theorem dX7_rowStep_6 : decode cX7_rowStep 6 = .ok (.iload_n 0, 1) := by decide +kernel
theorem dX7_rowStep_7 : decode cX7_rowStep 7 = .ok (.iconst 2, 1) := by decide +kernel
theorem dX7_rowStep_8 : decode cX7_rowStep 8 = .ok (.if_icmp .ge 7, 3) := by decide +kernel
theorem dX7_rowStep_11 : decode cX7_rowStep 11 = .ok (.iconst (-1), 1) := by decide +kernel
theorem dX7_rowStep_12 : decode cX7_rowStep 12 = .ok (.goto 19, 3) := by decide +kernel
theorem dX7_rowStep_15 : decode cX7_rowStep 15 = .ok (.iload_n 0, 1) := by decide +kernel
theorem dX7_rowStep_16 : decode cX7_rowStep 16 = .ok (.iconst 2, 1) := by decide +kernel
theorem dX7_rowStep_17 : decode cX7_rowStep 17 = .ok (.if_icmp .le 13, 3) := by decide +kernel
theorem dX7_rowStep_20 : decode cX7_rowStep 20 = .ok (.iload_n 0, 1) := by decide +kernel
theorem dX7_rowStep_21 : decode cX7_rowStep 21 = .ok (.bipush 6, 2) := by decide +kernel
theorem dX7_rowStep_23 : decode cX7_rowStep 23 = .ok (.if_icmp .ge 7, 3) := by decide +kernel
theorem dX7_rowStep_26 : decode cX7_rowStep 26 = .ok (.iconst 1, 1) := by decide +kernel
theorem dX7_rowStep_27 : decode cX7_rowStep 27 = .ok (.goto 4, 3) := by decide +kernel
theorem dX7_rowStep_30 : decode cX7_rowStep 30 = .ok (.iconst 0, 1) := by decide +kernel
theorem dX7_rowStep_31 : decode cX7_rowStep 31 = .ok (.ireturn, 1) := by decide +kernel
theorem dX7_columnStep_0 : decode cX7_columnStep 0 = .ok (.iload_n 0, 1) := by decide +kernel
theorem dX7_columnStep_1 : decode cX7_columnStep 1 = .ok (.ifCond .le 12, 3) := by decide +kernel
theorem dX7_columnStep_4 : decode cX7_columnStep 4 = .ok (.iload_n 0, 1) := by decide +kernel
theorem dX7_columnStep_5 : decode cX7_columnStep 5 = .ok (.iconst 4, 1) := by decide +kernel
theorem dX7_columnStep_6 : decode cX7_columnStep 6 = .ok (.if_icmp .ge 7, 3) := by decide +kernel
theorem dX7_columnStep_9 : decode cX7_columnStep 9 = .ok (.iconst 1, 1) := by decide +kernel
theorem dX7_columnStep_10 : decode cX7_columnStep 10 = .ok (.goto 19, 3) := by decide +kernel
theorem dX7_columnStep_13 : decode cX7_columnStep 13 = .ok (.iload_n 0, 1) := by decide +kernel
theorem dX7_columnStep_14 : decode cX7_columnStep 14 = .ok (.iconst 4, 1) := by decide +kernel
theorem dX7_columnStep_15 : decode cX7_columnStep 15 = .ok (.if_icmp .le 13, 3) := by decide +kernel
theorem dX7_columnStep_18 : decode cX7_columnStep 18 = .ok (.iload_n 0, 1) := by decide +kernel
theorem dX7_columnStep_19 : decode cX7_columnStep 19 = .ok (.bipush 8, 2) := by decide +kernel
theorem dX7_columnStep_21 : decode cX7_columnStep 21 = .ok (.if_icmp .ge 7, 3) := by decide +kernel
theorem dX7_columnStep_24 : decode cX7_columnStep 24 = .ok (.iconst (-1), 1) := by decide +kernel
theorem dX7_columnStep_25 : decode cX7_columnStep 25 = .ok (.goto 4, 3) := by decide +kernel
theorem dX7_columnStep_28 : decode cX7_columnStep 28 = .ok (.iconst 0, 1) := by decide +kernel
theorem dX7_columnStep_29 : decode cX7_columnStep 29 = .ok (.ireturn, 1) := by decide +kernel
set_option maxRecDepth 20000 in
theorem ggX7_gone_X7_rowStep : GoodIn wsX7_gone wsX7_rowStep := goodIn_r _ [5] (by decide +kernel) (by decide +kernel)
set_option maxRecDepth 20000 in
theorem gX7_gone_X7_rowStep : GoodIn wsX7_gone (va_wsS RX7 104 yX7_rowStep wsX7_rowStep) := goodIn_app (goodIn_of _ (by decide +kernel)) ggX7_gone_X7_rowStep
set_option maxRecDepth 20000 in
theorem ggX7_gone_X7_columnStep : GoodIn wsX7_gone wsX7_columnStep := goodIn_r _ [8] (by decide +kernel) (by decide +kernel)
set_option maxRecDepth 20000 in
theorem gX7_gone_X7_columnStep : GoodIn wsX7_gone (va_wsS RX7 108 yX7_columnStep wsX7_columnStep) := goodIn_app (goodIn_of _ (by decide +kernel)) ggX7_gone_X7_columnStep
set_option maxRecDepth 20000 in
theorem ggX7_gone_X7_in : GoodIn wsX7_gone wsX7_in := goodIn_r _ [11] (by decide +kernel) (by decide +kernel)
set_option maxRecDepth 20000 in
theorem gX7_gone_X7_in : GoodIn wsX7_gone (va_wsS RX7 100 yX7_in wsX7_in) := goodIn_app (goodIn_of _ (by decide +kernel)) ggX7_gone_X7_in
theorem dX7_gone_0 : decode cX7_gone 0 = .ok (.iload_n 0, 1) := by decide +kernel
theorem dX7_gone_1 : decode cX7_gone 1 = .ok (.bipush 10, 2) := by decide +kernel
theorem dX7_gone_3 : decode cX7_gone 3 = .ok (.idiv, 1) := by decide +kernel
theorem dX7_gone_4 : decode cX7_gone 4 = .ok (.iload_n 1, 1) := by decide +kernel
theorem dX7_gone_5 : decode cX7_gone 5 = .ok (.invokestatic 104, 3) := by decide +kernel
theorem dX7_gone_8 : decode cX7_gone 8 = .ok (.iload_n 2, 1) := by decide +kernel
theorem dX7_gone_9 : decode cX7_gone 9 = .ok (.imul, 1) := by decide +kernel
theorem dX7_gone_10 : decode cX7_gone 10 = .ok (.iadd, 1) := by decide +kernel
theorem dX7_gone_11 : decode cX7_gone 11 = .ok (.istore_n 3, 1) := by decide +kernel
theorem dX7_gone_12 : decode cX7_gone 12 = .ok (.iload_n 0, 1) := by decide +kernel
theorem dX7_gone_13 : decode cX7_gone 13 = .ok (.bipush 10, 2) := by decide +kernel
theorem dX7_gone_15 : decode cX7_gone 15 = .ok (.irem, 1) := by decide +kernel
theorem dX7_gone_16 : decode cX7_gone 16 = .ok (.iload_n 1, 1) := by decide +kernel
theorem dX7_gone_17 : decode cX7_gone 17 = .ok (.invokestatic 108, 3) := by decide +kernel
theorem dX7_gone_20 : decode cX7_gone 20 = .ok (.iload_n 2, 1) := by decide +kernel
theorem dX7_gone_21 : decode cX7_gone 21 = .ok (.imul, 1) := by decide +kernel
theorem dX7_gone_22 : decode cX7_gone 22 = .ok (.iadd, 1) := by decide +kernel
theorem dX7_gone_23 : decode cX7_gone 23 = .ok (.istore 4, 2) := by decide +kernel
theorem dX7_gone_25 : decode cX7_gone 25 = .ok (.iload_n 3, 1) := by decide +kernel
theorem dX7_gone_26 : decode cX7_gone 26 = .ok (.i2l, 1) := by decide +kernel
theorem dX7_gone_27 : decode cX7_gone 27 = .ok (.lconst 0, 1) := by decide +kernel
theorem dX7_gone_28 : decode cX7_gone 28 = .ok (.ldc2_w 111, 3) := by decide +kernel
theorem dX7_gone_31 : decode cX7_gone 31 = .ok (.invokestatic 100, 3) := by decide +kernel
theorem dX7_gone_34 : decode cX7_gone 34 = .ok (.ifCond .eq 26, 3) := by decide +kernel
theorem dX7_gone_37 : decode cX7_gone 37 = .ok (.iload 4, 2) := by decide +kernel
theorem dX7_gone_39 : decode cX7_gone 39 = .ok (.i2l, 1) := by decide +kernel
theorem dX7_gone_40 : decode cX7_gone 40 = .ok (.lconst 0, 1) := by decide +kernel
theorem dX7_gone_41 : decode cX7_gone 41 = .ok (.ldc2_w 111, 3) := by decide +kernel
theorem dX7_gone_44 : decode cX7_gone 44 = .ok (.invokestatic 100, 3) := by decide +kernel
theorem dX7_gone_47 : decode cX7_gone 47 = .ok (.ifCond .eq 13, 3) := by decide +kernel
theorem dX7_gone_50 : decode cX7_gone 50 = .ok (.bipush 10, 2) := by decide +kernel
theorem dX7_gone_52 : decode cX7_gone 52 = .ok (.iload_n 3, 1) := by decide +kernel
theorem dX7_gone_53 : decode cX7_gone 53 = .ok (.imul, 1) := by decide +kernel
theorem dX7_gone_54 : decode cX7_gone 54 = .ok (.iload 4, 2) := by decide +kernel
theorem dX7_gone_56 : decode cX7_gone 56 = .ok (.iadd, 1) := by decide +kernel
theorem dX7_gone_57 : decode cX7_gone 57 = .ok (.goto 5, 3) := by decide +kernel
theorem dX7_gone_60 : decode cX7_gone 60 = .ok (.bipush (-4), 2) := by decide +kernel
theorem dX7_gone_62 : decode cX7_gone 62 = .ok (.ireturn, 1) := by decide +kernel
theorem dX7_away_0 : decode cX7_away 0 = .ok (.iload_n 1, 1) := by decide +kernel
theorem dX7_away_1 : decode cX7_away 1 = .ok (.bipush 10, 2) := by decide +kernel
theorem dX7_away_3 : decode cX7_away 3 = .ok (.idiv, 1) := by decide +kernel
theorem dX7_away_4 : decode cX7_away 4 = .ok (.aload_n 0, 1) := by decide +kernel
theorem dX7_away_5 : decode cX7_away 5 = .ok (.getfield 7, 3) := by decide +kernel
theorem dX7_away_8 : decode cX7_away 8 = .ok (.iconst 0, 1) := by decide +kernel
theorem dX7_away_9 : decode cX7_away 9 = .ok (.iaload, 1) := by decide +kernel
theorem dX7_away_10 : decode cX7_away 10 = .ok (.bipush 10, 2) := by decide +kernel
theorem dX7_away_12 : decode cX7_away 12 = .ok (.idiv, 1) := by decide +kernel
theorem dX7_away_13 : decode cX7_away 13 = .ok (.isub, 1) := by decide +kernel
theorem dX7_away_14 : decode cX7_away 14 = .ok (.istore_n 2, 1) := by decide +kernel
theorem dX7_away_15 : decode cX7_away 15 = .ok (.iload_n 1, 1) := by decide +kernel
theorem dX7_away_16 : decode cX7_away 16 = .ok (.bipush 10, 2) := by decide +kernel
theorem dX7_away_18 : decode cX7_away 18 = .ok (.irem, 1) := by decide +kernel
theorem dX7_away_19 : decode cX7_away 19 = .ok (.aload_n 0, 1) := by decide +kernel
theorem dX7_away_20 : decode cX7_away 20 = .ok (.getfield 7, 3) := by decide +kernel
theorem dX7_away_23 : decode cX7_away 23 = .ok (.iconst 0, 1) := by decide +kernel
theorem dX7_away_24 : decode cX7_away 24 = .ok (.iaload, 1) := by decide +kernel
theorem dX7_away_25 : decode cX7_away 25 = .ok (.bipush 10, 2) := by decide +kernel
theorem dX7_away_27 : decode cX7_away 27 = .ok (.irem, 1) := by decide +kernel
theorem dX7_away_28 : decode cX7_away 28 = .ok (.isub, 1) := by decide +kernel
theorem dX7_away_29 : decode cX7_away 29 = .ok (.istore_n 3, 1) := by decide +kernel
theorem dX7_away_30 : decode cX7_away 30 = .ok (.iconst 4, 1) := by decide +kernel
theorem dX7_away_31 : decode cX7_away 31 = .ok (.iload_n 2, 1) := by decide +kernel
theorem dX7_away_32 : decode cX7_away 32 = .ok (.iload_n 2, 1) := by decide +kernel
theorem dX7_away_33 : decode cX7_away 33 = .ok (.imul, 1) := by decide +kernel
theorem dX7_away_34 : decode cX7_away 34 = .ok (.iload_n 3, 1) := by decide +kernel
theorem dX7_away_35 : decode cX7_away 35 = .ok (.iload_n 3, 1) := by decide +kernel
theorem dX7_away_36 : decode cX7_away 36 = .ok (.imul, 1) := by decide +kernel
theorem dX7_away_37 : decode cX7_away 37 = .ok (.iadd, 1) := by decide +kernel
theorem dX7_away_38 : decode cX7_away 38 = .ok (.imul, 1) := by decide +kernel
theorem dX7_away_39 : decode cX7_away 39 = .ok (.istore 4, 2) := by decide +kernel
theorem dX7_away_41 : decode cX7_away 41 = .ok (.iconst 0, 1) := by decide +kernel
theorem dX7_away_42 : decode cX7_away 42 = .ok (.istore 5, 2) := by decide +kernel
theorem dX7_away_44 : decode cX7_away 44 = .ok (.iload 5, 2) := by decide +kernel
theorem dX7_away_46 : decode cX7_away 46 = .ok (.iconst 1, 1) := by decide +kernel
theorem dX7_away_47 : decode cX7_away 47 = .ok (.iadd, 1) := by decide +kernel
theorem dX7_away_48 : decode cX7_away 48 = .ok (.iload 5, 2) := by decide +kernel
theorem dX7_away_50 : decode cX7_away 50 = .ok (.iconst 1, 1) := by decide +kernel
theorem dX7_away_51 : decode cX7_away 51 = .ok (.iadd, 1) := by decide +kernel
theorem dX7_away_52 : decode cX7_away 52 = .ok (.imul, 1) := by decide +kernel
theorem dX7_away_53 : decode cX7_away 53 = .ok (.iload 4, 2) := by decide +kernel
theorem dX7_away_55 : decode cX7_away 55 = .ok (.if_icmp .gt 9, 3) := by decide +kernel
theorem dX7_away_58 : decode cX7_away 58 = .ok (.iinc 5 1, 3) := by decide +kernel
theorem dX7_away_61 : decode cX7_away 61 = .ok (.goto (-17), 3) := by decide +kernel
theorem dX7_away_64 : decode cX7_away 64 = .ok (.iload 5, 2) := by decide +kernel
theorem dX7_away_66 : decode cX7_away 66 = .ok (.ireturn, 1) := by decide +kernel
set_option maxRecDepth 20000 in
theorem ggX7_set_X7_in : GoodIn wsX7_set wsX7_in := goodIn_r _ [6] (by decide +kernel) (by decide +kernel)
set_option maxRecDepth 20000 in
theorem gX7_set_X7_in : GoodIn wsX7_set (va_wsS RX7 100 yX7_in wsX7_in) := goodIn_app (goodIn_of _ (by decide +kernel)) ggX7_set_X7_in
theorem dX7_set_0 : decode cX7_set 0 = .ok (.iload_n 1, 1) := by decide +kernel
theorem dX7_set_1 : decode cX7_set 1 = .ok (.i2l, 1) := by decide +kernel
theorem dX7_set_2 : decode cX7_set 2 = .ok (.lconst 0, 1) := by decide +kernel
theorem dX7_set_3 : decode cX7_set 3 = .ok (.ldc2_w 113, 3) := by decide +kernel
theorem dX7_set_6 : decode cX7_set 6 = .ok (.invokestatic 100, 3) := by decide +kernel
theorem dX7_set_9 : decode cX7_set 9 = .ok (.ifCond .ne 5, 3) := by decide +kernel
theorem dX7_set_12 : decode cX7_set 12 = .ok (.iconst (-1), 1) := by decide +kernel
theorem dX7_set_13 : decode cX7_set 13 = .ok (.ireturn, 1) := by decide +kernel
theorem dX7_set_14 : decode cX7_set 14 = .ok (.iload_n 1, 1) := by decide +kernel
theorem dX7_set_15 : decode cX7_set 15 = .ok (.iconst 2, 1) := by decide +kernel
theorem dX7_set_16 : decode cX7_set 16 = .ok (.if_icmp .ge 8, 3) := by decide +kernel
theorem dX7_set_19 : decode cX7_set 19 = .ok (.bipush 99, 2) := by decide +kernel
theorem dX7_set_21 : decode cX7_set 21 = .ok (.goto 53, 3) := by decide +kernel
theorem dX7_set_24 : decode cX7_set 24 = .ok (.iload_n 1, 1) := by decide +kernel
theorem dX7_set_25 : decode cX7_set 25 = .ok (.iconst 2, 1) := by decide +kernel
theorem dX7_set_26 : decode cX7_set 26 = .ok (.if_icmp .ne 8, 3) := by decide +kernel
theorem dX7_set_29 : decode cX7_set 29 = .ok (.bipush 6, 2) := by decide +kernel
theorem dX7_set_31 : decode cX7_set 31 = .ok (.goto 43, 3) := by decide +kernel
theorem dX7_set_34 : decode cX7_set 34 = .ok (.iload_n 1, 1) := by decide +kernel
theorem dX7_set_35 : decode cX7_set 35 = .ok (.iconst 3, 1) := by decide +kernel
theorem dX7_set_36 : decode cX7_set 36 = .ok (.if_icmp .ne 7, 3) := by decide +kernel
theorem dX7_set_39 : decode cX7_set 39 = .ok (.iconst 2, 1) := by decide +kernel
theorem dX7_set_40 : decode cX7_set 40 = .ok (.goto 34, 3) := by decide +kernel
theorem dX7_set_43 : decode cX7_set 43 = .ok (.iload_n 1, 1) := by decide +kernel
theorem dX7_set_44 : decode cX7_set 44 = .ok (.iconst 4, 1) := by decide +kernel
theorem dX7_set_45 : decode cX7_set 45 = .ok (.if_icmp .ne 7, 3) := by decide +kernel
theorem dX7_set_48 : decode cX7_set 48 = .ok (.iconst 1, 1) := by decide +kernel
theorem dX7_set_49 : decode cX7_set 49 = .ok (.goto 25, 3) := by decide +kernel
theorem dX7_set_52 : decode cX7_set 52 = .ok (.iload_n 1, 1) := by decide +kernel
theorem dX7_set_53 : decode cX7_set 53 = .ok (.iconst 5, 1) := by decide +kernel
theorem dX7_set_54 : decode cX7_set 54 = .ok (.if_icmp .ne 8, 3) := by decide +kernel
theorem dX7_set_57 : decode cX7_set 57 = .ok (.bipush 60, 2) := by decide +kernel
theorem dX7_set_59 : decode cX7_set 59 = .ok (.goto 15, 3) := by decide +kernel
theorem dX7_set_62 : decode cX7_set 62 = .ok (.iload_n 1, 1) := by decide +kernel
theorem dX7_set_63 : decode cX7_set 63 = .ok (.bipush 6, 2) := by decide +kernel
theorem dX7_set_65 : decode cX7_set 65 = .ok (.if_icmp .ne 7, 3) := by decide +kernel
theorem dX7_set_68 : decode cX7_set 68 = .ok (.iconst 3, 1) := by decide +kernel
theorem dX7_set_69 : decode cX7_set 69 = .ok (.goto 5, 3) := by decide +kernel
theorem dX7_set_72 : decode cX7_set 72 = .ok (.bipush 8, 2) := by decide +kernel
theorem dX7_set_74 : decode cX7_set 74 = .ok (.istore_n 3, 1) := by decide +kernel
theorem dX7_set_75 : decode cX7_set 75 = .ok (.iload_n 2, 1) := by decide +kernel
theorem dX7_set_76 : decode cX7_set 76 = .ok (.i2l, 1) := by decide +kernel
theorem dX7_set_77 : decode cX7_set 77 = .ok (.iload_n 1, 1) := by decide +kernel
theorem dX7_set_78 : decode cX7_set 78 = .ok (.iconst 2, 1) := by decide +kernel
theorem dX7_set_79 : decode cX7_set 79 = .ok (.if_icmp .ne 7, 3) := by decide +kernel
theorem dX7_set_82 : decode cX7_set 82 = .ok (.lconst 1, 1) := by decide +kernel
theorem dX7_set_83 : decode cX7_set 83 = .ok (.goto 4, 3) := by decide +kernel
theorem dX7_set_86 : decode cX7_set 86 = .ok (.lconst 0, 1) := by decide +kernel
theorem dX7_set_87 : decode cX7_set 87 = .ok (.iload_n 3, 1) := by decide +kernel
theorem dX7_set_88 : decode cX7_set 88 = .ok (.i2l, 1) := by decide +kernel
theorem dX7_set_89 : decode cX7_set 89 = .ok (.invokestatic 100, 3) := by decide +kernel
theorem dX7_set_92 : decode cX7_set 92 = .ok (.ifCond .ne 5, 3) := by decide +kernel
theorem dX7_set_95 : decode cX7_set 95 = .ok (.iconst (-1), 1) := by decide +kernel
theorem dX7_set_96 : decode cX7_set 96 = .ok (.ireturn, 1) := by decide +kernel
theorem dX7_set_97 : decode cX7_set 97 = .ok (.aload_n 0, 1) := by decide +kernel
theorem dX7_set_98 : decode cX7_set 98 = .ok (.getfield 7, 3) := by decide +kernel
theorem dX7_set_101 : decode cX7_set 101 = .ok (.iload_n 1, 1) := by decide +kernel
theorem dX7_set_102 : decode cX7_set 102 = .ok (.iaload, 1) := by decide +kernel
theorem dX7_set_103 : decode cX7_set 103 = .ok (.istore 4, 2) := by decide +kernel
theorem dX7_set_105 : decode cX7_set 105 = .ok (.aload_n 0, 1) := by decide +kernel
theorem dX7_set_106 : decode cX7_set 106 = .ok (.getfield 7, 3) := by decide +kernel
theorem dX7_set_109 : decode cX7_set 109 = .ok (.iload_n 1, 1) := by decide +kernel
theorem dX7_set_110 : decode cX7_set 110 = .ok (.iload_n 2, 1) := by decide +kernel
theorem dX7_set_111 : decode cX7_set 111 = .ok (.iastore, 1) := by decide +kernel
theorem dX7_set_112 : decode cX7_set 112 = .ok (.iload 4, 2) := by decide +kernel
theorem dX7_set_114 : decode cX7_set 114 = .ok (.ireturn, 1) := by decide +kernel
set_option maxRecDepth 20000 in
theorem ggX7_far_X7_isCell : GoodIn wsX7_far wsX7_isCell := goodIn_r _ [4, 5, 6, 7, 3, 8] (by decide +kernel) (by decide +kernel)
set_option maxRecDepth 20000 in
theorem gX7_far_X7_isCell : GoodIn wsX7_far (va_wsS RX7 115 yX7_isCell wsX7_isCell) := goodIn_app (goodIn_of _ (by decide +kernel)) ggX7_far_X7_isCell
set_option maxRecDepth 20000 in
theorem ggX7_far_X7_away : GoodIn wsX7_far wsX7_away := goodIn_r _ [12, 13, 14, 15, 16, 17, 18, 19, 20, 21, 22, 23, 24, 25, 26, 27, 28, 29, 30, 31, 32, 33, 34, 35, 36, 37, 38, 39, 40, 41, 42, 43, 44, 45, 46, 47, 48, 49, 50, 51, 52, 53, 54, 55] (by decide +kernel) (by decide +kernel)
set_option maxRecDepth 20000 in
theorem gX7_far_X7_away : GoodIn wsX7_far (wsV RX7 119 RX7 yX7_away wsX7_away) := goodIn_app (goodIn_of _ (by decide +kernel)) ggX7_far_X7_away
theorem dX7_far_0 : decode cX7_far 0 = .ok (.iload_n 1, 1) := by decide +kernel
theorem dX7_far_1 : decode cX7_far 1 = .ok (.invokestatic 115, 3) := by decide +kernel
theorem dX7_far_4 : decode cX7_far 4 = .ok (.ifCond .eq 11, 3) := by decide +kernel
theorem dX7_far_7 : decode cX7_far 7 = .ok (.aload_n 0, 1) := by decide +kernel
theorem dX7_far_8 : decode cX7_far 8 = .ok (.iload_n 1, 1) := by decide +kernel
theorem dX7_far_9 : decode cX7_far 9 = .ok (.invokevirtual 119, 3) := by decide +kernel
theorem dX7_far_12 : decode cX7_far 12 = .ok (.goto 4, 3) := by decide +kernel
theorem dX7_far_15 : decode cX7_far 15 = .ok (.iconst (-1), 1) := by decide +kernel
theorem dX7_far_16 : decode cX7_far 16 = .ok (.ireturn, 1) := by decide +kernel
set_option maxRecDepth 20000 in
theorem ggX7_ring_X7_in : GoodIn wsX7_ring wsX7_in := goodIn_r _ [10] (by decide +kernel) (by decide +kernel)
set_option maxRecDepth 20000 in
theorem gX7_ring_X7_in : GoodIn wsX7_ring (va_wsS RX7 100 yX7_in wsX7_in) := goodIn_app (goodIn_of _ (by decide +kernel)) ggX7_ring_X7_in
theorem dX7_ring_0 : decode cX7_ring 0 = .ok (.iload_n 1, 1) := by decide +kernel
theorem dX7_ring_1 : decode cX7_ring 1 = .ok (.i2l, 1) := by decide +kernel
theorem dX7_ring_2 : decode cX7_ring 2 = .ok (.lconst 1, 1) := by decide +kernel
theorem dX7_ring_3 : decode cX7_ring 3 = .ok (.ldc2_w 122, 3) := by decide +kernel
theorem dX7_ring_6 : decode cX7_ring 6 = .ok (.invokestatic 100, 3) := by decide +kernel
theorem dX7_ring_9 : decode cX7_ring 9 = .ok (.ifCond .eq 45, 3) := by decide +kernel
theorem dX7_ring_12 : decode cX7_ring 12 = .ok (.iload_n 2, 1) := by decide +kernel
theorem dX7_ring_13 : decode cX7_ring 13 = .ok (.i2l, 1) := by decide +kernel
theorem dX7_ring_14 : decode cX7_ring 14 = .ok (.lconst 0, 1) := by decide +kernel
theorem dX7_ring_15 : decode cX7_ring 15 = .ok (.lconst 1, 1) := by decide +kernel
theorem dX7_ring_16 : decode cX7_ring 16 = .ok (.invokestatic 100, 3) := by decide +kernel
theorem dX7_ring_19 : decode cX7_ring 19 = .ok (.ifCond .eq 35, 3) := by decide +kernel
theorem dX7_ring_22 : decode cX7_ring 22 = .ok (.iload_n 3, 1) := by decide +kernel
theorem dX7_ring_23 : decode cX7_ring 23 = .ok (.i2l, 1) := by decide +kernel
theorem dX7_ring_24 : decode cX7_ring 24 = .ok (.iload_n 2, 1) := by decide +kernel
theorem dX7_ring_25 : decode cX7_ring 25 = .ok (.ifCond .ne 9, 3) := by decide +kernel
theorem dX7_ring_28 : decode cX7_ring 28 = .ok (.ldc2_w 124, 3) := by decide +kernel
theorem dX7_ring_31 : decode cX7_ring 31 = .ok (.goto 4, 3) := by decide +kernel
theorem dX7_ring_34 : decode cX7_ring 34 = .ok (.lconst 0, 1) := by decide +kernel
theorem dX7_ring_35 : decode cX7_ring 35 = .ok (.iload_n 2, 1) := by decide +kernel
theorem dX7_ring_36 : decode cX7_ring 36 = .ok (.ifCond .ne 9, 3) := by decide +kernel
theorem dX7_ring_39 : decode cX7_ring 39 = .ok (.ldc2_w 126, 3) := by decide +kernel
theorem dX7_ring_42 : decode cX7_ring 42 = .ok (.goto 6, 3) := by decide +kernel
theorem dX7_ring_45 : decode cX7_ring 45 = .ok (.ldc2_w 128, 3) := by decide +kernel
