set_option maxRecDepth 20000 in
theorem gX7_check_X5_remember : GoodIn wsX7_check (wsV RX7 83 RX5 yX5_remember wsX5_remember) := goodIn_app (goodIn_of _ (by decide +kernel)) ggX7_check_X5_remember
set_option maxRecDepth 20000 in
theorem ggX7_check_X4_mend : GoodIn wsX7_check wsX4_mend := goodIn_r _ [22, 23, 24, 25, 26, 27, 28, 29, 10, 30, 12, 31, 32, 33, 34, 35, 36, 21, 37, 38, 39, 40, 41, 42, 43, 44, 45, 46, 47, 48, 49, 50, 51, 52, 53, 54, 55, 56, 57, 58, 59, 60, 61, 62, 63, 64, 65, 66, 67, 68, 69, 70, 71, 72, 73, 74, 75, 76, 77, 78, 79, 80, 81, 82, 83, 84, 85, 86, 87, 88, 89, 90, 91, 92, 93, 94, 95, 96, 97, 98, 99, 100, 101, 102, 103, 104, 105, 106, 280, 278, 279] (by decide +kernel) (by decide +kernel)
set_option maxRecDepth 20000 in
theorem gX7_check_X4_mend : GoodIn wsX7_check (wsV RX7 86 RX4 yX4_mend wsX4_mend) := goodIn_app (goodIn_of _ (by decide +kernel)) ggX7_check_X4_mend
set_option maxRecDepth 20000 in
theorem ggX7_check_X7_weightIfMended : GoodIn wsX7_check wsX7_weightIfMended := goodIn_r _ [110, 1, 111, 112, 113, 10, 114, 12, 13, 7, 8, 9, 11, 14, 15, 16, 17, 272, 273, 274, 275, 276, 277, 278, 279] (by decide +kernel) (by decide +kernel)
set_option maxRecDepth 20000 in
theorem gX7_check_X7_weightIfMended : GoodIn wsX7_check (wsV RX7 90 RX7 yX7_weightIfMended wsX7_weightIfMended) := goodIn_app (goodIn_of _ (by decide +kernel)) ggX7_check_X7_weightIfMended
set_option maxRecDepth 20000 in
theorem ggX7_check_X1_mend : GoodIn wsX7_check wsX1_mend := goodIn_r _ [119, 120, 24, 25, 26, 121, 28, 29, 10, 30, 12, 31, 32, 33, 122, 123, 124, 118, 125, 126, 127, 128, 129, 57, 58, 59, 130, 131, 132, 133, 134, 135, 136, 137, 138, 139, 140, 141, 142, 143, 144, 145, 146, 147, 148, 54, 55, 56, 49, 50, 51, 52, 281, 278, 279] (by decide +kernel) (by decide +kernel)
set_option maxRecDepth 20000 in
theorem gX7_check_X1_mend : GoodIn wsX7_check (wsV RX7 94 RX1 yX1_mend wsX1_mend) := goodIn_app (goodIn_of _ (by decide +kernel)) ggX7_check_X1_mend
set_option maxRecDepth 20000 in
theorem ggX7_check_X6_gather : GoodIn wsX7_check wsX6_gather := goodIn_r _ [153, 154, 155, 156, 24, 25, 26, 157, 158, 159, 10, 160, 12, 142, 143, 161, 162, 152, 163, 164, 28, 29, 30, 31, 32, 33, 165, 166, 167, 168, 137, 127, 128, 129, 57, 58, 59, 169, 170, 171, 172, 173, 282, 283, 284, 285, 278, 279] (by decide +kernel) (by decide +kernel)
set_option maxRecDepth 20000 in
theorem gX7_check_X6_gather : GoodIn wsX7_check (wsV RX7 95 RX6 yX6_gather wsX6_gather) := goodIn_app (goodIn_of _ (by decide +kernel)) ggX7_check_X6_gather
set_option maxRecDepth 20000 in
theorem ggX7_check_X2_mend : GoodIn wsX7_check wsX2_mend := goodIn_r _ [178, 179, 24, 25, 26, 180, 181, 182, 177, 183, 184, 185, 186, 187, 188, 189, 142, 143, 190, 127, 128, 10, 129, 12, 57, 58, 59, 191, 28, 29, 30, 31, 32, 33, 192, 193, 194, 152, 195, 155, 196, 197, 198, 199, 200, 201, 202, 203, 137, 204, 205, 206, 207, 208, 145, 146, 147, 209, 54, 55, 56, 49, 50, 51, 52, 210, 134, 135, 136, 211, 65, 66, 67, 212, 213, 214, 215, 286, 287, 288, 278, 279, 282, 283, 284, 285] (by decide +kernel) (by decide +kernel)
set_option maxRecDepth 20000 in
theorem gX7_check_X2_mend : GoodIn wsX7_check (wsV RX7 99 RX2 yX2_mend wsX2_mend) := goodIn_app (goodIn_of _ (by decide +kernel)) ggX7_check_X2_mend
set_option maxRecDepth 20000 in
theorem ggX7_check_X3_mend : GoodIn wsX7_check wsX3_mend := goodIn_r _ [219, 220, 221, 218, 222, 223, 28, 29, 10, 30, 12, 31, 32, 33, 224, 166, 167, 168, 137, 127, 128, 129, 57, 58, 59, 225, 226, 227, 228, 142, 25, 143, 229, 39, 40, 41, 230, 231, 232, 233, 234, 235, 236, 237, 238, 152, 239, 156, 173, 240, 241, 242, 243, 244, 245, 246, 247, 278, 279, 282, 283, 284, 285] (by decide +kernel) (by decide +kernel)
set_option maxRecDepth 20000 in
theorem gX7_check_X3_mend : GoodIn wsX7_check (va_wsS RX7 102 yX3_mend wsX3_mend) := goodIn_app (goodIn_of _ (by decide +kernel)) ggX7_check_X3_mend
set_option maxRecDepth 20000 in
theorem ggX7_check_X0_mend : GoodIn wsX7_check wsX0_mend := goodIn_r _ [251, 252, 253, 254, 10, 255, 12, 256, 257, 258, 259, 28, 29, 30, 31, 32, 33, 260, 82, 83, 84, 46, 47, 48, 261, 262, 250, 263, 264, 265, 266, 267, 268, 269, 270, 271, 241, 242, 243, 278, 279] (by decide +kernel) (by decide +kernel)
set_option maxRecDepth 20000 in
theorem gX7_check_X0_mend : GoodIn wsX7_check (va_wsS RX7 107 yX0_mend wsX0_mend) := goodIn_app (goodIn_of _ (by decide +kernel)) ggX7_check_X0_mend
theorem dX7_check_0 : decode cX7_check 0 = .ok (.aload_n 0, 1) := by decide +kernel
theorem dX7_check_1 : decode cX7_check 1 = .ok (.getfield 10, 3) := by decide +kernel
theorem dX7_check_4 : decode cX7_check 4 = .ok (.invokevirtual 83, 3) := by decide +kernel
theorem dX7_check_7 : decode cX7_check 7 = .ok (.aload_n 0, 1) := by decide +kernel
theorem dX7_check_8 : decode cX7_check 8 = .ok (.getfield 23, 3) := by decide +kernel
theorem dX7_check_11 : decode cX7_check 11 = .ok (.aload_n 0, 1) := by decide +kernel
theorem dX7_check_12 : decode cX7_check 12 = .ok (.getfield 10, 3) := by decide +kernel
theorem dX7_check_15 : decode cX7_check 15 = .ok (.invokevirtual 86, 3) := by decide +kernel
theorem dX7_check_18 : decode cX7_check 18 = .ok (.aload_n 0, 1) := by decide +kernel
theorem dX7_check_19 : decode cX7_check 19 = .ok (.iconst 1, 1) := by decide +kernel
theorem dX7_check_20 : decode cX7_check 20 = .ok (.invokevirtual 90, 3) := by decide +kernel
theorem dX7_check_23 : decode cX7_check 23 = .ok (.istore_n 1, 1) := by decide +kernel
theorem dX7_check_24 : decode cX7_check 24 = .ok (.aload_n 0, 1) := by decide +kernel
theorem dX7_check_25 : decode cX7_check 25 = .ok (.getfield 30, 3) := by decide +kernel
theorem dX7_check_28 : decode cX7_check 28 = .ok (.aload_n 0, 1) := by decide +kernel
theorem dX7_check_29 : decode cX7_check 29 = .ok (.getfield 10, 3) := by decide +kernel
theorem dX7_check_32 : decode cX7_check 32 = .ok (.invokevirtual 94, 3) := by decide +kernel
theorem dX7_check_35 : decode cX7_check 35 = .ok (.iload_n 1, 1) := by decide +kernel
theorem dX7_check_36 : decode cX7_check 36 = .ok (.aload_n 0, 1) := by decide +kernel
theorem dX7_check_37 : decode cX7_check 37 = .ok (.iconst 2, 1) := by decide +kernel
theorem dX7_check_38 : decode cX7_check 38 = .ok (.invokevirtual 90, 3) := by decide +kernel
theorem dX7_check_41 : decode cX7_check 41 = .ok (.iadd, 1) := by decide +kernel
theorem dX7_check_42 : decode cX7_check 42 = .ok (.istore_n 1, 1) := by decide +kernel
theorem dX7_check_43 : decode cX7_check 43 = .ok (.aload_n 0, 1) := by decide +kernel
theorem dX7_check_44 : decode cX7_check 44 = .ok (.getfield 44, 3) := by decide +kernel
theorem dX7_check_47 : decode cX7_check 47 = .ok (.aload_n 0, 1) := by decide +kernel
theorem dX7_check_48 : decode cX7_check 48 = .ok (.getfield 10, 3) := by decide +kernel
theorem dX7_check_51 : decode cX7_check 51 = .ok (.aload_n 0, 1) := by decide +kernel
theorem dX7_check_52 : decode cX7_check 52 = .ok (.getfield 16, 3) := by decide +kernel
theorem dX7_check_55 : decode cX7_check 55 = .ok (.invokevirtual 95, 3) := by decide +kernel
theorem dX7_check_58 : decode cX7_check 58 = .ok (.aload_n 0, 1) := by decide +kernel
theorem dX7_check_59 : decode cX7_check 59 = .ok (.getfield 37, 3) := by decide +kernel
theorem dX7_check_62 : decode cX7_check 62 = .ok (.aload_n 0, 1) := by decide +kernel
theorem dX7_check_63 : decode cX7_check 63 = .ok (.getfield 10, 3) := by decide +kernel
theorem dX7_check_66 : decode cX7_check 66 = .ok (.aload_n 0, 1) := by decide +kernel
theorem dX7_check_67 : decode cX7_check 67 = .ok (.getfield 44, 3) := by decide +kernel
theorem dX7_check_70 : decode cX7_check 70 = .ok (.aload_n 0, 1) := by decide +kernel
theorem dX7_check_71 : decode cX7_check 71 = .ok (.getfield 16, 3) := by decide +kernel
theorem dX7_check_74 : decode cX7_check 74 = .ok (.invokevirtual 99, 3) := by decide +kernel
theorem dX7_check_77 : decode cX7_check 77 = .ok (.iload_n 1, 1) := by decide +kernel
theorem dX7_check_78 : decode cX7_check 78 = .ok (.aload_n 0, 1) := by decide +kernel
theorem dX7_check_79 : decode cX7_check 79 = .ok (.iconst 4, 1) := by decide +kernel
theorem dX7_check_80 : decode cX7_check 80 = .ok (.invokevirtual 90, 3) := by decide +kernel
theorem dX7_check_83 : decode cX7_check 83 = .ok (.iadd, 1) := by decide +kernel
theorem dX7_check_84 : decode cX7_check 84 = .ok (.istore_n 1, 1) := by decide +kernel
theorem dX7_check_85 : decode cX7_check 85 = .ok (.aload_n 0, 1) := by decide +kernel
theorem dX7_check_86 : decode cX7_check 86 = .ok (.getfield 10, 3) := by decide +kernel
theorem dX7_check_89 : decode cX7_check 89 = .ok (.aload_n 0, 1) := by decide +kernel
theorem dX7_check_90 : decode cX7_check 90 = .ok (.getfield 44, 3) := by decide +kernel
theorem dX7_check_93 : decode cX7_check 93 = .ok (.invokestatic 102, 3) := by decide +kernel
theorem dX7_check_96 : decode cX7_check 96 = .ok (.iload_n 1, 1) := by decide +kernel
theorem dX7_check_97 : decode cX7_check 97 = .ok (.aload_n 0, 1) := by decide +kernel
theorem dX7_check_98 : decode cX7_check 98 = .ok (.bipush 8, 2) := by decide +kernel
theorem dX7_check_100 : decode cX7_check 100 = .ok (.invokevirtual 90, 3) := by decide +kernel
theorem dX7_check_103 : decode cX7_check 103 = .ok (.iadd, 1) := by decide +kernel
theorem dX7_check_104 : decode cX7_check 104 = .ok (.istore_n 1, 1) := by decide +kernel
theorem dX7_check_105 : decode cX7_check 105 = .ok (.aload_n 0, 1) := by decide +kernel
theorem dX7_check_106 : decode cX7_check 106 = .ok (.getfield 10, 3) := by decide +kernel
theorem dX7_check_109 : decode cX7_check 109 = .ok (.invokestatic 107, 3) := by decide +kernel
theorem dX7_check_112 : decode cX7_check 112 = .ok (.iload_n 1, 1) := by decide +kernel
theorem dX7_check_113 : decode cX7_check 113 = .ok (.aload_n 0, 1) := by decide +kernel
theorem dX7_check_114 : decode cX7_check 114 = .ok (.bipush 16, 2) := by decide +kernel
theorem dX7_check_116 : decode cX7_check 116 = .ok (.invokevirtual 90, 3) := by decide +kernel
theorem dX7_check_119 : decode cX7_check 119 = .ok (.iadd, 1) := by decide +kernel
theorem dX7_check_120 : decode cX7_check 120 = .ok (.istore_n 1, 1) := by decide +kernel
theorem dX7_check_121 : decode cX7_check 121 = .ok (.iload_n 1, 1) := by decide +kernel
theorem dX7_check_122 : decode cX7_check 122 = .ok (.ireturn, 1) := by decide +kernel
set_option maxRecDepth 20000 in
theorem ggX7_about_X7_needFile : GoodIn wsX7_about wsX7_needFile := goodIn_ca (goodIn_r _ [5, 6, 7, 8, 9, 4, 10] (by decide +kernel) (by decide +kernel)) (goodIn_sub (fun _ h => List.mem_cons_of_mem _ (List.mem_append_right _ h)) (by decide +kernel))
set_option maxRecDepth 20000 in
theorem gX7_about_X7_needFile : GoodIn wsX7_about (va_wsS RX7 55 yX7_needFile wsX7_needFile) := goodIn_app (goodIn_of _ (by decide +kernel)) ggX7_about_X7_needFile
set_option maxRecDepth 20000 in
theorem ggX7_about_X7_needPlace : GoodIn wsX7_about wsX7_needPlace := goodIn_ca (goodIn_r _ [13, 6, 7] (by decide +kernel) (by decide +kernel)) (goodIn_sub (fun _ h => List.mem_cons_of_mem _ (List.mem_append_right _ h)) (by decide +kernel))
set_option maxRecDepth 20000 in
theorem gX7_about_X7_needPlace : GoodIn wsX7_about (va_wsS RX7 59 yX7_needPlace wsX7_needPlace) := goodIn_app (goodIn_of _ (by decide +kernel)) ggX7_about_X7_needPlace
set_option maxRecDepth 20000 in
theorem ggX7_about_X5_number : GoodIn wsX7_about wsX5_number := goodIn_r _ [18, 19, 20, 21, 17, 22, 29, 30] (by decide +kernel) (by decide +kernel)
set_option maxRecDepth 20000 in
theorem gX7_about_X5_number : GoodIn wsX7_about (wsV RX7 110 RX5 yX5_number wsX5_number) := goodIn_app (goodIn_of _ (by decide +kernel)) ggX7_about_X5_number
theorem dX7_about_0 : decode cX7_about 0 = .ok (.iload_n 1, 1) := by decide +kernel
theorem dX7_about_1 : decode cX7_about 1 = .ok (.invokestatic 55, 3) := by decide +kernel
theorem dX7_about_4 : decode cX7_about 4 = .ok (.iload_n 2, 1) := by decide +kernel
theorem dX7_about_5 : decode cX7_about 5 = .ok (.iconst 5, 1) := by decide +kernel
theorem dX7_about_6 : decode cX7_about 6 = .ok (.invokestatic 59, 3) := by decide +kernel
theorem dX7_about_9 : decode cX7_about 9 = .ok (.aload_n 0, 1) := by decide +kernel
theorem dX7_about_10 : decode cX7_about 10 = .ok (.getfield 10, 3) := by decide +kernel
theorem dX7_about_13 : decode cX7_about 13 = .ok (.iload_n 1, 1) := by decide +kernel
theorem dX7_about_14 : decode cX7_about 14 = .ok (.iload_n 2, 1) := by decide +kernel
theorem dX7_about_15 : decode cX7_about 15 = .ok (.invokevirtual 110, 3) := by decide +kernel
theorem dX7_about_18 : decode cX7_about 18 = .ok (.ireturn, 1) := by decide +kernel
set_option maxRecDepth 20000 in
theorem ggX7_runOf_X7_needFile : GoodIn wsX7_runOf wsX7_needFile := goodIn_ca (goodIn_r _ [5, 6, 7, 8, 9, 4, 10] (by decide +kernel) (by decide +kernel)) (goodIn_sub (fun _ h => List.mem_cons_of_mem _ (List.mem_append_right _ h)) (by decide +kernel))
set_option maxRecDepth 20000 in
theorem gX7_runOf_X7_needFile : GoodIn wsX7_runOf (va_wsS RX7 55 yX7_needFile wsX7_needFile) := goodIn_app (goodIn_of _ (by decide +kernel)) ggX7_runOf_X7_needFile
set_option maxRecDepth 20000 in
theorem ggX7_runOf_X7_needPlace : GoodIn wsX7_runOf wsX7_needPlace := goodIn_ca (goodIn_r _ [13, 6, 7] (by decide +kernel) (by decide +kernel)) (goodIn_sub (fun _ h => List.mem_cons_of_mem _ (List.mem_append_right _ h)) (by decide +kernel))
set_option maxRecDepth 20000 in
theorem gX7_runOf_X7_needPlace : GoodIn wsX7_runOf (va_wsS RX7 59 yX7_needPlace wsX7_needPlace) := goodIn_app (goodIn_of _ (by decide +kernel)) ggX7_runOf_X7_needPlace
set_option maxRecDepth 20000 in
theorem ggX7_runOf_X5_runPart : GoodIn wsX7_runOf wsX5_runPart := goodIn_r _ [18, 19, 20, 21, 17, 22, 29, 30] (by decide +kernel) (by decide +kernel)
set_option maxRecDepth 20000 in
theorem gX7_runOf_X5_runPart : GoodIn wsX7_runOf (wsV RX7 114 RX5 yX5_runPart wsX5_runPart) := goodIn_app (goodIn_of _ (by decide +kernel)) ggX7_runOf_X5_runPart
theorem dX7_runOf_0 : decode cX7_runOf 0 = .ok (.iload_n 1, 1) := by decide +kernel
theorem dX7_runOf_1 : decode cX7_runOf 1 = .ok (.invokestatic 55, 3) := by decide +kernel
theorem dX7_runOf_4 : decode cX7_runOf 4 = .ok (.iload_n 2, 1) := by decide +kernel
theorem dX7_runOf_5 : decode cX7_runOf 5 = .ok (.bipush 6, 2) := by decide +kernel
theorem dX7_runOf_7 : decode cX7_runOf 7 = .ok (.invokestatic 59, 3) := by decide +kernel
theorem dX7_runOf_10 : decode cX7_runOf 10 = .ok (.iload_n 3, 1) := by decide +kernel
theorem dX7_runOf_11 : decode cX7_runOf 11 = .ok (.iconst 3, 1) := by decide +kernel
theorem dX7_runOf_12 : decode cX7_runOf 12 = .ok (.invokestatic 59, 3) := by decide +kernel
theorem dX7_runOf_15 : decode cX7_runOf 15 = .ok (.aload_n 0, 1) := by decide +kernel
theorem dX7_runOf_16 : decode cX7_runOf 16 = .ok (.getfield 10, 3) := by decide +kernel
theorem dX7_runOf_19 : decode cX7_runOf 19 = .ok (.iload_n 1, 1) := by decide +kernel
theorem dX7_runOf_20 : decode cX7_runOf 20 = .ok (.iload_n 2, 1) := by decide +kernel
theorem dX7_runOf_21 : decode cX7_runOf 21 = .ok (.iload_n 3, 1) := by decide +kernel
theorem dX7_runOf_22 : decode cX7_runOf 22 = .ok (.invokevirtual 114, 3) := by decide +kernel
theorem dX7_runOf_25 : decode cX7_runOf 25 = .ok (.ireturn, 1) := by decide +kernel
set_option maxRecDepth 20000 in
theorem ggX7_entryOf_X7_needFile : GoodIn wsX7_entryOf wsX7_needFile := goodIn_ca (goodIn_r _ [5, 6, 7, 8, 9, 4, 10] (by decide +kernel) (by decide +kernel)) (goodIn_sub (fun _ h => List.mem_cons_of_mem _ (List.mem_append_right _ h)) (by decide +kernel))
set_option maxRecDepth 20000 in
theorem gX7_entryOf_X7_needFile : GoodIn wsX7_entryOf (va_wsS RX7 55 yX7_needFile wsX7_needFile) := goodIn_app (goodIn_of _ (by decide +kernel)) ggX7_entryOf_X7_needFile
set_option maxRecDepth 20000 in
theorem ggX7_entryOf_X7_needPlace : GoodIn wsX7_entryOf wsX7_needPlace := goodIn_ca (goodIn_r _ [13, 6, 7] (by decide +kernel) (by decide +kernel)) (goodIn_sub (fun _ h => List.mem_cons_of_mem _ (List.mem_append_right _ h)) (by decide +kernel))
set_option maxRecDepth 20000 in
theorem gX7_entryOf_X7_needPlace : GoodIn wsX7_entryOf (va_wsS RX7 59 yX7_needPlace wsX7_needPlace) := goodIn_app (goodIn_of _ (by decide +kernel)) ggX7_entryOf_X7_needPlace
set_option maxRecDepth 20000 in
theorem ggX7_entryOf_X5_entryPart : GoodIn wsX7_entryOf wsX5_entryPart := goodIn_r _ [18, 19, 20, 21, 17, 22, 29, 30] (by decide +kernel) (by decide +kernel)
set_option maxRecDepth 20000 in
theorem gX7_entryOf_X5_entryPart : GoodIn wsX7_entryOf (wsV RX7 118 RX5 yX5_entryPart wsX5_entryPart) := goodIn_app (goodIn_of _ (by decide +kernel)) ggX7_entryOf_X5_entryPart
theorem dX7_entryOf_0 : decode cX7_entryOf 0 = .ok (.iload_n 1, 1) := by decide +kernel
theorem dX7_entryOf_1 : decode cX7_entryOf 1 = .ok (.invokestatic 55, 3) := by decide +kernel
theorem dX7_entryOf_4 : decode cX7_entryOf 4 = .ok (.iload_n 2, 1) := by decide +kernel
theorem dX7_entryOf_5 : decode cX7_entryOf 5 = .ok (.bipush 8, 2) := by decide +kernel
theorem dX7_entryOf_7 : decode cX7_entryOf 7 = .ok (.invokestatic 59, 3) := by decide +kernel
theorem dX7_entryOf_10 : decode cX7_entryOf 10 = .ok (.iload_n 3, 1) := by decide +kernel
theorem dX7_entryOf_11 : decode cX7_entryOf 11 = .ok (.iconst 3, 1) := by decide +kernel
theorem dX7_entryOf_12 : decode cX7_entryOf 12 = .ok (.invokestatic 59, 3) := by decide +kernel
theorem dX7_entryOf_15 : decode cX7_entryOf 15 = .ok (.aload_n 0, 1) := by decide +kernel
theorem dX7_entryOf_16 : decode cX7_entryOf 16 = .ok (.getfield 10, 3) := by decide +kernel
theorem dX7_entryOf_19 : decode cX7_entryOf 19 = .ok (.iload_n 1, 1) := by decide +kernel
theorem dX7_entryOf_20 : decode cX7_entryOf 20 = .ok (.iload_n 2, 1) := by decide +kernel
theorem dX7_entryOf_21 : decode cX7_entryOf 21 = .ok (.iload_n 3, 1) := by decide +kernel
theorem dX7_entryOf_22 : decode cX7_entryOf 22 = .ok (.invokevirtual 118, 3) := by decide +kernel
theorem dX7_entryOf_25 : decode cX7_entryOf 25 = .ok (.ireturn, 1) := by decide +kernel
set_option maxRecDepth 20000 in
theorem ggX7_isTaken_X7_needBit : GoodIn wsX7_isTaken wsX7_needBit := goodIn_ca (goodIn_r _ [5, 6, 7, 8, 9, 4, 10] (by decide +kernel) (by decide +kernel)) (goodIn_sub (fun _ h => List.mem_cons_of_mem _ (List.mem_append_right _ h)) (by decide +kernel))
set_option maxRecDepth 20000 in
theorem gX7_isTaken_X7_needBit : GoodIn wsX7_isTaken (va_wsS RX7 74 yX7_needBit wsX7_needBit) := goodIn_app (goodIn_of _ (by decide +kernel)) ggX7_isTaken_X7_needBit
set_option maxRecDepth 20000 in
theorem ggX7_isTaken_X5_bitOf : GoodIn wsX7_isTaken wsX5_bitOf := goodIn_r _ [15, 16, 17, 18, 14, 19, 26, 27] (by decide +kernel) (by decide +kernel)
set_option maxRecDepth 20000 in
theorem gX7_isTaken_X5_bitOf : GoodIn wsX7_isTaken (wsV RX7 121 RX5 yX5_bitOf wsX5_bitOf) := goodIn_app (goodIn_of _ (by decide +kernel)) ggX7_isTaken_X5_bitOf
theorem dX7_isTaken_0 : decode cX7_isTaken 0 = .ok (.iload_n 1, 1) := by decide +kernel
theorem dX7_isTaken_1 : decode cX7_isTaken 1 = .ok (.iload_n 2, 1) := by decide +kernel
theorem dX7_isTaken_2 : decode cX7_isTaken 2 = .ok (.invokestatic 74, 3) := by decide +kernel
theorem dX7_isTaken_5 : decode cX7_isTaken 5 = .ok (.aload_n 0, 1) := by decide +kernel
theorem dX7_isTaken_6 : decode cX7_isTaken 6 = .ok (.getfield 10, 3) := by decide +kernel
theorem dX7_isTaken_9 : decode cX7_isTaken 9 = .ok (.iload_n 1, 1) := by decide +kernel
theorem dX7_isTaken_10 : decode cX7_isTaken 10 = .ok (.iload_n 2, 1) := by decide +kernel
theorem dX7_isTaken_11 : decode cX7_isTaken 11 = .ok (.invokevirtual 121, 3) := by decide +kernel
theorem dX7_isTaken_14 : decode cX7_isTaken 14 = .ok (.ifCond .eq 7, 3) := by decide +kernel
theorem dX7_isTaken_17 : decode cX7_isTaken 17 = .ok (.iconst 1, 1) := by decide +kernel
theorem dX7_isTaken_18 : decode cX7_isTaken 18 = .ok (.goto 4, 3) := by decide +kernel
theorem dX7_isTaken_21 : decode cX7_isTaken 21 = .ok (.iconst 0, 1) := by decide +kernel
theorem dX7_isTaken_22 : decode cX7_isTaken 22 = .ok (.ireturn, 1) := by decide +kernel
set_option maxRecDepth 20000 in
theorem ggX7_told_X7_needPlace : GoodIn wsX7_told wsX7_needPlace := goodIn_ca (goodIn_r _ [5, 6, 7] (by decide +kernel) (by decide +kernel)) (goodIn_sub (fun _ h => List.mem_cons_of_mem _ (List.mem_append_right _ h)) (by decide +kernel))
set_option maxRecDepth 20000 in
theorem gX7_told_X7_needPlace : GoodIn wsX7_told (va_wsS RX7 59 yX7_needPlace wsX7_needPlace) := goodIn_app (goodIn_of _ (by decide +kernel)) ggX7_told_X7_needPlace
set_option maxRecDepth 20000 in
theorem ggX7_told_X5_toldNumber : GoodIn wsX7_told wsX5_toldNumber := goodIn_r _ [12, 13, 20, 21] (by decide +kernel) (by decide +kernel)
set_option maxRecDepth 20000 in
theorem gX7_told_X5_toldNumber : GoodIn wsX7_told (wsV RX7 124 RX5 yX5_toldNumber wsX5_toldNumber) := goodIn_app (goodIn_of _ (by decide +kernel)) ggX7_told_X5_toldNumber
theorem dX7_told_0 : decode cX7_told 0 = .ok (.iload_n 1, 1) := by decide +kernel
theorem dX7_told_1 : decode cX7_told 1 = .ok (.iconst 3, 1) := by decide +kernel
theorem dX7_told_2 : decode cX7_told 2 = .ok (.invokestatic 59, 3) := by decide +kernel
theorem dX7_told_5 : decode cX7_told 5 = .ok (.aload_n 0, 1) := by decide +kernel
theorem dX7_told_6 : decode cX7_told 6 = .ok (.getfield 10, 3) := by decide +kernel
theorem dX7_told_9 : decode cX7_told 9 = .ok (.iload_n 1, 1) := by decide +kernel
theorem dX7_told_10 : decode cX7_told 10 = .ok (.invokevirtual 124, 3) := by decide +kernel
theorem dX7_told_13 : decode cX7_told 13 = .ok (.ireturn, 1) := by decide +kernel
set_option maxRecDepth 20000 in
theorem ggX7_find_X7_fileNamed : GoodIn wsX7_find wsX7_fileNamed := goodIn_r _ [5, 6, 7, 8, 9, 10, 11, 12, 13, 14, 15, 16, 17, 18, 19, 20, 21, 22, 23, 24, 25, 26, 27, 31, 32, 33, 34, 35, 36, 37, 38] (by decide +kernel) (by decide +kernel)
set_option maxRecDepth 20000 in
theorem gX7_find_X7_fileNamed : GoodIn wsX7_find (wsV RX7 127 RX7 yX7_fileNamed wsX7_fileNamed) := goodIn_app (goodIn_of _ (by decide +kernel)) ggX7_find_X7_fileNamed
set_option maxRecDepth 20000 in
theorem ggX7_find_X7_isFile : GoodIn wsX7_find wsX7_isFile := goodIn_r _ [30] (by decide +kernel) (by decide +kernel)
set_option maxRecDepth 20000 in
theorem gX7_find_X7_isFile : GoodIn wsX7_find (va_wsS RX7 130 yX7_isFile wsX7_isFile) := goodIn_app (goodIn_of _ (by decide +kernel)) ggX7_find_X7_isFile
theorem dX7_find_0 : decode cX7_find 0 = .ok (.iconst 1, 1) := by decide +kernel
theorem dX7_find_1 : decode cX7_find 1 = .ok (.istore_n 3, 1) := by decide +kernel
theorem dX7_find_2 : decode cX7_find 2 = .ok (.iconst 0, 1) := by decide +kernel
theorem dX7_find_3 : decode cX7_find 3 = .ok (.istore 4, 2) := by decide +kernel
theorem dX7_find_5 : decode cX7_find 5 = .ok (.iload 4, 2) := by decide +kernel
theorem dX7_find_7 : decode cX7_find 7 = .ok (.bipush 8, 2) := by decide +kernel
theorem dX7_find_9 : decode cX7_find 9 = .ok (.if_icmp .ge 47, 3) := by decide +kernel
theorem dX7_find_12 : decode cX7_find 12 = .ok (.lload_n 1, 1) := by decide +kernel
theorem dX7_find_13 : decode cX7_find 13 = .ok (.bipush 8, 2) := by decide +kernel
theorem dX7_find_15 : decode cX7_find 15 = .ok (.iload 4, 2) := by decide +kernel
theorem dX7_find_17 : decode cX7_find 17 = .ok (.imul, 1) := by decide +kernel
theorem dX7_find_18 : decode cX7_find 18 = .ok (.lushr, 1) := by decide +kernel
theorem dX7_find_19 : decode cX7_find 19 = .ok (.l2i, 1) := by decide +kernel
theorem dX7_find_20 : decode cX7_find 20 = .ok (.sipush 255, 3) := by decide +kernel
theorem dX7_find_23 : decode cX7_find 23 = .ok (.iand, 1) := by decide +kernel
theorem dX7_find_24 : decode cX7_find 24 = .ok (.istore 5, 2) := by decide +kernel
theorem dX7_find_26 : decode cX7_find 26 = .ok (.iload 5, 2) := by decide +kernel
theorem dX7_find_28 : decode cX7_find 28 = .ok (.ifCond .ne 5, 3) := by decide +kernel
theorem dX7_find_31 : decode cX7_find 31 = .ok (.iload_n 3, 1) := by decide +kernel
theorem dX7_find_32 : decode cX7_find 32 = .ok (.ireturn, 1) := by decide +kernel
theorem dX7_find_33 : decode cX7_find 33 = .ok (.aload_n 0, 1) := by decide +kernel
theorem dX7_find_34 : decode cX7_find 34 = .ok (.iload_n 3, 1) := by decide +kernel
theorem dX7_find_35 : decode cX7_find 35 = .ok (.iload 5, 2) := by decide +kernel
theorem dX7_find_37 : decode cX7_find 37 = .ok (.invokevirtual 127, 3) := by decide +kernel
theorem dX7_find_40 : decode cX7_find 40 = .ok (.istore_n 3, 1) := by decide +kernel
theorem dX7_find_41 : decode cX7_find 41 = .ok (.iload_n 3, 1) := by decide +kernel
theorem dX7_find_42 : decode cX7_find 42 = .ok (.invokestatic 130, 3) := by decide +kernel
theorem dX7_find_45 : decode cX7_find 45 = .ok (.ifCond .ne 5, 3) := by decide +kernel
theorem dX7_find_48 : decode cX7_find 48 = .ok (.iconst 0, 1) := by decide +kernel
theorem dX7_find_49 : decode cX7_find 49 = .ok (.ireturn, 1) := by decide +kernel
theorem dX7_find_50 : decode cX7_find 50 = .ok (.iinc 4 1, 3) := by decide +kernel
theorem dX7_find_53 : decode cX7_find 53 = .ok (.goto (-48), 3) := by decide +kernel
theorem dX7_find_56 : decode cX7_find 56 = .ok (.iload_n 3, 1) := by decide +kernel
theorem dX7_find_57 : decode cX7_find 57 = .ok (.ireturn, 1) := by decide +kernel
set_option maxRecDepth 20000 in
theorem ggX7_fileNamed_X5_number : GoodIn wsX7_fileNamed wsX5_number := goodIn_r _ [6, 7, 8, 9, 5, 10, 29, 30] (by decide +kernel) (by decide +kernel)
set_option maxRecDepth 20000 in
theorem gX7_fileNamed_X5_number : GoodIn wsX7_fileNamed (wsV RX7 110 RX5 yX5_number wsX5_number) := goodIn_app (goodIn_of _ (by decide +kernel)) ggX7_fileNamed_X5_number
set_option maxRecDepth 20000 in
theorem ggX7_fileNamed_X5_placeOfName : GoodIn wsX7_fileNamed wsX5_placeOfName := goodIn_r _ [14, 15, 16, 17, 5, 18, 7, 19, 20, 21, 29, 30] (by decide +kernel) (by decide +kernel)
set_option maxRecDepth 20000 in
theorem gX7_fileNamed_X5_placeOfName : GoodIn wsX7_fileNamed (wsV RX7 134 RX5 yX5_placeOfName wsX5_placeOfName) := goodIn_app (goodIn_of _ (by decide +kernel)) ggX7_fileNamed_X5_placeOfName
set_option maxRecDepth 20000 in
theorem ggX7_fileNamed_X5_entryPart : GoodIn wsX7_fileNamed wsX5_entryPart := goodIn_r _ [18, 7, 19, 20, 5, 21, 29, 30] (by decide +kernel) (by decide +kernel)
set_option maxRecDepth 20000 in
theorem gX7_fileNamed_X5_entryPart : GoodIn wsX7_fileNamed (wsV RX7 118 RX5 yX5_entryPart wsX5_entryPart) := goodIn_app (goodIn_of _ (by decide +kernel)) ggX7_fileNamed_X5_entryPart
theorem dX7_fileNamed_0 : decode cX7_fileNamed 0 = .ok (.aload_n 0, 1) := by decide +kernel
theorem dX7_fileNamed_1 : decode cX7_fileNamed 1 = .ok (.getfield 10, 3) := by decide +kernel
theorem dX7_fileNamed_4 : decode cX7_fileNamed 4 = .ok (.iload_n 1, 1) := by decide +kernel
theorem dX7_fileNamed_5 : decode cX7_fileNamed 5 = .ok (.iconst 0, 1) := by decide +kernel
theorem dX7_fileNamed_6 : decode cX7_fileNamed 6 = .ok (.invokevirtual 110, 3) := by decide +kernel
theorem dX7_fileNamed_9 : decode cX7_fileNamed 9 = .ok (.iconst 2, 1) := by decide +kernel
theorem dX7_fileNamed_10 : decode cX7_fileNamed 10 = .ok (.if_icmp .eq 5, 3) := by decide +kernel
theorem dX7_fileNamed_13 : decode cX7_fileNamed 13 = .ok (.iconst 0, 1) := by decide +kernel
theorem dX7_fileNamed_14 : decode cX7_fileNamed 14 = .ok (.ireturn, 1) := by decide +kernel
theorem dX7_fileNamed_15 : decode cX7_fileNamed 15 = .ok (.aload_n 0, 1) := by decide +kernel
theorem dX7_fileNamed_16 : decode cX7_fileNamed 16 = .ok (.getfield 10, 3) := by decide +kernel
theorem dX7_fileNamed_19 : decode cX7_fileNamed 19 = .ok (.iload_n 1, 1) := by decide +kernel
theorem dX7_fileNamed_20 : decode cX7_fileNamed 20 = .ok (.bipush 8, 2) := by decide +kernel
theorem dX7_fileNamed_22 : decode cX7_fileNamed 22 = .ok (.iload_n 2, 1) := by decide +kernel
theorem dX7_fileNamed_23 : decode cX7_fileNamed 23 = .ok (.invokevirtual 134, 3) := by decide +kernel
theorem dX7_fileNamed_26 : decode cX7_fileNamed 26 = .ok (.istore_n 3, 1) := by decide +kernel
theorem dX7_fileNamed_27 : decode cX7_fileNamed 27 = .ok (.iload_n 3, 1) := by decide +kernel
theorem dX7_fileNamed_28 : decode cX7_fileNamed 28 = .ok (.bipush 8, 2) := by decide +kernel
theorem dX7_fileNamed_30 : decode cX7_fileNamed 30 = .ok (.if_icmp .ge 16, 3) := by decide +kernel
theorem dX7_fileNamed_33 : decode cX7_fileNamed 33 = .ok (.aload_n 0, 1) := by decide +kernel
theorem dX7_fileNamed_34 : decode cX7_fileNamed 34 = .ok (.getfield 10, 3) := by decide +kernel
theorem dX7_fileNamed_37 : decode cX7_fileNamed 37 = .ok (.iload_n 1, 1) := by decide +kernel
theorem dX7_fileNamed_38 : decode cX7_fileNamed 38 = .ok (.iload_n 3, 1) := by decide +kernel
theorem dX7_fileNamed_39 : decode cX7_fileNamed 39 = .ok (.iconst 1, 1) := by decide +kernel
theorem dX7_fileNamed_40 : decode cX7_fileNamed 40 = .ok (.invokevirtual 118, 3) := by decide +kernel
theorem dX7_fileNamed_43 : decode cX7_fileNamed 43 = .ok (.goto 4, 3) := by decide +kernel
theorem dX7_fileNamed_46 : decode cX7_fileNamed 46 = .ok (.iconst 0, 1) := by decide +kernel
theorem dX7_fileNamed_47 : decode cX7_fileNamed 47 = .ok (.ireturn, 1) := by decide +kernel
set_option maxRecDepth 20000 in
theorem ggX7_weightIfMended_X5_differFromMemory : GoodIn wsX7_weightIfMended wsX5_differFromMemory := goodIn_r _ [6, 7, 8, 23, 24] (by decide +kernel) (by decide +kernel)
set_option maxRecDepth 20000 in
theorem gX7_weightIfMended_X5_differFromMemory : GoodIn wsX7_weightIfMended (wsV RX7 137 RX5 yX5_differFromMemory wsX5_differFromMemory) := goodIn_app (goodIn_of _ (by decide +kernel)) ggX7_weightIfMended_X5_differFromMemory
set_option maxRecDepth 20000 in
theorem ggX7_weightIfMended_X5_remember : GoodIn wsX7_weightIfMended wsX5_remember := goodIn_r _ [12, 7, 8, 13, 14, 15, 16, 23, 24] (by decide +kernel) (by decide +kernel)
set_option maxRecDepth 20000 in
theorem gX7_weightIfMended_X5_remember : GoodIn wsX7_weightIfMended (wsV RX7 83 RX5 yX5_remember wsX5_remember) := goodIn_app (goodIn_of _ (by decide +kernel)) ggX7_weightIfMended_X5_remember
theorem dX7_weightIfMended_0 : decode cX7_weightIfMended 0 = .ok (.aload_n 0, 1) := by decide +kernel
theorem dX7_weightIfMended_1 : decode cX7_weightIfMended 1 = .ok (.getfield 10, 3) := by decide +kernel
theorem dX7_weightIfMended_4 : decode cX7_weightIfMended 4 = .ok (.invokevirtual 137, 3) := by decide +kernel
theorem dX7_weightIfMended_7 : decode cX7_weightIfMended 7 = .ok (.istore_n 2, 1) := by decide +kernel
theorem dX7_weightIfMended_8 : decode cX7_weightIfMended 8 = .ok (.aload_n 0, 1) := by decide +kernel
theorem dX7_weightIfMended_9 : decode cX7_weightIfMended 9 = .ok (.getfield 10, 3) := by decide +kernel
theorem dX7_weightIfMended_12 : decode cX7_weightIfMended 12 = .ok (.invokevirtual 83, 3) := by decide +kernel
theorem dX7_weightIfMended_15 : decode cX7_weightIfMended 15 = .ok (.iload_n 2, 1) := by decide +kernel
theorem dX7_weightIfMended_16 : decode cX7_weightIfMended 16 = .ok (.ifCond .eq 7, 3) := by decide +kernel
theorem dX7_weightIfMended_19 : decode cX7_weightIfMended 19 = .ok (.iload_n 1, 1) := by decide +kernel
theorem dX7_weightIfMended_20 : decode cX7_weightIfMended 20 = .ok (.goto 4, 3) := by decide +kernel
theorem dX7_weightIfMended_23 : decode cX7_weightIfMended 23 = .ok (.iconst 0, 1) := by decide +kernel
theorem dX7_weightIfMended_24 : decode cX7_weightIfMended 24 = .ok (.ireturn, 1) := by decide +kernel
theorem dX7_isFile_0 : decode cX7_isFile 0 = .ok (.iload_n 0, 1) := by decide +kernel
theorem dX7_isFile_1 : decode cX7_isFile 1 = .ok (.iconst 1, 1) := by decide +kernel
theorem dX7_isFile_2 : decode cX7_isFile 2 = .ok (.if_icmp .lt 13, 3) := by decide +kernel
theorem dX7_isFile_5 : decode cX7_isFile 5 = .ok (.iload_n 0, 1) := by decide +kernel
theorem dX7_isFile_6 : decode cX7_isFile 6 = .ok (.bipush 24, 2) := by decide +kernel
theorem dX7_isFile_8 : decode cX7_isFile 8 = .ok (.if_icmp .gt 7, 3) := by decide +kernel
theorem dX7_isFile_11 : decode cX7_isFile 11 = .ok (.iconst 1, 1) := by decide +kernel
theorem dX7_isFile_12 : decode cX7_isFile 12 = .ok (.goto 4, 3) := by decide +kernel
theorem dX7_isFile_15 : decode cX7_isFile 15 = .ok (.iconst 0, 1) := by decide +kernel
theorem dX7_isFile_16 : decode cX7_isFile 16 = .ok (.ireturn, 1) := by decide +kernel
theorem dX7_unmark_0 : decode cX7_unmark 0 = .ok (.iconst 0, 1) := by decide +kernel
theorem dX7_unmark_1 : decode cX7_unmark 1 = .ok (.istore_n 1, 1) := by decide +kernel
theorem dX7_unmark_2 : decode cX7_unmark 2 = .ok (.iload_n 1, 1) := by decide +kernel
theorem dX7_unmark_3 : decode cX7_unmark 3 = .ok (.aload_n 0, 1) := by decide +kernel
theorem dX7_unmark_4 : decode cX7_unmark 4 = .ok (.arraylength, 1) := by decide +kernel
theorem dX7_unmark_5 : decode cX7_unmark 5 = .ok (.if_icmp .ge 13, 3) := by decide +kernel
theorem dX7_unmark_8 : decode cX7_unmark 8 = .ok (.aload_n 0, 1) := by decide +kernel
theorem dX7_unmark_9 : decode cX7_unmark 9 = .ok (.iload_n 1, 1) := by decide +kernel
theorem dX7_unmark_10 : decode cX7_unmark 10 = .ok (.iconst 0, 1) := by decide +kernel
theorem dX7_unmark_11 : decode cX7_unmark 11 = .ok (.bastore, 1) := by decide +kernel
theorem dX7_unmark_12 : decode cX7_unmark 12 = .ok (.iinc 1 1, 3) := by decide +kernel
theorem dX7_unmark_15 : decode cX7_unmark 15 = .ok (.goto (-13), 3) := by decide +kernel
theorem dX7_unmark_18 : decode cX7_unmark 18 = .ok (.return_, 1) := by decide +kernel
set_option maxRecDepth 20000 in
theorem ggX7_needFile_X7_isFile : GoodIn wsX7_needFile wsX7_isFile := goodIn_r _ [6] (by decide +kernel) (by decide +kernel)
set_option maxRecDepth 20000 in
theorem gX7_needFile_X7_isFile : GoodIn wsX7_needFile (va_wsS RX7 130 yX7_isFile wsX7_isFile) := goodIn_app (goodIn_of _ (by decide +kernel)) ggX7_needFile_X7_isFile
theorem dX7_needFile_0 : decode cX7_needFile 0 = .ok (.iload_n 0, 1) := by decide +kernel
theorem dX7_needFile_1 : decode cX7_needFile 1 = .ok (.invokestatic 130, 3) := by decide +kernel
theorem dX7_needFile_4 : decode cX7_needFile 4 = .ok (.ifCond .ne 13, 3) := by decide +kernel
theorem dX7_needFile_7 : decode cX7_needFile 7 = .ok (.new 141, 3) := by decide +kernel
theorem dX7_needFile_10 : decode cX7_needFile 10 = .ok (.dup, 1) := by decide +kernel
theorem dX7_needFile_11 : decode cX7_needFile 11 = .ok (.ldc 143, 2) := by decide +kernel
theorem dX7_needFile_13 : decode cX7_needFile 13 = .ok (.invokespecial 145, 3) := by decide +kernel
theorem dX7_needFile_16 : decode cX7_needFile 16 = .ok (.athrow, 1) := by decide +kernel
theorem dX7_needFile_17 : decode cX7_needFile 17 = .ok (.return_, 1) := by decide +kernel
theorem dX7_needPlace_0 : decode cX7_needPlace 0 = .ok (.iload_n 0, 1) := by decide +kernel
theorem dX7_needPlace_1 : decode cX7_needPlace 1 = .ok (.ifCond .lt 8, 3) := by decide +kernel
theorem dX7_needPlace_4 : decode cX7_needPlace 4 = .ok (.iload_n 0, 1) := by decide +kernel
theorem dX7_needPlace_5 : decode cX7_needPlace 5 = .ok (.iload_n 1, 1) := by decide +kernel
theorem dX7_needPlace_6 : decode cX7_needPlace 6 = .ok (.if_icmp .lt 13, 3) := by decide +kernel
theorem dX7_needPlace_9 : decode cX7_needPlace 9 = .ok (.new 141, 3) := by decide +kernel
theorem dX7_needPlace_12 : decode cX7_needPlace 12 = .ok (.dup, 1) := by decide +kernel
theorem dX7_needPlace_13 : decode cX7_needPlace 13 = .ok (.ldc 148, 2) := by decide +kernel
theorem dX7_needPlace_15 : decode cX7_needPlace 15 = .ok (.invokespecial 145, 3) := by decide +kernel
theorem dX7_needPlace_18 : decode cX7_needPlace 18 = .ok (.athrow, 1) := by decide +kernel
theorem dX7_needPlace_19 : decode cX7_needPlace 19 = .ok (.return_, 1) := by decide +kernel
set_option maxRecDepth 20000 in
theorem ggX7_needBit_X7_isFile : GoodIn wsX7_needBit wsX7_isFile := goodIn_r _ [6] (by decide +kernel) (by decide +kernel)
set_option maxRecDepth 20000 in
theorem gX7_needBit_X7_isFile : GoodIn wsX7_needBit (va_wsS RX7 130 yX7_isFile wsX7_isFile) := goodIn_app (goodIn_of _ (by decide +kernel)) ggX7_needBit_X7_isFile
theorem dX7_needBit_0 : decode cX7_needBit 0 = .ok (.iload_n 0, 1) := by decide +kernel
theorem dX7_needBit_1 : decode cX7_needBit 1 = .ok (.ifCond .ne 19, 3) := by decide +kernel
theorem dX7_needBit_4 : decode cX7_needBit 4 = .ok (.iload_n 1, 1) := by decide +kernel
theorem dX7_needBit_5 : decode cX7_needBit 5 = .ok (.iconst 1, 1) := by decide +kernel
theorem dX7_needBit_6 : decode cX7_needBit 6 = .ok (.if_icmp .lt 14, 3) := by decide +kernel
theorem dX7_needBit_9 : decode cX7_needBit 9 = .ok (.iload_n 1, 1) := by decide +kernel
theorem dX7_needBit_10 : decode cX7_needBit 10 = .ok (.sipush 200, 3) := by decide +kernel
theorem dX7_needBit_13 : decode cX7_needBit 13 = .ok (.if_icmp .gt 7, 3) := by decide +kernel
theorem dX7_needBit_16 : decode cX7_needBit 16 = .ok (.iconst 1, 1) := by decide +kernel
theorem dX7_needBit_17 : decode cX7_needBit 17 = .ok (.goto 4, 3) := by decide +kernel
theorem dX7_needBit_20 : decode cX7_needBit 20 = .ok (.iconst 0, 1) := by decide +kernel
theorem dX7_needBit_21 : decode cX7_needBit 21 = .ok (.istore_n 2, 1) := by decide +kernel
theorem dX7_needBit_22 : decode cX7_needBit 22 = .ok (.iload_n 0, 1) := by decide +kernel
theorem dX7_needBit_23 : decode cX7_needBit 23 = .ok (.iconst 1, 1) := by decide +kernel
theorem dX7_needBit_24 : decode cX7_needBit 24 = .ok (.if_icmp .ne 14, 3) := by decide +kernel
theorem dX7_needBit_27 : decode cX7_needBit 27 = .ok (.iload_n 1, 1) := by decide +kernel
theorem dX7_needBit_28 : decode cX7_needBit 28 = .ok (.invokestatic 130, 3) := by decide +kernel
theorem dX7_needBit_31 : decode cX7_needBit 31 = .ok (.ifCond .eq 7, 3) := by decide +kernel
theorem dX7_needBit_34 : decode cX7_needBit 34 = .ok (.iconst 1, 1) := by decide +kernel
theorem dX7_needBit_35 : decode cX7_needBit 35 = .ok (.goto 4, 3) := by decide +kernel
theorem dX7_needBit_38 : decode cX7_needBit 38 = .ok (.iconst 0, 1) := by decide +kernel
theorem dX7_needBit_39 : decode cX7_needBit 39 = .ok (.istore_n 3, 1) := by decide +kernel
theorem dX7_needBit_40 : decode cX7_needBit 40 = .ok (.iload_n 2, 1) := by decide +kernel
theorem dX7_needBit_41 : decode cX7_needBit 41 = .ok (.ifCond .ne 17, 3) := by decide +kernel
theorem dX7_needBit_44 : decode cX7_needBit 44 = .ok (.iload_n 3, 1) := by decide +kernel
theorem dX7_needBit_45 : decode cX7_needBit 45 = .ok (.ifCond .ne 13, 3) := by decide +kernel
theorem dX7_needBit_48 : decode cX7_needBit 48 = .ok (.new 141, 3) := by decide +kernel
theorem dX7_needBit_51 : decode cX7_needBit 51 = .ok (.dup, 1) := by decide +kernel
theorem dX7_needBit_52 : decode cX7_needBit 52 = .ok (.ldc 150, 2) := by decide +kernel
theorem dX7_needBit_54 : decode cX7_needBit 54 = .ok (.invokespecial 145, 3) := by decide +kernel
theorem dX7_needBit_57 : decode cX7_needBit 57 = .ok (.athrow, 1) := by decide +kernel
theorem dX7_needBit_58 : decode cX7_needBit 58 = .ok (.return_, 1) := by decide +kernel
set_option maxRecDepth 20000 in
theorem ggX8_init_X8_makeWhole : GoodIn wsX8_init wsX8_makeWhole := goodIn_r _ [18, 5, 8, 19, 20, 21, 22, 23, 24, 25, 26, 27, 28] (by decide +kernel) (by decide +kernel)
set_option maxRecDepth 20000 in
theorem gX8_init_X8_makeWhole : GoodIn wsX8_init (wsV RX8 35 RX8 yX8_makeWhole wsX8_makeWhole) := goodIn_app (goodIn_of _ (by decide +kernel)) ggX8_init_X8_makeWhole
theorem dX8_init_0 : decode cX8_init 0 = .ok (.aload_n 0, 1) := by decide +kernel
theorem dX8_init_1 : decode cX8_init 1 = .ok (.invokespecial 1, 3) := by decide +kernel
theorem dX8_init_4 : decode cX8_init 4 = .ok (.aload_n 0, 1) := by decide +kernel
theorem dX8_init_5 : decode cX8_init 5 = .ok (.sipush 1429, 3) := by decide +kernel
theorem dX8_init_8 : decode cX8_init 8 = .ok (.newarray .int, 2) := by decide +kernel
theorem dX8_init_10 : decode cX8_init 10 = .ok (.putfield 7, 3) := by decide +kernel
theorem dX8_init_13 : decode cX8_init 13 = .ok (.aload_n 0, 1) := by decide +kernel
theorem dX8_init_14 : decode cX8_init 14 = .ok (.sipush 1429, 3) := by decide +kernel
theorem dX8_init_17 : decode cX8_init 17 = .ok (.newarray .int, 2) := by decide +kernel
theorem dX8_init_19 : decode cX8_init 19 = .ok (.putfield 13, 3) := by decide +kernel
theorem dX8_init_22 : decode cX8_init 22 = .ok (.aload_n 0, 1) := by decide +kernel
theorem dX8_init_23 : decode cX8_init 23 = .ok (.bipush 25, 2) := by decide +kernel
theorem dX8_init_25 : decode cX8_init 25 = .ok (.newarray .boolean, 2) := by decide +kernel
theorem dX8_init_27 : decode cX8_init 27 = .ok (.putfield 16, 3) := by decide +kernel
theorem dX8_init_30 : decode cX8_init 30 = .ok (.aload_n 0, 1) := by decide +kernel
theorem dX8_init_31 : decode cX8_init 31 = .ok (.sipush 201, 3) := by decide +kernel
theorem dX8_init_34 : decode cX8_init 34 = .ok (.newarray .int, 2) := by decide +kernel
theorem dX8_init_36 : decode cX8_init 36 = .ok (.putfield 20, 3) := by decide +kernel
theorem dX8_init_39 : decode cX8_init 39 = .ok (.aload_n 0, 1) := by decide +kernel
theorem dX8_init_40 : decode cX8_init 40 = .ok (.bipush 25, 2) := by decide +kernel
theorem dX8_init_42 : decode cX8_init 42 = .ok (.newarray .boolean, 2) := by decide +kernel
theorem dX8_init_44 : decode cX8_init 44 = .ok (.putfield 23, 3) := by decide +kernel
theorem dX8_init_47 : decode cX8_init 47 = .ok (.aload_n 0, 1) := by decide +kernel
theorem dX8_init_48 : decode cX8_init 48 = .ok (.bipush 25, 2) := by decide +kernel
theorem dX8_init_50 : decode cX8_init 50 = .ok (.newarray .boolean, 2) := by decide +kernel
theorem dX8_init_52 : decode cX8_init 52 = .ok (.putfield 26, 3) := by decide +kernel
theorem dX8_init_55 : decode cX8_init 55 = .ok (.aload_n 0, 1) := by decide +kernel
theorem dX8_init_56 : decode cX8_init 56 = .ok (.bipush 24, 2) := by decide +kernel
theorem dX8_init_58 : decode cX8_init 58 = .ok (.newarray .int, 2) := by decide +kernel
theorem dX8_init_60 : decode cX8_init 60 = .ok (.putfield 29, 3) := by decide +kernel
theorem dX8_init_63 : decode cX8_init 63 = .ok (.aload_n 0, 1) := by decide +kernel
theorem dX8_init_64 : decode cX8_init 64 = .ok (.bipush 25, 2) := by decide +kernel
theorem dX8_init_66 : decode cX8_init 66 = .ok (.newarray .boolean, 2) := by decide +kernel
theorem dX8_init_68 : decode cX8_init 68 = .ok (.putfield 32, 3) := by decide +kernel
theorem dX8_init_71 : decode cX8_init 71 = .ok (.aload_n 0, 1) := by decide +kernel
theorem dX8_init_72 : decode cX8_init 72 = .ok (.invokevirtual 35, 3) := by decide +kernel
theorem dX8_init_75 : decode cX8_init 75 = .ok (.return_, 1) := by decide +kernel
theorem dX8_thrown_0 : decode cX8_thrown 0 = .ok (.aload_n 0, 1) := by decide +kernel
theorem dX8_thrown_1 : decode cX8_thrown 1 = .ok (.getfield 38, 3) := by decide +kernel
theorem dX8_thrown_4 : decode cX8_thrown 4 = .ok (.ireturn, 1) := by decide +kernel
theorem dX8_makeWhole_0 : decode cX8_makeWhole 0 = .ok (.iconst 0, 1) := by decide +kernel
theorem dX8_makeWhole_1 : decode cX8_makeWhole 1 = .ok (.istore_n 1, 1) := by decide +kernel
theorem dX8_makeWhole_2 : decode cX8_makeWhole 2 = .ok (.iload_n 1, 1) := by decide +kernel
theorem dX8_makeWhole_3 : decode cX8_makeWhole 3 = .ok (.sipush 1429, 3) := by decide +kernel
theorem dX8_makeWhole_6 : decode cX8_makeWhole 6 = .ok (.if_icmp .ge 16, 3) := by decide +kernel
theorem dX8_makeWhole_9 : decode cX8_makeWhole 9 = .ok (.aload_n 0, 1) := by decide +kernel
theorem dX8_makeWhole_10 : decode cX8_makeWhole 10 = .ok (.getfield 7, 3) := by decide +kernel
theorem dX8_makeWhole_13 : decode cX8_makeWhole 13 = .ok (.iload_n 1, 1) := by decide +kernel
theorem dX8_makeWhole_14 : decode cX8_makeWhole 14 = .ok (.iconst 0, 1) := by decide +kernel
theorem dX8_makeWhole_15 : decode cX8_makeWhole 15 = .ok (.iastore, 1) := by decide +kernel
theorem dX8_makeWhole_16 : decode cX8_makeWhole 16 = .ok (.iinc 1 1, 3) := by decide +kernel
theorem dX8_makeWhole_19 : decode cX8_makeWhole 19 = .ok (.goto (-17), 3) := by decide +kernel
theorem dX8_makeWhole_22 : decode cX8_makeWhole 22 = .ok (.iconst 0, 1) := by decide +kernel
theorem dX8_makeWhole_23 : decode cX8_makeWhole 23 = .ok (.istore_n 1, 1) := by decide +kernel
theorem dX8_makeWhole_24 : decode cX8_makeWhole 24 = .ok (.iload_n 1, 1) := by decide +kernel
theorem dX8_makeWhole_25 : decode cX8_makeWhole 25 = .ok (.bipush 24, 2) := by decide +kernel
theorem dX8_makeWhole_27 : decode cX8_makeWhole 27 = .ok (.if_icmp .gt 16, 3) := by decide +kernel
theorem dX8_makeWhole_30 : decode cX8_makeWhole 30 = .ok (.aload_n 0, 1) := by decide +kernel
theorem dX8_makeWhole_31 : decode cX8_makeWhole 31 = .ok (.getfield 16, 3) := by decide +kernel
theorem dX8_makeWhole_34 : decode cX8_makeWhole 34 = .ok (.iload_n 1, 1) := by decide +kernel
theorem dX8_makeWhole_35 : decode cX8_makeWhole 35 = .ok (.iconst 0, 1) := by decide +kernel
theorem dX8_makeWhole_36 : decode cX8_makeWhole 36 = .ok (.bastore, 1) := by decide +kernel
theorem dX8_makeWhole_37 : decode cX8_makeWhole 37 = .ok (.iinc 1 1, 3) := by decide +kernel
theorem dX8_makeWhole_40 : decode cX8_makeWhole 40 = .ok (.goto (-16), 3) := by decide +kernel
theorem dX8_makeWhole_43 : decode cX8_makeWhole 43 = .ok (.aload_n 0, 1) := by decide +kernel
theorem dX8_makeWhole_44 : decode cX8_makeWhole 44 = .ok (.getfield 7, 3) := by decide +kernel
theorem dX8_makeWhole_47 : decode cX8_makeWhole 47 = .ok (.bipush 47, 2) := by decide +kernel
theorem dX8_makeWhole_49 : decode cX8_makeWhole 49 = .ok (.iconst 2, 1) := by decide +kernel
theorem dX8_makeWhole_50 : decode cX8_makeWhole 50 = .ok (.iastore, 1) := by decide +kernel
theorem dX8_makeWhole_51 : decode cX8_makeWhole 51 = .ok (.aload_n 0, 1) := by decide +kernel
theorem dX8_makeWhole_52 : decode cX8_makeWhole 52 = .ok (.getfield 7, 3) := by decide +kernel
theorem dX8_makeWhole_55 : decode cX8_makeWhole 55 = .ok (.bipush 49, 2) := by decide +kernel
theorem dX8_makeWhole_57 : decode cX8_makeWhole 57 = .ok (.iconst 2, 1) := by decide +kernel
theorem dX8_makeWhole_58 : decode cX8_makeWhole 58 = .ok (.iastore, 1) := by decide +kernel
theorem dX8_makeWhole_59 : decode cX8_makeWhole 59 = .ok (.aload_n 0, 1) := by decide +kernel
theorem dX8_makeWhole_60 : decode cX8_makeWhole 60 = .ok (.getfield 7, 3) := by decide +kernel
theorem dX8_makeWhole_63 : decode cX8_makeWhole 63 = .ok (.bipush 51, 2) := by decide +kernel
theorem dX8_makeWhole_65 : decode cX8_makeWhole 65 = .ok (.iconst 1, 1) := by decide +kernel
theorem dX8_makeWhole_66 : decode cX8_makeWhole 66 = .ok (.iastore, 1) := by decide +kernel
theorem dX8_makeWhole_67 : decode cX8_makeWhole 67 = .ok (.iconst 1, 1) := by decide +kernel
theorem dX8_makeWhole_68 : decode cX8_makeWhole 68 = .ok (.istore_n 1, 1) := by decide +kernel
theorem dX8_makeWhole_69 : decode cX8_makeWhole 69 = .ok (.iload_n 1, 1) := by decide +kernel
theorem dX8_makeWhole_70 : decode cX8_makeWhole 70 = .ok (.bipush 8, 2) := by decide +kernel
theorem dX8_makeWhole_72 : decode cX8_makeWhole 72 = .ok (.if_icmp .gt 20, 3) := by decide +kernel
theorem dX8_makeWhole_75 : decode cX8_makeWhole 75 = .ok (.aload_n 0, 1) := by decide +kernel
theorem dX8_makeWhole_76 : decode cX8_makeWhole 76 = .ok (.getfield 7, 3) := by decide +kernel
theorem dX8_makeWhole_79 : decode cX8_makeWhole 79 = .ok (.sipush 1200, 3) := by decide +kernel
theorem dX8_makeWhole_82 : decode cX8_makeWhole 82 = .ok (.iload_n 1, 1) := by decide +kernel
theorem dX8_makeWhole_83 : decode cX8_makeWhole 83 = .ok (.iadd, 1) := by decide +kernel
theorem dX8_makeWhole_84 : decode cX8_makeWhole 84 = .ok (.iconst 1, 1) := by decide +kernel
theorem dX8_makeWhole_85 : decode cX8_makeWhole 85 = .ok (.iastore, 1) := by decide +kernel
theorem dX8_makeWhole_86 : decode cX8_makeWhole 86 = .ok (.iinc 1 1, 3) := by decide +kernel
theorem dX8_makeWhole_89 : decode cX8_makeWhole 89 = .ok (.goto (-20), 3) := by decide +kernel
theorem dX8_makeWhole_92 : decode cX8_makeWhole 92 = .ok (.aload_n 0, 1) := by decide +kernel
theorem dX8_makeWhole_93 : decode cX8_makeWhole 93 = .ok (.getfield 7, 3) := by decide +kernel
theorem dX8_makeWhole_96 : decode cX8_makeWhole 96 = .ok (.sipush 1402, 3) := by decide +kernel
theorem dX8_makeWhole_99 : decode cX8_makeWhole 99 = .ok (.iconst 1, 1) := by decide +kernel
theorem dX8_makeWhole_100 : decode cX8_makeWhole 100 = .ok (.iastore, 1) := by decide +kernel
theorem dX8_makeWhole_101 : decode cX8_makeWhole 101 = .ok (.aload_n 0, 1) := by decide +kernel
theorem dX8_makeWhole_102 : decode cX8_makeWhole 102 = .ok (.getfield 7, 3) := by decide +kernel
theorem dX8_makeWhole_105 : decode cX8_makeWhole 105 = .ok (.sipush 1426, 3) := by decide +kernel
theorem dX8_makeWhole_108 : decode cX8_makeWhole 108 = .ok (.sipush 192, 3) := by decide +kernel
theorem dX8_makeWhole_111 : decode cX8_makeWhole 111 = .ok (.iastore, 1) := by decide +kernel
theorem dX8_makeWhole_112 : decode cX8_makeWhole 112 = .ok (.aload_n 0, 1) := by decide +kernel
theorem dX8_makeWhole_113 : decode cX8_makeWhole 113 = .ok (.getfield 7, 3) := by decide +kernel
theorem dX8_makeWhole_116 : decode cX8_makeWhole 116 = .ok (.sipush 1427, 3) := by decide +kernel
theorem dX8_makeWhole_119 : decode cX8_makeWhole 119 = .ok (.bipush 23, 2) := by decide +kernel
theorem dX8_makeWhole_121 : decode cX8_makeWhole 121 = .ok (.iastore, 1) := by decide +kernel
theorem dX8_makeWhole_122 : decode cX8_makeWhole 122 = .ok (.return_, 1) := by decide +kernel
set_option maxRecDepth 20000 in
theorem ggX8_clear_X8_makeWhole : GoodIn wsX8_clear wsX8_makeWhole := goodIn_r _ [6, 7, 8, 9, 10, 11, 12, 13, 14, 15, 16, 17, 18] (by decide +kernel) (by decide +kernel)
set_option maxRecDepth 20000 in
theorem gX8_clear_X8_makeWhole : GoodIn wsX8_clear (wsV RX8 35 RX8 yX8_makeWhole wsX8_makeWhole) := goodIn_app (goodIn_of _ (by decide +kernel)) ggX8_clear_X8_makeWhole
theorem dX8_clear_0 : decode cX8_clear 0 = .ok (.aload_n 0, 1) := by decide +kernel
theorem dX8_clear_1 : decode cX8_clear 1 = .ok (.iconst 0, 1) := by decide +kernel
theorem dX8_clear_2 : decode cX8_clear 2 = .ok (.putfield 38, 3) := by decide +kernel
theorem dX8_clear_5 : decode cX8_clear 5 = .ok (.aload_n 0, 1) := by decide +kernel
theorem dX8_clear_6 : decode cX8_clear 6 = .ok (.invokevirtual 35, 3) := by decide +kernel
theorem dX8_clear_9 : decode cX8_clear 9 = .ok (.return_, 1) := by decide +kernel
theorem dX8_isIn_0 : decode cX8_isIn 0 = .ok (.iload_n 0, 1) := by decide +kernel
theorem dX8_isIn_1 : decode cX8_isIn 1 = .ok (.iload_n 1, 1) := by decide +kernel
theorem dX8_isIn_2 : decode cX8_isIn 2 = .ok (.if_icmp .lt 12, 3) := by decide +kernel
theorem dX8_isIn_5 : decode cX8_isIn 5 = .ok (.iload_n 0, 1) := by decide +kernel
theorem dX8_isIn_6 : decode cX8_isIn 6 = .ok (.iload_n 2, 1) := by decide +kernel
theorem dX8_isIn_7 : decode cX8_isIn 7 = .ok (.if_icmp .gt 7, 3) := by decide +kernel
theorem dX8_isIn_10 : decode cX8_isIn 10 = .ok (.iconst 1, 1) := by decide +kernel
theorem dX8_isIn_11 : decode cX8_isIn 11 = .ok (.goto 4, 3) := by decide +kernel
theorem dX8_isIn_14 : decode cX8_isIn 14 = .ok (.iconst 0, 1) := by decide +kernel
theorem dX8_isIn_15 : decode cX8_isIn 15 = .ok (.ireturn, 1) := by decide +kernel
theorem dX8_may_0 : decode cX8_may 0 = .ok (.aload_n 0, 1) := by decide +kernel
theorem dX8_may_1 : decode cX8_may 1 = .ok (.iload_n 1, 1) := by decide +kernel
theorem dX8_may_2 : decode cX8_may 2 = .ok (.ifCond .eq 7, 3) := by decide +kernel
theorem dX8_may_5 : decode cX8_may 5 = .ok (.iconst 0, 1) := by decide +kernel
theorem dX8_may_6 : decode cX8_may 6 = .ok (.goto 4, 3) := by decide +kernel
theorem dX8_may_9 : decode cX8_may 9 = .ok (.iconst 1, 1) := by decide +kernel
theorem dX8_may_10 : decode cX8_may 10 = .ok (.putfield 38, 3) := by decide +kernel
theorem dX8_may_13 : decode cX8_may 13 = .ok (.iload_n 1, 1) := by decide +kernel
theorem dX8_may_14 : decode cX8_may 14 = .ok (.ireturn, 1) := by decide +kernel
theorem dX8_runAt_0 : decode cX8_runAt 0 = .ok (.bipush 47, 2) := by decide +kernel
theorem dX8_runAt_2 : decode cX8_runAt 2 = .ok (.iload_n 0, 1) := by decide +kernel
theorem dX8_runAt_3 : decode cX8_runAt 3 = .ok (.imul, 1) := by decide +kernel
theorem dX8_runAt_4 : decode cX8_runAt 4 = .ok (.iconst 5, 1) := by decide +kernel
theorem dX8_runAt_5 : decode cX8_runAt 5 = .ok (.iadd, 1) := by decide +kernel
theorem dX8_runAt_6 : decode cX8_runAt 6 = .ok (.iconst 3, 1) := by decide +kernel
theorem dX8_runAt_7 : decode cX8_runAt 7 = .ok (.iload_n 1, 1) := by decide +kernel
theorem dX8_runAt_8 : decode cX8_runAt 8 = .ok (.imul, 1) := by decide +kernel
theorem dX8_runAt_9 : decode cX8_runAt 9 = .ok (.iadd, 1) := by decide +kernel
theorem dX8_runAt_10 : decode cX8_runAt 10 = .ok (.ireturn, 1) := by decide +kernel
theorem dX8_entryAt_0 : decode cX8_entryAt 0 = .ok (.bipush 47, 2) := by decide +kernel
theorem dX8_entryAt_2 : decode cX8_entryAt 2 = .ok (.iload_n 0, 1) := by decide +kernel
theorem dX8_entryAt_3 : decode cX8_entryAt 3 = .ok (.imul, 1) := by decide +kernel
theorem dX8_entryAt_4 : decode cX8_entryAt 4 = .ok (.bipush 23, 2) := by decide +kernel
theorem dX8_entryAt_6 : decode cX8_entryAt 6 = .ok (.iadd, 1) := by decide +kernel
theorem dX8_entryAt_7 : decode cX8_entryAt 7 = .ok (.iconst 3, 1) := by decide +kernel
theorem dX8_entryAt_8 : decode cX8_entryAt 8 = .ok (.iload_n 1, 1) := by decide +kernel
theorem dX8_entryAt_9 : decode cX8_entryAt 9 = .ok (.imul, 1) := by decide +kernel
theorem dX8_entryAt_10 : decode cX8_entryAt 10 = .ok (.iadd, 1) := by decide +kernel
theorem dX8_entryAt_11 : decode cX8_entryAt 11 = .ok (.ireturn, 1) := by decide +kernel
set_option maxRecDepth 20000 in
theorem ggX8_set_X8_isIn : GoodIn wsX8_set wsX8_isIn := goodIn_r _ [5] (by decide +kernel) (by decide +kernel)
set_option maxRecDepth 20000 in
theorem gX8_set_X8_isIn : GoodIn wsX8_set (va_wsS RX8 42 yX8_isIn wsX8_isIn) := goodIn_app (goodIn_of _ (by decide +kernel)) ggX8_set_X8_isIn
set_option maxRecDepth 20000 in
theorem ggX8_set_X8_may : GoodIn wsX8_set wsX8_may := goodIn_r _ [9, 10, 11, 12, 13, 14, 15, 16, 17, 18, 19, 20] (by decide +kernel) (by decide +kernel)
set_option maxRecDepth 20000 in
theorem gX8_set_X8_may : GoodIn wsX8_set (wsV RX8 46 RX8 yX8_may wsX8_may) := goodIn_app (goodIn_of _ (by decide +kernel)) ggX8_set_X8_may
theorem dX8_set_0 : decode cX8_set 0 = .ok (.aload_n 0, 1) := by decide +kernel
theorem dX8_set_1 : decode cX8_set 1 = .ok (.iload_n 1, 1) := by decide +kernel
theorem dX8_set_2 : decode cX8_set 2 = .ok (.iconst 1, 1) := by decide +kernel
theorem dX8_set_3 : decode cX8_set 3 = .ok (.bipush 24, 2) := by decide +kernel
theorem dX8_set_5 : decode cX8_set 5 = .ok (.invokestatic 42, 3) := by decide +kernel
theorem dX8_set_8 : decode cX8_set 8 = .ok (.ifCond .eq 16, 3) := by decide +kernel
theorem dX8_set_11 : decode cX8_set 11 = .ok (.iload_n 2, 1) := by decide +kernel
theorem dX8_set_12 : decode cX8_set 12 = .ok (.iconst 0, 1) := by decide +kernel
theorem dX8_set_13 : decode cX8_set 13 = .ok (.iconst 4, 1) := by decide +kernel
theorem dX8_set_14 : decode cX8_set 14 = .ok (.invokestatic 42, 3) := by decide +kernel
theorem dX8_set_17 : decode cX8_set 17 = .ok (.ifCond .eq 7, 3) := by decide +kernel
theorem dX8_set_20 : decode cX8_set 20 = .ok (.iconst 1, 1) := by decide +kernel
theorem dX8_set_21 : decode cX8_set 21 = .ok (.goto 4, 3) := by decide +kernel
theorem dX8_set_24 : decode cX8_set 24 = .ok (.iconst 0, 1) := by decide +kernel
theorem dX8_set_25 : decode cX8_set 25 = .ok (.invokevirtual 46, 3) := by decide +kernel
theorem dX8_set_28 : decode cX8_set 28 = .ok (.ifCond .eq 15, 3) := by decide +kernel
theorem dX8_set_31 : decode cX8_set 31 = .ok (.aload_n 0, 1) := by decide +kernel
theorem dX8_set_32 : decode cX8_set 32 = .ok (.getfield 7, 3) := by decide +kernel
theorem dX8_set_35 : decode cX8_set 35 = .ok (.bipush 47, 2) := by decide +kernel
theorem dX8_set_37 : decode cX8_set 37 = .ok (.iload_n 1, 1) := by decide +kernel
theorem dX8_set_38 : decode cX8_set 38 = .ok (.imul, 1) := by decide +kernel
theorem dX8_set_39 : decode cX8_set 39 = .ok (.iload_n 2, 1) := by decide +kernel
theorem dX8_set_40 : decode cX8_set 40 = .ok (.iadd, 1) := by decide +kernel
theorem dX8_set_41 : decode cX8_set 41 = .ok (.iload_n 3, 1) := by decide +kernel
theorem dX8_set_42 : decode cX8_set 42 = .ok (.iastore, 1) := by decide +kernel
theorem dX8_set_43 : decode cX8_set 43 = .ok (.return_, 1) := by decide +kernel
theorem dX8_put_0 : decode cX8_put 0 = .ok (.aload_n 0, 1) := by decide +kernel
theorem dX8_put_1 : decode cX8_put 1 = .ok (.getfield 7, 3) := by decide +kernel
theorem dX8_put_4 : decode cX8_put 4 = .ok (.iload_n 1, 1) := by decide +kernel
theorem dX8_put_5 : decode cX8_put 5 = .ok (.iload_n 2, 1) := by decide +kernel
theorem dX8_put_6 : decode cX8_put 6 = .ok (.iastore, 1) := by decide +kernel
theorem dX8_put_7 : decode cX8_put 7 = .ok (.aload_n 0, 1) := by decide +kernel
theorem dX8_put_8 : decode cX8_put 8 = .ok (.getfield 7, 3) := by decide +kernel
theorem dX8_put_11 : decode cX8_put 11 = .ok (.iload_n 1, 1) := by decide +kernel
theorem dX8_put_12 : decode cX8_put 12 = .ok (.iconst 1, 1) := by decide +kernel
theorem dX8_put_13 : decode cX8_put 13 = .ok (.iadd, 1) := by decide +kernel
theorem dX8_put_14 : decode cX8_put 14 = .ok (.iload_n 3, 1) := by decide +kernel
theorem dX8_put_15 : decode cX8_put 15 = .ok (.iastore, 1) := by decide +kernel
theorem dX8_put_16 : decode cX8_put 16 = .ok (.aload_n 0, 1) := by decide +kernel
theorem dX8_put_17 : decode cX8_put 17 = .ok (.getfield 7, 3) := by decide +kernel
theorem dX8_put_20 : decode cX8_put 20 = .ok (.iload_n 1, 1) := by decide +kernel
theorem dX8_put_21 : decode cX8_put 21 = .ok (.iconst 2, 1) := by decide +kernel
theorem dX8_put_22 : decode cX8_put 22 = .ok (.iadd, 1) := by decide +kernel
theorem dX8_put_23 : decode cX8_put 23 = .ok (.iload 4, 2) := by decide +kernel
theorem dX8_put_25 : decode cX8_put 25 = .ok (.iastore, 1) := by decide +kernel
theorem dX8_put_26 : decode cX8_put 26 = .ok (.return_, 1) := by decide +kernel
set_option maxRecDepth 20000 in
theorem ggX8_run_X8_isIn : GoodIn wsX8_run wsX8_isIn := goodIn_r _ [4] (by decide +kernel) (by decide +kernel)
set_option maxRecDepth 20000 in
theorem gX8_run_X8_isIn : GoodIn wsX8_run (va_wsS RX8 42 yX8_isIn wsX8_isIn) := goodIn_app (goodIn_of _ (by decide +kernel)) ggX8_run_X8_isIn
set_option maxRecDepth 20000 in
theorem ggX8_run_X8_may : GoodIn wsX8_run wsX8_may := goodIn_r _ [8, 9, 18, 19, 20, 21, 22, 23, 24, 25, 26, 27] (by decide +kernel) (by decide +kernel)
set_option maxRecDepth 20000 in
theorem gX8_run_X8_may : GoodIn wsX8_run (wsV RX8 46 RX8 yX8_may wsX8_may) := goodIn_app (goodIn_of _ (by decide +kernel)) ggX8_run_X8_may
set_option maxRecDepth 20000 in
theorem ggX8_run_X8_runAt : GoodIn wsX8_run wsX8_runAt := goodIn_r _ [12] (by decide +kernel) (by decide +kernel)
set_option maxRecDepth 20000 in
theorem gX8_run_X8_runAt : GoodIn wsX8_run (va_wsS RX8 50 yX8_runAt wsX8_runAt) := goodIn_app (goodIn_of _ (by decide +kernel)) ggX8_run_X8_runAt
set_option maxRecDepth 20000 in
theorem ggX8_run_X8_put : GoodIn wsX8_run wsX8_put := goodIn_r _ [16, 17, 18, 19, 20, 21, 22, 23, 24, 25, 26, 27] (by decide +kernel) (by decide +kernel)
set_option maxRecDepth 20000 in
theorem gX8_run_X8_put : GoodIn wsX8_run (wsV RX8 54 RX8 yX8_put wsX8_put) := goodIn_app (goodIn_of _ (by decide +kernel)) ggX8_run_X8_put
theorem dX8_run_0 : decode cX8_run 0 = .ok (.aload_n 0, 1) := by decide +kernel
theorem dX8_run_1 : decode cX8_run 1 = .ok (.iload_n 1, 1) := by decide +kernel
theorem dX8_run_2 : decode cX8_run 2 = .ok (.iconst 1, 1) := by decide +kernel
theorem dX8_run_3 : decode cX8_run 3 = .ok (.bipush 24, 2) := by decide +kernel
theorem dX8_run_5 : decode cX8_run 5 = .ok (.invokestatic 42, 3) := by decide +kernel
theorem dX8_run_8 : decode cX8_run 8 = .ok (.ifCond .eq 16, 3) := by decide +kernel
theorem dX8_run_11 : decode cX8_run 11 = .ok (.iload_n 2, 1) := by decide +kernel
theorem dX8_run_12 : decode cX8_run 12 = .ok (.iconst 0, 1) := by decide +kernel
theorem dX8_run_13 : decode cX8_run 13 = .ok (.iconst 5, 1) := by decide +kernel
theorem dX8_run_14 : decode cX8_run 14 = .ok (.invokestatic 42, 3) := by decide +kernel
theorem dX8_run_17 : decode cX8_run 17 = .ok (.ifCond .eq 7, 3) := by decide +kernel
theorem dX8_run_20 : decode cX8_run 20 = .ok (.iconst 1, 1) := by decide +kernel
theorem dX8_run_21 : decode cX8_run 21 = .ok (.goto 4, 3) := by decide +kernel
theorem dX8_run_24 : decode cX8_run 24 = .ok (.iconst 0, 1) := by decide +kernel
theorem dX8_run_25 : decode cX8_run 25 = .ok (.invokevirtual 46, 3) := by decide +kernel
theorem dX8_run_28 : decode cX8_run 28 = .ok (.ifCond .eq 17, 3) := by decide +kernel
theorem dX8_run_31 : decode cX8_run 31 = .ok (.aload_n 0, 1) := by decide +kernel
theorem dX8_run_32 : decode cX8_run 32 = .ok (.iload_n 1, 1) := by decide +kernel
theorem dX8_run_33 : decode cX8_run 33 = .ok (.iload_n 2, 1) := by decide +kernel
theorem dX8_run_34 : decode cX8_run 34 = .ok (.invokestatic 50, 3) := by decide +kernel
theorem dX8_run_37 : decode cX8_run 37 = .ok (.iload_n 3, 1) := by decide +kernel
