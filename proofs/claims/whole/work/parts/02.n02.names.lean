theorem dX3_becomeParent_21 : decode cX3_becomeParent 21 = .ok (.ifCond .eq 10, 3) := by decide +kernel
theorem dX3_becomeParent_24 : decode cX3_becomeParent 24 = .ok (.aload_n 0, 1) := by decide +kernel
theorem dX3_becomeParent_25 : decode cX3_becomeParent 25 = .ok (.iload_n 3, 1) := by decide +kernel
theorem dX3_becomeParent_26 : decode cX3_becomeParent 26 = .ok (.iconst 4, 1) := by decide +kernel
theorem dX3_becomeParent_27 : decode cX3_becomeParent 27 = .ok (.iload_n 1, 1) := by decide +kernel
theorem dX3_becomeParent_28 : decode cX3_becomeParent 28 = .ok (.invokevirtual 15, 3) := by decide +kernel
theorem dX3_becomeParent_31 : decode cX3_becomeParent 31 = .ok (.iinc 2 1, 3) := by decide +kernel
theorem dX3_becomeParent_34 : decode cX3_becomeParent 34 = .ok (.goto (-32), 3) := by decide +kernel
theorem dX3_becomeParent_37 : decode cX3_becomeParent 37 = .ok (.return_, 1) := by decide +kernel
set_option maxRecDepth 20000 in
theorem ggX3_isFolder_X7_isFile : GoodIn wsX3_isFolder wsX7_isFile := goodIn_r _ [3] (by decide +kernel) (by decide +kernel)
set_option maxRecDepth 20000 in
theorem gX3_isFolder_X7_isFile_n45 : GoodIn wsX3_isFolder (wsX7_isFile) := ggX3_isFolder_X7_isFile
set_option maxRecDepth 20000 in
theorem ggX3_isFolder_X5_number : GoodIn wsX3_isFolder wsX5_number := goodIn_r _ [8, 9, 10, 11, 7, 12, 13, 14] (by decide +kernel) (by decide +kernel)
set_option maxRecDepth 20000 in
theorem gX3_isFolder_X5_number : GoodIn wsX3_isFolder (wsV RX3 29 RX5 yX5_number wsX5_number) := goodIn_app (goodIn_of _ (by decide +kernel)) ggX3_isFolder_X5_number
theorem dX3_isFolder_0 : decode cX3_isFolder 0 = .ok (.iload_n 1, 1) := by decide +kernel
theorem dX3_isFolder_1 : decode cX3_isFolder 1 = .ok (.invokestatic 45, 3) := by decide +kernel
theorem dX3_isFolder_4 : decode cX3_isFolder 4 = .ok (.ifCond .eq 17, 3) := by decide +kernel
theorem dX3_isFolder_7 : decode cX3_isFolder 7 = .ok (.aload_n 0, 1) := by decide +kernel
theorem dX3_isFolder_8 : decode cX3_isFolder 8 = .ok (.iload_n 1, 1) := by decide +kernel
theorem dX3_isFolder_9 : decode cX3_isFolder 9 = .ok (.iconst 0, 1) := by decide +kernel
theorem dX3_isFolder_10 : decode cX3_isFolder 10 = .ok (.invokevirtual 29, 3) := by decide +kernel
theorem dX3_isFolder_13 : decode cX3_isFolder 13 = .ok (.iconst 2, 1) := by decide +kernel
theorem dX3_isFolder_14 : decode cX3_isFolder 14 = .ok (.if_icmp .ne 7, 3) := by decide +kernel
theorem dX3_isFolder_17 : decode cX3_isFolder 17 = .ok (.iconst 1, 1) := by decide +kernel
theorem dX3_isFolder_18 : decode cX3_isFolder 18 = .ok (.goto 4, 3) := by decide +kernel
theorem dX3_isFolder_21 : decode cX3_isFolder 21 = .ok (.iconst 0, 1) := by decide +kernel
theorem dX3_isFolder_22 : decode cX3_isFolder 22 = .ok (.ireturn, 1) := by decide +kernel
set_option maxRecDepth 20000 in
theorem ggX3_mendWaiting_X6_fileAt : GoodIn wsX3_mendWaiting wsX6_fileAt := goodIn_r _ [5, 6, 7, 25, 26, 27, 28] (by decide +kernel) (by decide +kernel)
set_option maxRecDepth 20000 in
theorem gX3_mendWaiting_X6_fileAt : GoodIn wsX3_mendWaiting (wsV RX3 49 RX6 yX6_fileAt wsX6_fileAt) := goodIn_app (goodIn_of _ (by decide +kernel)) ggX3_mendWaiting_X6_fileAt
set_option maxRecDepth 20000 in
theorem ggX3_mendWaiting_X5_putTold : GoodIn wsX3_mendWaiting wsX5_putTold := goodIn_r _ [12, 13, 29, 30] (by decide +kernel) (by decide +kernel)
set_option maxRecDepth 20000 in
theorem gX3_mendWaiting_X5_putTold : GoodIn wsX3_mendWaiting (wsV RX3 54 RX5 yX5_putTold wsX5_putTold) := goodIn_app (goodIn_of _ (by decide +kernel)) ggX3_mendWaiting_X5_putTold
set_option maxRecDepth 20000 in
theorem ggX3_mendWaiting_X6_size : GoodIn wsX3_mendWaiting wsX6_size := goodIn_r _ [17, 6, 25, 26, 27, 28] (by decide +kernel) (by decide +kernel)
set_option maxRecDepth 20000 in
theorem gX3_mendWaiting_X6_size : GoodIn wsX3_mendWaiting (wsV RX3 58 RX6 yX6_size wsX6_size) := goodIn_app (goodIn_of _ (by decide +kernel)) ggX3_mendWaiting_X6_size
set_option maxRecDepth 20000 in
theorem ggX3_mendWaiting_X5_putNumber : GoodIn wsX3_mendWaiting wsX5_putNumber := goodIn_r _ [21, 13, 22, 23, 11, 24, 29, 30] (by decide +kernel) (by decide +kernel)
set_option maxRecDepth 20000 in
theorem gX3_mendWaiting_X5_putNumber : GoodIn wsX3_mendWaiting (wsV RX3 15 RX5 yX5_putNumber wsX5_putNumber) := goodIn_app (goodIn_of _ (by decide +kernel)) ggX3_mendWaiting_X5_putNumber
theorem dX3_mendWaiting_0 : decode cX3_mendWaiting 0 = .ok (.aload_n 0, 1) := by decide +kernel
theorem dX3_mendWaiting_1 : decode cX3_mendWaiting 1 = .ok (.iconst 2, 1) := by decide +kernel
theorem dX3_mendWaiting_2 : decode cX3_mendWaiting 2 = .ok (.aload_n 1, 1) := by decide +kernel
theorem dX3_mendWaiting_3 : decode cX3_mendWaiting 3 = .ok (.iconst 0, 1) := by decide +kernel
theorem dX3_mendWaiting_4 : decode cX3_mendWaiting 4 = .ok (.invokevirtual 49, 3) := by decide +kernel
theorem dX3_mendWaiting_7 : decode cX3_mendWaiting 7 = .ok (.invokevirtual 54, 3) := by decide +kernel
theorem dX3_mendWaiting_10 : decode cX3_mendWaiting 10 = .ok (.iconst 0, 1) := by decide +kernel
theorem dX3_mendWaiting_11 : decode cX3_mendWaiting 11 = .ok (.istore_n 2, 1) := by decide +kernel
theorem dX3_mendWaiting_12 : decode cX3_mendWaiting 12 = .ok (.iload_n 2, 1) := by decide +kernel
theorem dX3_mendWaiting_13 : decode cX3_mendWaiting 13 = .ok (.aload_n 1, 1) := by decide +kernel
theorem dX3_mendWaiting_14 : decode cX3_mendWaiting 14 = .ok (.invokevirtual 58, 3) := by decide +kernel
theorem dX3_mendWaiting_17 : decode cX3_mendWaiting 17 = .ok (.if_icmp .ge 26, 3) := by decide +kernel
theorem dX3_mendWaiting_20 : decode cX3_mendWaiting 20 = .ok (.aload_n 0, 1) := by decide +kernel
theorem dX3_mendWaiting_21 : decode cX3_mendWaiting 21 = .ok (.aload_n 1, 1) := by decide +kernel
theorem dX3_mendWaiting_22 : decode cX3_mendWaiting 22 = .ok (.iload_n 2, 1) := by decide +kernel
theorem dX3_mendWaiting_23 : decode cX3_mendWaiting 23 = .ok (.invokevirtual 49, 3) := by decide +kernel
theorem dX3_mendWaiting_26 : decode cX3_mendWaiting 26 = .ok (.iconst 3, 1) := by decide +kernel
theorem dX3_mendWaiting_27 : decode cX3_mendWaiting 27 = .ok (.aload_n 1, 1) := by decide +kernel
theorem dX3_mendWaiting_28 : decode cX3_mendWaiting 28 = .ok (.iload_n 2, 1) := by decide +kernel
theorem dX3_mendWaiting_29 : decode cX3_mendWaiting 29 = .ok (.iconst 1, 1) := by decide +kernel
theorem dX3_mendWaiting_30 : decode cX3_mendWaiting 30 = .ok (.iadd, 1) := by decide +kernel
theorem dX3_mendWaiting_31 : decode cX3_mendWaiting 31 = .ok (.invokevirtual 49, 3) := by decide +kernel
theorem dX3_mendWaiting_34 : decode cX3_mendWaiting 34 = .ok (.invokevirtual 15, 3) := by decide +kernel
theorem dX3_mendWaiting_37 : decode cX3_mendWaiting 37 = .ok (.iinc 2 1, 3) := by decide +kernel
theorem dX3_mendWaiting_40 : decode cX3_mendWaiting 40 = .ok (.goto (-28), 3) := by decide +kernel
theorem dX3_mendWaiting_43 : decode cX3_mendWaiting 43 = .ok (.return_, 1) := by decide +kernel
theorem dX4_init_0 : decode cX4_init 0 = .ok (.aload_n 0, 1) := by decide +kernel
theorem dX4_init_1 : decode cX4_init 1 = .ok (.invokespecial 3, 3) := by decide +kernel
theorem dX4_init_4 : decode cX4_init 4 = .ok (.aload_n 0, 1) := by decide +kernel
theorem dX4_init_5 : decode cX4_init 5 = .ok (.sipush 201, 3) := by decide +kernel
theorem dX4_init_8 : decode cX4_init 8 = .ok (.newarray .boolean, 2) := by decide +kernel
theorem dX4_init_10 : decode cX4_init 10 = .ok (.putfield 9, 3) := by decide +kernel
theorem dX4_init_13 : decode cX4_init 13 = .ok (.return_, 1) := by decide +kernel
set_option maxRecDepth 20000 in
theorem ggX4_mend_X7_unmark : GoodIn wsX4_mend wsX7_unmark := goodIn_r _ [4] (by decide +kernel) (by decide +kernel)
set_option maxRecDepth 20000 in
theorem gX4_mend_X7_unmark_n15 : GoodIn wsX4_mend (wsX7_unmark) := ggX4_mend_X7_unmark
set_option maxRecDepth 20000 in
theorem ggX4_mend_X5_number : GoodIn wsX4_mend wsX5_number := goodIn_r _ [9, 10, 11, 12, 8, 13, 89, 90] (by decide +kernel) (by decide +kernel)
set_option maxRecDepth 20000 in
theorem gX4_mend_X5_number : GoodIn wsX4_mend (wsV RX4 19 RX5 yX5_number wsX5_number) := goodIn_app (goodIn_of _ (by decide +kernel)) ggX4_mend_X5_number
set_option maxRecDepth 20000 in
theorem ggX4_mend_X4_makeRootEmpty : GoodIn wsX4_mend wsX4_makeRootEmpty := goodIn_r _ [18, 19, 20, 21, 8, 22, 10, 11, 12, 13, 23, 24, 25, 26, 27, 28, 29, 30, 31, 32, 33, 34, 35, 36, 37, 38, 39, 40, 89, 90] (by decide +kernel) (by decide +kernel)
set_option maxRecDepth 20000 in
theorem gX4_mend_X4_makeRootEmpty : GoodIn wsX4_mend (wsV RX4 25 RX4 yX4_makeRootEmpty wsX4_makeRootEmpty) := goodIn_app (goodIn_of _ (by decide +kernel)) ggX4_mend_X4_makeRootEmpty
set_option maxRecDepth 20000 in
theorem ggX4_mend_X4_mendRecord : GoodIn wsX4_mend wsX4_mendRecord := goodIn_r _ [44, 5, 6, 7, 8, 9, 10, 11, 12, 13, 45, 46, 47, 48, 30, 31, 32, 33, 49, 50, 51, 17, 52, 53, 54, 55, 56, 57, 58, 59, 60, 61, 62, 63, 64, 65, 27, 28, 29, 66, 67, 68, 19, 20, 21, 22, 69, 70, 71, 72, 73, 74, 75, 76, 77, 78, 79, 1, 80, 81, 82, 83, 84, 85, 86, 87, 23, 24, 25, 26, 34, 35, 36, 37, 38, 39, 40, 89, 90, 88] (by decide +kernel) (by decide +kernel)
set_option maxRecDepth 20000 in
theorem gX4_mend_X4_mendRecord : GoodIn wsX4_mend (wsV RX4 29 RX4 yX4_mendRecord wsX4_mendRecord) := goodIn_app (goodIn_of _ (by decide +kernel)) ggX4_mend_X4_mendRecord
theorem dX4_mend_0 : decode cX4_mend 0 = .ok (.aload_n 0, 1) := by decide +kernel
theorem dX4_mend_1 : decode cX4_mend 1 = .ok (.getfield 9, 3) := by decide +kernel
theorem dX4_mend_4 : decode cX4_mend 4 = .ok (.invokestatic 15, 3) := by decide +kernel
theorem dX4_mend_7 : decode cX4_mend 7 = .ok (.aload_n 1, 1) := by decide +kernel
theorem dX4_mend_8 : decode cX4_mend 8 = .ok (.iconst 1, 1) := by decide +kernel
theorem dX4_mend_9 : decode cX4_mend 9 = .ok (.iconst 0, 1) := by decide +kernel
theorem dX4_mend_10 : decode cX4_mend 10 = .ok (.invokevirtual 19, 3) := by decide +kernel
theorem dX4_mend_13 : decode cX4_mend 13 = .ok (.iconst 2, 1) := by decide +kernel
theorem dX4_mend_14 : decode cX4_mend 14 = .ok (.if_icmp .eq 8, 3) := by decide +kernel
theorem dX4_mend_17 : decode cX4_mend 17 = .ok (.aload_n 0, 1) := by decide +kernel
theorem dX4_mend_18 : decode cX4_mend 18 = .ok (.aload_n 1, 1) := by decide +kernel
theorem dX4_mend_19 : decode cX4_mend 19 = .ok (.invokevirtual 25, 3) := by decide +kernel
theorem dX4_mend_22 : decode cX4_mend 22 = .ok (.iconst 1, 1) := by decide +kernel
theorem dX4_mend_23 : decode cX4_mend 23 = .ok (.istore_n 2, 1) := by decide +kernel
theorem dX4_mend_24 : decode cX4_mend 24 = .ok (.iload_n 2, 1) := by decide +kernel
theorem dX4_mend_25 : decode cX4_mend 25 = .ok (.bipush 24, 2) := by decide +kernel
theorem dX4_mend_27 : decode cX4_mend 27 = .ok (.if_icmp .gt 15, 3) := by decide +kernel
theorem dX4_mend_30 : decode cX4_mend 30 = .ok (.aload_n 0, 1) := by decide +kernel
theorem dX4_mend_31 : decode cX4_mend 31 = .ok (.aload_n 1, 1) := by decide +kernel
theorem dX4_mend_32 : decode cX4_mend 32 = .ok (.iload_n 2, 1) := by decide +kernel
theorem dX4_mend_33 : decode cX4_mend 33 = .ok (.invokevirtual 29, 3) := by decide +kernel
theorem dX4_mend_36 : decode cX4_mend 36 = .ok (.iinc 2 1, 3) := by decide +kernel
theorem dX4_mend_39 : decode cX4_mend 39 = .ok (.goto (-15), 3) := by decide +kernel
theorem dX4_mend_42 : decode cX4_mend 42 = .ok (.return_, 1) := by decide +kernel
set_option maxRecDepth 20000 in
theorem ggX4_makeRootEmpty_X5_putNumber : GoodIn wsX4_makeRootEmpty wsX5_putNumber := goodIn_r _ [5, 6, 7, 8, 4, 9, 28, 29] (by decide +kernel) (by decide +kernel)
set_option maxRecDepth 20000 in
theorem gX4_makeRootEmpty_X5_putNumber : GoodIn wsX4_makeRootEmpty (wsV RX4 33 RX5 yX5_putNumber wsX5_putNumber) := goodIn_app (goodIn_of _ (by decide +kernel)) ggX4_makeRootEmpty_X5_putNumber
set_option maxRecDepth 20000 in
theorem ggX4_makeRootEmpty_X5_wipeRunsFrom : GoodIn wsX4_makeRootEmpty wsX5_wipeRunsFrom := goodIn_r _ [13, 14, 15, 4, 16, 17, 18, 19, 20, 6, 28, 29] (by decide +kernel) (by decide +kernel)
set_option maxRecDepth 20000 in
theorem gX4_makeRootEmpty_X5_wipeRunsFrom : GoodIn wsX4_makeRootEmpty (wsV RX4 37 RX5 yX5_wipeRunsFrom wsX5_wipeRunsFrom) := goodIn_app (goodIn_of _ (by decide +kernel)) ggX4_makeRootEmpty_X5_wipeRunsFrom
set_option maxRecDepth 20000 in
theorem ggX4_makeRootEmpty_X5_wipeEntriesFrom : GoodIn wsX4_makeRootEmpty wsX5_wipeEntriesFrom := goodIn_r _ [24, 25, 26, 4, 27, 17, 18, 19, 20, 6, 28, 29] (by decide +kernel) (by decide +kernel)
set_option maxRecDepth 20000 in
theorem gX4_makeRootEmpty_X5_wipeEntriesFrom : GoodIn wsX4_makeRootEmpty (wsV RX4 41 RX5 yX5_wipeEntriesFrom wsX5_wipeEntriesFrom) := goodIn_app (goodIn_of _ (by decide +kernel)) ggX4_makeRootEmpty_X5_wipeEntriesFrom
theorem dX4_makeRootEmpty_0 : decode cX4_makeRootEmpty 0 = .ok (.aload_n 1, 1) := by decide +kernel
theorem dX4_makeRootEmpty_1 : decode cX4_makeRootEmpty 1 = .ok (.iconst 1, 1) := by decide +kernel
theorem dX4_makeRootEmpty_2 : decode cX4_makeRootEmpty 2 = .ok (.iconst 0, 1) := by decide +kernel
theorem dX4_makeRootEmpty_3 : decode cX4_makeRootEmpty 3 = .ok (.iconst 2, 1) := by decide +kernel
theorem dX4_makeRootEmpty_4 : decode cX4_makeRootEmpty 4 = .ok (.invokevirtual 33, 3) := by decide +kernel
theorem dX4_makeRootEmpty_7 : decode cX4_makeRootEmpty 7 = .ok (.aload_n 1, 1) := by decide +kernel
theorem dX4_makeRootEmpty_8 : decode cX4_makeRootEmpty 8 = .ok (.iconst 1, 1) := by decide +kernel
theorem dX4_makeRootEmpty_9 : decode cX4_makeRootEmpty 9 = .ok (.iconst 1, 1) := by decide +kernel
theorem dX4_makeRootEmpty_10 : decode cX4_makeRootEmpty 10 = .ok (.iconst 0, 1) := by decide +kernel
theorem dX4_makeRootEmpty_11 : decode cX4_makeRootEmpty 11 = .ok (.invokevirtual 33, 3) := by decide +kernel
theorem dX4_makeRootEmpty_14 : decode cX4_makeRootEmpty 14 = .ok (.aload_n 1, 1) := by decide +kernel
theorem dX4_makeRootEmpty_15 : decode cX4_makeRootEmpty 15 = .ok (.iconst 1, 1) := by decide +kernel
theorem dX4_makeRootEmpty_16 : decode cX4_makeRootEmpty 16 = .ok (.iconst 0, 1) := by decide +kernel
theorem dX4_makeRootEmpty_17 : decode cX4_makeRootEmpty 17 = .ok (.invokevirtual 37, 3) := by decide +kernel
theorem dX4_makeRootEmpty_20 : decode cX4_makeRootEmpty 20 = .ok (.aload_n 1, 1) := by decide +kernel
theorem dX4_makeRootEmpty_21 : decode cX4_makeRootEmpty 21 = .ok (.iconst 1, 1) := by decide +kernel
theorem dX4_makeRootEmpty_22 : decode cX4_makeRootEmpty 22 = .ok (.iconst 0, 1) := by decide +kernel
theorem dX4_makeRootEmpty_23 : decode cX4_makeRootEmpty 23 = .ok (.invokevirtual 41, 3) := by decide +kernel
theorem dX4_makeRootEmpty_26 : decode cX4_makeRootEmpty 26 = .ok (.return_, 1) := by decide +kernel
set_option maxRecDepth 20000 in
theorem ggX4_mendRecord_X5_number : GoodIn wsX4_mendRecord wsX5_number := goodIn_r _ [5, 6, 7, 8, 4, 9, 77, 78] (by decide +kernel) (by decide +kernel)
set_option maxRecDepth 20000 in
theorem gX4_mendRecord_X5_number : GoodIn wsX4_mendRecord (wsV RX4 19 RX5 yX5_number wsX5_number) := goodIn_app (goodIn_of _ (by decide +kernel)) ggX4_mendRecord_X5_number
set_option maxRecDepth 20000 in
theorem ggX4_mendRecord_X5_wipeFile : GoodIn wsX4_mendRecord wsX5_wipeFile := goodIn_r _ [13, 7, 8, 4, 9, 14, 15, 16, 17, 6, 77, 78] (by decide +kernel) (by decide +kernel)
set_option maxRecDepth 20000 in
theorem gX4_mendRecord_X5_wipeFile : GoodIn wsX4_mendRecord (wsV RX4 44 RX5 yX5_wipeFile wsX5_wipeFile) := goodIn_app (goodIn_of _ (by decide +kernel)) ggX4_mendRecord_X5_wipeFile
set_option maxRecDepth 20000 in
theorem ggX4_mendRecord_X4_mendSize : GoodIn wsX4_mendRecord wsX4_mendSize := goodIn_r _ [22, 23, 1, 2, 3, 4, 5, 6, 7, 8, 9, 24, 25, 26, 21, 27, 28, 29, 30, 31, 32, 33, 34, 35, 36, 37, 38, 39, 40, 41, 42, 43, 44, 45, 77, 78] (by decide +kernel) (by decide +kernel)
set_option maxRecDepth 20000 in
theorem gX4_mendRecord_X4_mendSize : GoodIn wsX4_mendRecord (wsV RX4 48 RX4 yX4_mendSize wsX4_mendSize) := goodIn_app (goodIn_of _ (by decide +kernel)) ggX4_mendRecord_X4_mendSize
set_option maxRecDepth 20000 in
theorem ggX4_mendRecord_X4_mendRuns : GoodIn wsX4_mendRecord wsX4_mendRuns := goodIn_r _ [49, 50, 51, 30, 52, 1, 2, 3, 4, 5, 6, 7, 8, 9, 32, 33, 34, 35, 36, 37, 38, 39, 40, 21, 41, 53, 54, 55, 56, 57, 58, 59, 60, 61, 62, 63, 64, 65, 66, 67, 68, 69, 14, 15, 16, 17, 77, 78, 79] (by decide +kernel) (by decide +kernel)
set_option maxRecDepth 20000 in
theorem gX4_mendRecord_X4_mendRuns : GoodIn wsX4_mendRecord (wsV RX4 51 RX4 yX4_mendRuns wsX4_mendRuns) := goodIn_app (goodIn_of _ (by decide +kernel)) ggX4_mendRecord_X4_mendRuns
set_option maxRecDepth 20000 in
theorem ggX4_mendRecord_X5_wipeEntriesFrom : GoodIn wsX4_mendRecord wsX5_wipeEntriesFrom := goodIn_r _ [73, 74, 75, 4, 76, 14, 15, 16, 17, 6, 77, 78] (by decide +kernel) (by decide +kernel)
set_option maxRecDepth 20000 in
theorem gX4_mendRecord_X5_wipeEntriesFrom : GoodIn wsX4_mendRecord (wsV RX4 41 RX5 yX5_wipeEntriesFrom wsX5_wipeEntriesFrom) := goodIn_app (goodIn_of _ (by decide +kernel)) ggX4_mendRecord_X5_wipeEntriesFrom
theorem dX4_mendRecord_0 : decode cX4_mendRecord 0 = .ok (.aload_n 1, 1) := by decide +kernel
theorem dX4_mendRecord_1 : decode cX4_mendRecord 1 = .ok (.iload_n 2, 1) := by decide +kernel
theorem dX4_mendRecord_2 : decode cX4_mendRecord 2 = .ok (.iconst 0, 1) := by decide +kernel
theorem dX4_mendRecord_3 : decode cX4_mendRecord 3 = .ok (.invokevirtual 19, 3) := by decide +kernel
theorem dX4_mendRecord_6 : decode cX4_mendRecord 6 = .ok (.istore_n 3, 1) := by decide +kernel
theorem dX4_mendRecord_7 : decode cX4_mendRecord 7 = .ok (.iload_n 3, 1) := by decide +kernel
theorem dX4_mendRecord_8 : decode cX4_mendRecord 8 = .ok (.ifCond .le 8, 3) := by decide +kernel
theorem dX4_mendRecord_11 : decode cX4_mendRecord 11 = .ok (.iload_n 3, 1) := by decide +kernel
theorem dX4_mendRecord_12 : decode cX4_mendRecord 12 = .ok (.iconst 3, 1) := by decide +kernel
theorem dX4_mendRecord_13 : decode cX4_mendRecord 13 = .ok (.if_icmp .le 9, 3) := by decide +kernel
theorem dX4_mendRecord_16 : decode cX4_mendRecord 16 = .ok (.aload_n 1, 1) := by decide +kernel
theorem dX4_mendRecord_17 : decode cX4_mendRecord 17 = .ok (.iload_n 2, 1) := by decide +kernel
theorem dX4_mendRecord_18 : decode cX4_mendRecord 18 = .ok (.invokevirtual 44, 3) := by decide +kernel
theorem dX4_mendRecord_21 : decode cX4_mendRecord 21 = .ok (.return_, 1) := by decide +kernel
theorem dX4_mendRecord_22 : decode cX4_mendRecord 22 = .ok (.aload_n 0, 1) := by decide +kernel
theorem dX4_mendRecord_23 : decode cX4_mendRecord 23 = .ok (.aload_n 1, 1) := by decide +kernel
theorem dX4_mendRecord_24 : decode cX4_mendRecord 24 = .ok (.iload_n 2, 1) := by decide +kernel
theorem dX4_mendRecord_25 : decode cX4_mendRecord 25 = .ok (.invokevirtual 48, 3) := by decide +kernel
theorem dX4_mendRecord_28 : decode cX4_mendRecord 28 = .ok (.aload_n 0, 1) := by decide +kernel
theorem dX4_mendRecord_29 : decode cX4_mendRecord 29 = .ok (.aload_n 1, 1) := by decide +kernel
theorem dX4_mendRecord_30 : decode cX4_mendRecord 30 = .ok (.iload_n 2, 1) := by decide +kernel
theorem dX4_mendRecord_31 : decode cX4_mendRecord 31 = .ok (.invokevirtual 51, 3) := by decide +kernel
theorem dX4_mendRecord_34 : decode cX4_mendRecord 34 = .ok (.iload_n 3, 1) := by decide +kernel
theorem dX4_mendRecord_35 : decode cX4_mendRecord 35 = .ok (.iconst 2, 1) := by decide +kernel
theorem dX4_mendRecord_36 : decode cX4_mendRecord 36 = .ok (.if_icmp .eq 9, 3) := by decide +kernel
theorem dX4_mendRecord_39 : decode cX4_mendRecord 39 = .ok (.aload_n 1, 1) := by decide +kernel
theorem dX4_mendRecord_40 : decode cX4_mendRecord 40 = .ok (.iload_n 2, 1) := by decide +kernel
theorem dX4_mendRecord_41 : decode cX4_mendRecord 41 = .ok (.iconst 0, 1) := by decide +kernel
theorem dX4_mendRecord_42 : decode cX4_mendRecord 42 = .ok (.invokevirtual 41, 3) := by decide +kernel
theorem dX4_mendRecord_45 : decode cX4_mendRecord 45 = .ok (.return_, 1) := by decide +kernel
set_option maxRecDepth 20000 in
theorem ggX4_mendSize_X5_number : GoodIn wsX4_mendSize wsX5_number := goodIn_r _ [6, 7, 8, 9, 5, 10, 34, 35] (by decide +kernel) (by decide +kernel)
set_option maxRecDepth 20000 in
theorem gX4_mendSize_X5_number : GoodIn wsX4_mendSize (wsV RX4 19 RX5 yX5_number wsX5_number) := goodIn_app (goodIn_of _ (by decide +kernel)) ggX4_mendSize_X5_number
set_option maxRecDepth 20000 in
theorem ggX4_mendSize_X4_greatestEnd : GoodIn wsX4_mendSize wsX4_greatestEnd := goodIn_r _ [15, 16, 17, 18, 19, 20, 21, 22, 5, 23, 7, 24, 25, 26, 27, 28, 14, 29, 34, 35] (by decide +kernel) (by decide +kernel)
set_option maxRecDepth 20000 in
theorem gX4_mendSize_X4_greatestEnd : GoodIn wsX4_mendSize (wsV RX4 55 RX4 yX4_greatestEnd wsX4_greatestEnd) := goodIn_app (goodIn_of _ (by decide +kernel)) ggX4_mendSize_X4_greatestEnd
set_option maxRecDepth 20000 in
theorem ggX4_mendSize_X5_putNumber : GoodIn wsX4_mendSize wsX5_putNumber := goodIn_r _ [33, 7, 8, 9, 5, 10, 34, 35] (by decide +kernel) (by decide +kernel)
set_option maxRecDepth 20000 in
theorem gX4_mendSize_X5_putNumber : GoodIn wsX4_mendSize (wsV RX4 33 RX5 yX5_putNumber wsX5_putNumber) := goodIn_app (goodIn_of _ (by decide +kernel)) ggX4_mendSize_X5_putNumber
theorem dX4_mendSize_0 : decode cX4_mendSize 0 = .ok (.aload_n 1, 1) := by decide +kernel
theorem dX4_mendSize_1 : decode cX4_mendSize 1 = .ok (.iload_n 2, 1) := by decide +kernel
theorem dX4_mendSize_2 : decode cX4_mendSize 2 = .ok (.iconst 1, 1) := by decide +kernel
theorem dX4_mendSize_3 : decode cX4_mendSize 3 = .ok (.invokevirtual 19, 3) := by decide +kernel
theorem dX4_mendSize_6 : decode cX4_mendSize 6 = .ok (.istore_n 3, 1) := by decide +kernel
theorem dX4_mendSize_7 : decode cX4_mendSize 7 = .ok (.iload_n 3, 1) := by decide +kernel
theorem dX4_mendSize_8 : decode cX4_mendSize 8 = .ok (.ifCond .lt 9, 3) := by decide +kernel
theorem dX4_mendSize_11 : decode cX4_mendSize 11 = .ok (.iload_n 3, 1) := by decide +kernel
theorem dX4_mendSize_12 : decode cX4_mendSize 12 = .ok (.ldc 54, 2) := by decide +kernel
theorem dX4_mendSize_14 : decode cX4_mendSize 14 = .ok (.if_icmp .le 19, 3) := by decide +kernel
theorem dX4_mendSize_17 : decode cX4_mendSize 17 = .ok (.aload_n 1, 1) := by decide +kernel
theorem dX4_mendSize_18 : decode cX4_mendSize 18 = .ok (.iload_n 2, 1) := by decide +kernel
theorem dX4_mendSize_19 : decode cX4_mendSize 19 = .ok (.iconst 1, 1) := by decide +kernel
theorem dX4_mendSize_20 : decode cX4_mendSize 20 = .ok (.sipush 1024, 3) := by decide +kernel
theorem dX4_mendSize_23 : decode cX4_mendSize 23 = .ok (.aload_n 0, 1) := by decide +kernel
theorem dX4_mendSize_24 : decode cX4_mendSize 24 = .ok (.aload_n 1, 1) := by decide +kernel
theorem dX4_mendSize_25 : decode cX4_mendSize 25 = .ok (.iload_n 2, 1) := by decide +kernel
theorem dX4_mendSize_26 : decode cX4_mendSize 26 = .ok (.invokevirtual 55, 3) := by decide +kernel
theorem dX4_mendSize_29 : decode cX4_mendSize 29 = .ok (.imul, 1) := by decide +kernel
theorem dX4_mendSize_30 : decode cX4_mendSize 30 = .ok (.invokevirtual 33, 3) := by decide +kernel
theorem dX4_mendSize_33 : decode cX4_mendSize 33 = .ok (.return_, 1) := by decide +kernel
set_option maxRecDepth 20000 in
theorem ggX4_greatestEnd_X5_runPart : GoodIn wsX4_greatestEnd wsX5_runPart := goodIn_r _ [9, 10, 11, 12, 8, 13, 18, 19] (by decide +kernel) (by decide +kernel)
set_option maxRecDepth 20000 in
theorem gX4_greatestEnd_X5_runPart : GoodIn wsX4_greatestEnd (wsV RX4 59 RX5 yX5_runPart wsX5_runPart) := goodIn_app (goodIn_of _ (by decide +kernel)) ggX4_greatestEnd_X5_runPart
set_option maxRecDepth 20000 in
theorem ggX4_greatestEnd_X4_isRight : GoodIn wsX4_greatestEnd wsX4_isRight := goodIn_r _ [17] (by decide +kernel) (by decide +kernel)
set_option maxRecDepth 20000 in
theorem gX4_greatestEnd_X4_isRight : GoodIn wsX4_greatestEnd (va_wsS RX4 63 yX4_isRight wsX4_isRight) := goodIn_app (goodIn_of _ (by decide +kernel)) ggX4_greatestEnd_X4_isRight
theorem dX4_greatestEnd_0 : decode cX4_greatestEnd 0 = .ok (.iconst 0, 1) := by decide +kernel
theorem dX4_greatestEnd_1 : decode cX4_greatestEnd 1 = .ok (.istore_n 3, 1) := by decide +kernel
theorem dX4_greatestEnd_2 : decode cX4_greatestEnd 2 = .ok (.iconst 0, 1) := by decide +kernel
theorem dX4_greatestEnd_3 : decode cX4_greatestEnd 3 = .ok (.istore 4, 2) := by decide +kernel
theorem dX4_greatestEnd_5 : decode cX4_greatestEnd 5 = .ok (.iload 4, 2) := by decide +kernel
theorem dX4_greatestEnd_7 : decode cX4_greatestEnd 7 = .ok (.bipush 6, 2) := by decide +kernel
theorem dX4_greatestEnd_9 : decode cX4_greatestEnd 9 = .ok (.if_icmp .ge 57, 3) := by decide +kernel
theorem dX4_greatestEnd_12 : decode cX4_greatestEnd 12 = .ok (.aload_n 1, 1) := by decide +kernel
theorem dX4_greatestEnd_13 : decode cX4_greatestEnd 13 = .ok (.iload_n 2, 1) := by decide +kernel
theorem dX4_greatestEnd_14 : decode cX4_greatestEnd 14 = .ok (.iload 4, 2) := by decide +kernel
theorem dX4_greatestEnd_16 : decode cX4_greatestEnd 16 = .ok (.iconst 0, 1) := by decide +kernel
theorem dX4_greatestEnd_17 : decode cX4_greatestEnd 17 = .ok (.invokevirtual 59, 3) := by decide +kernel
theorem dX4_greatestEnd_20 : decode cX4_greatestEnd 20 = .ok (.istore 5, 2) := by decide +kernel
theorem dX4_greatestEnd_22 : decode cX4_greatestEnd 22 = .ok (.aload_n 1, 1) := by decide +kernel
theorem dX4_greatestEnd_23 : decode cX4_greatestEnd 23 = .ok (.iload_n 2, 1) := by decide +kernel
theorem dX4_greatestEnd_24 : decode cX4_greatestEnd 24 = .ok (.iload 4, 2) := by decide +kernel
theorem dX4_greatestEnd_26 : decode cX4_greatestEnd 26 = .ok (.iconst 1, 1) := by decide +kernel
theorem dX4_greatestEnd_27 : decode cX4_greatestEnd 27 = .ok (.invokevirtual 59, 3) := by decide +kernel
theorem dX4_greatestEnd_30 : decode cX4_greatestEnd 30 = .ok (.istore 6, 2) := by decide +kernel
theorem dX4_greatestEnd_32 : decode cX4_greatestEnd 32 = .ok (.iload 5, 2) := by decide +kernel
theorem dX4_greatestEnd_34 : decode cX4_greatestEnd 34 = .ok (.iload 6, 2) := by decide +kernel
theorem dX4_greatestEnd_36 : decode cX4_greatestEnd 36 = .ok (.aload_n 1, 1) := by decide +kernel
theorem dX4_greatestEnd_37 : decode cX4_greatestEnd 37 = .ok (.iload_n 2, 1) := by decide +kernel
theorem dX4_greatestEnd_38 : decode cX4_greatestEnd 38 = .ok (.iload 4, 2) := by decide +kernel
theorem dX4_greatestEnd_40 : decode cX4_greatestEnd 40 = .ok (.iconst 2, 1) := by decide +kernel
theorem dX4_greatestEnd_41 : decode cX4_greatestEnd 41 = .ok (.invokevirtual 59, 3) := by decide +kernel
theorem dX4_greatestEnd_44 : decode cX4_greatestEnd 44 = .ok (.invokestatic 63, 3) := by decide +kernel
theorem dX4_greatestEnd_47 : decode cX4_greatestEnd 47 = .ok (.ifCond .eq 13, 3) := by decide +kernel
theorem dX4_greatestEnd_50 : decode cX4_greatestEnd 50 = .ok (.iload_n 3, 1) := by decide +kernel
theorem dX4_greatestEnd_51 : decode cX4_greatestEnd 51 = .ok (.iload 5, 2) := by decide +kernel
theorem dX4_greatestEnd_53 : decode cX4_greatestEnd 53 = .ok (.iload 6, 2) := by decide +kernel
theorem dX4_greatestEnd_55 : decode cX4_greatestEnd 55 = .ok (.iadd, 1) := by decide +kernel
theorem dX4_greatestEnd_56 : decode cX4_greatestEnd 56 = .ok (.invokestatic 67, 3) := by decide +kernel
theorem dX4_greatestEnd_59 : decode cX4_greatestEnd 59 = .ok (.istore_n 3, 1) := by decide +kernel
theorem dX4_greatestEnd_60 : decode cX4_greatestEnd 60 = .ok (.iinc 4 1, 3) := by decide +kernel
theorem dX4_greatestEnd_63 : decode cX4_greatestEnd 63 = .ok (.goto (-58), 3) := by decide +kernel
theorem dX4_greatestEnd_66 : decode cX4_greatestEnd 66 = .ok (.iload_n 3, 1) := by decide +kernel
theorem dX4_greatestEnd_67 : decode cX4_greatestEnd 67 = .ok (.ireturn, 1) := by decide +kernel
set_option maxRecDepth 20000 in
theorem ggX4_mendRuns_X5_number : GoodIn wsX4_mendRuns wsX5_number := goodIn_r _ [9, 10, 11, 12, 8, 13, 46, 47] (by decide +kernel) (by decide +kernel)
set_option maxRecDepth 20000 in
theorem gX4_mendRuns_X5_number : GoodIn wsX4_mendRuns (wsV RX4 19 RX5 yX5_number wsX5_number) := goodIn_app (goodIn_of _ (by decide +kernel)) ggX4_mendRuns_X5_number
set_option maxRecDepth 20000 in
theorem ggX4_mendRuns_X5_runPart : GoodIn wsX4_mendRuns wsX5_runPart := goodIn_r _ [17, 10, 18, 19, 8, 20, 46, 47] (by decide +kernel) (by decide +kernel)
set_option maxRecDepth 20000 in
theorem gX4_mendRuns_X5_runPart : GoodIn wsX4_mendRuns (wsV RX4 59 RX5 yX5_runPart wsX5_runPart) := goodIn_app (goodIn_of _ (by decide +kernel)) ggX4_mendRuns_X5_runPart
set_option maxRecDepth 20000 in
theorem ggX4_mendRuns_X4_isRight : GoodIn wsX4_mendRuns wsX4_isRight := goodIn_r _ [24] (by decide +kernel) (by decide +kernel)
set_option maxRecDepth 20000 in
theorem gX4_mendRuns_X4_isRight : GoodIn wsX4_mendRuns (va_wsS RX4 63 yX4_isRight wsX4_isRight) := goodIn_app (goodIn_of _ (by decide +kernel)) ggX4_mendRuns_X4_isRight
set_option maxRecDepth 20000 in
theorem ggX4_mendRuns_X4_isAnyInRuns : GoodIn wsX4_mendRuns wsX4_isAnyInRuns := goodIn_r _ [28, 29, 48] (by decide +kernel) (by decide +kernel)
set_option maxRecDepth 20000 in
theorem gX4_mendRuns_X4_isAnyInRuns : GoodIn wsX4_mendRuns (wsV RX4 75 RX4 yX4_isAnyInRuns wsX4_isAnyInRuns) := goodIn_app (goodIn_of _ (by decide +kernel)) ggX4_mendRuns_X4_isAnyInRuns
set_option maxRecDepth 20000 in
theorem ggX4_mendRuns_X4_markInRuns : GoodIn wsX4_mendRuns wsX4_markInRuns := goodIn_r _ [33, 29, 48] (by decide +kernel) (by decide +kernel)
set_option maxRecDepth 20000 in
theorem gX4_mendRuns_X4_markInRuns : GoodIn wsX4_mendRuns (wsV RX4 79 RX4 yX4_markInRuns wsX4_markInRuns) := goodIn_app (goodIn_of _ (by decide +kernel)) ggX4_mendRuns_X4_markInRuns
set_option maxRecDepth 20000 in
theorem ggX4_mendRuns_X5_putRun : GoodIn wsX4_mendRuns wsX5_putRun := goodIn_r _ [37, 10, 18, 19, 8, 20, 46, 47] (by decide +kernel) (by decide +kernel)
set_option maxRecDepth 20000 in
theorem gX4_mendRuns_X5_putRun : GoodIn wsX4_mendRuns (wsV RX4 82 RX5 yX5_putRun wsX5_putRun) := goodIn_app (goodIn_of _ (by decide +kernel)) ggX4_mendRuns_X5_putRun
set_option maxRecDepth 20000 in
theorem ggX4_mendRuns_X5_wipeRunsFrom : GoodIn wsX4_mendRuns wsX5_wipeRunsFrom := goodIn_r _ [41, 18, 19, 8, 20, 42, 43, 44, 45, 10, 46, 47] (by decide +kernel) (by decide +kernel)
set_option maxRecDepth 20000 in
theorem gX4_mendRuns_X5_wipeRunsFrom : GoodIn wsX4_mendRuns (wsV RX4 37 RX5 yX5_wipeRunsFrom wsX5_wipeRunsFrom) := goodIn_app (goodIn_of _ (by decide +kernel)) ggX4_mendRuns_X5_wipeRunsFrom
theorem dX4_mendRuns_0 : decode cX4_mendRuns 0 = .ok (.aload_n 1, 1) := by decide +kernel
theorem dX4_mendRuns_1 : decode cX4_mendRuns 1 = .ok (.iload_n 2, 1) := by decide +kernel
theorem dX4_mendRuns_2 : decode cX4_mendRuns 2 = .ok (.iconst 1, 1) := by decide +kernel
theorem dX4_mendRuns_3 : decode cX4_mendRuns 3 = .ok (.invokevirtual 19, 3) := by decide +kernel
theorem dX4_mendRuns_6 : decode cX4_mendRuns 6 = .ok (.sipush 1024, 3) := by decide +kernel
theorem dX4_mendRuns_9 : decode cX4_mendRuns 9 = .ok (.iadd, 1) := by decide +kernel
theorem dX4_mendRuns_10 : decode cX4_mendRuns 10 = .ok (.iconst 1, 1) := by decide +kernel
theorem dX4_mendRuns_11 : decode cX4_mendRuns 11 = .ok (.isub, 1) := by decide +kernel
theorem dX4_mendRuns_12 : decode cX4_mendRuns 12 = .ok (.sipush 1024, 3) := by decide +kernel
theorem dX4_mendRuns_15 : decode cX4_mendRuns 15 = .ok (.idiv, 1) := by decide +kernel
theorem dX4_mendRuns_16 : decode cX4_mendRuns 16 = .ok (.istore_n 3, 1) := by decide +kernel
theorem dX4_mendRuns_17 : decode cX4_mendRuns 17 = .ok (.iconst 0, 1) := by decide +kernel
theorem dX4_mendRuns_18 : decode cX4_mendRuns 18 = .ok (.istore 4, 2) := by decide +kernel
theorem dX4_mendRuns_20 : decode cX4_mendRuns 20 = .ok (.iconst 0, 1) := by decide +kernel
theorem dX4_mendRuns_21 : decode cX4_mendRuns 21 = .ok (.istore 5, 2) := by decide +kernel
theorem dX4_mendRuns_23 : decode cX4_mendRuns 23 = .ok (.iconst 0, 1) := by decide +kernel
theorem dX4_mendRuns_24 : decode cX4_mendRuns 24 = .ok (.istore 6, 2) := by decide +kernel
theorem dX4_mendRuns_26 : decode cX4_mendRuns 26 = .ok (.iload 6, 2) := by decide +kernel
theorem dX4_mendRuns_28 : decode cX4_mendRuns 28 = .ok (.bipush 6, 2) := by decide +kernel
theorem dX4_mendRuns_30 : decode cX4_mendRuns 30 = .ok (.if_icmp .ge 123, 3) := by decide +kernel
theorem dX4_mendRuns_33 : decode cX4_mendRuns 33 = .ok (.aload_n 1, 1) := by decide +kernel
theorem dX4_mendRuns_34 : decode cX4_mendRuns 34 = .ok (.iload_n 2, 1) := by decide +kernel
theorem dX4_mendRuns_35 : decode cX4_mendRuns 35 = .ok (.iload 6, 2) := by decide +kernel
theorem dX4_mendRuns_37 : decode cX4_mendRuns 37 = .ok (.iconst 0, 1) := by decide +kernel
theorem dX4_mendRuns_38 : decode cX4_mendRuns 38 = .ok (.invokevirtual 59, 3) := by decide +kernel
theorem dX4_mendRuns_41 : decode cX4_mendRuns 41 = .ok (.istore 7, 2) := by decide +kernel
theorem dX4_mendRuns_43 : decode cX4_mendRuns 43 = .ok (.aload_n 1, 1) := by decide +kernel
theorem dX4_mendRuns_44 : decode cX4_mendRuns 44 = .ok (.iload_n 2, 1) := by decide +kernel
theorem dX4_mendRuns_45 : decode cX4_mendRuns 45 = .ok (.iload 6, 2) := by decide +kernel
theorem dX4_mendRuns_47 : decode cX4_mendRuns 47 = .ok (.iconst 1, 1) := by decide +kernel
theorem dX4_mendRuns_48 : decode cX4_mendRuns 48 = .ok (.invokevirtual 59, 3) := by decide +kernel
theorem dX4_mendRuns_51 : decode cX4_mendRuns 51 = .ok (.istore 8, 2) := by decide +kernel
theorem dX4_mendRuns_53 : decode cX4_mendRuns 53 = .ok (.aload_n 1, 1) := by decide +kernel
theorem dX4_mendRuns_54 : decode cX4_mendRuns 54 = .ok (.iload_n 2, 1) := by decide +kernel
theorem dX4_mendRuns_55 : decode cX4_mendRuns 55 = .ok (.iload 6, 2) := by decide +kernel
theorem dX4_mendRuns_57 : decode cX4_mendRuns 57 = .ok (.iconst 2, 1) := by decide +kernel
theorem dX4_mendRuns_58 : decode cX4_mendRuns 58 = .ok (.invokevirtual 59, 3) := by decide +kernel
theorem dX4_mendRuns_61 : decode cX4_mendRuns 61 = .ok (.istore 9, 2) := by decide +kernel
theorem dX4_mendRuns_63 : decode cX4_mendRuns 63 = .ok (.iload 7, 2) := by decide +kernel
theorem dX4_mendRuns_65 : decode cX4_mendRuns 65 = .ok (.iload 8, 2) := by decide +kernel
theorem dX4_mendRuns_67 : decode cX4_mendRuns 67 = .ok (.iload 9, 2) := by decide +kernel
theorem dX4_mendRuns_69 : decode cX4_mendRuns 69 = .ok (.invokestatic 63, 3) := by decide +kernel
theorem dX4_mendRuns_72 : decode cX4_mendRuns 72 = .ok (.ifCond .ne 6, 3) := by decide +kernel
theorem dX4_mendRuns_75 : decode cX4_mendRuns 75 = .ok (.goto 72, 3) := by decide +kernel
theorem dX4_mendRuns_78 : decode cX4_mendRuns 78 = .ok (.iload 8, 2) := by decide +kernel
theorem dX4_mendRuns_80 : decode cX4_mendRuns 80 = .ok (.iload_n 3, 1) := by decide +kernel
theorem dX4_mendRuns_81 : decode cX4_mendRuns 81 = .ok (.iload 7, 2) := by decide +kernel
theorem dX4_mendRuns_83 : decode cX4_mendRuns 83 = .ok (.isub, 1) := by decide +kernel
theorem dX4_mendRuns_84 : decode cX4_mendRuns 84 = .ok (.invokestatic 72, 3) := by decide +kernel
theorem dX4_mendRuns_87 : decode cX4_mendRuns 87 = .ok (.istore 8, 2) := by decide +kernel
theorem dX4_mendRuns_89 : decode cX4_mendRuns 89 = .ok (.iload 8, 2) := by decide +kernel
theorem dX4_mendRuns_91 : decode cX4_mendRuns 91 = .ok (.iconst 1, 1) := by decide +kernel
theorem dX4_mendRuns_92 : decode cX4_mendRuns 92 = .ok (.if_icmp .lt 55, 3) := by decide +kernel
theorem dX4_mendRuns_95 : decode cX4_mendRuns 95 = .ok (.iload 7, 2) := by decide +kernel
theorem dX4_mendRuns_97 : decode cX4_mendRuns 97 = .ok (.iload 5, 2) := by decide +kernel
theorem dX4_mendRuns_99 : decode cX4_mendRuns 99 = .ok (.if_icmp .lt 48, 3) := by decide +kernel
theorem dX4_mendRuns_102 : decode cX4_mendRuns 102 = .ok (.aload_n 0, 1) := by decide +kernel
theorem dX4_mendRuns_103 : decode cX4_mendRuns 103 = .ok (.iload 9, 2) := by decide +kernel
theorem dX4_mendRuns_105 : decode cX4_mendRuns 105 = .ok (.iload 8, 2) := by decide +kernel
theorem dX4_mendRuns_107 : decode cX4_mendRuns 107 = .ok (.invokevirtual 75, 3) := by decide +kernel
theorem dX4_mendRuns_110 : decode cX4_mendRuns 110 = .ok (.ifCond .eq 6, 3) := by decide +kernel
theorem dX4_mendRuns_113 : decode cX4_mendRuns 113 = .ok (.goto 34, 3) := by decide +kernel
theorem dX4_mendRuns_116 : decode cX4_mendRuns 116 = .ok (.aload_n 0, 1) := by decide +kernel
theorem dX4_mendRuns_117 : decode cX4_mendRuns 117 = .ok (.iload 9, 2) := by decide +kernel
theorem dX4_mendRuns_119 : decode cX4_mendRuns 119 = .ok (.iload 8, 2) := by decide +kernel
theorem dX4_mendRuns_121 : decode cX4_mendRuns 121 = .ok (.invokevirtual 79, 3) := by decide +kernel
theorem dX4_mendRuns_124 : decode cX4_mendRuns 124 = .ok (.aload_n 1, 1) := by decide +kernel
theorem dX4_mendRuns_125 : decode cX4_mendRuns 125 = .ok (.iload_n 2, 1) := by decide +kernel
theorem dX4_mendRuns_126 : decode cX4_mendRuns 126 = .ok (.iload 4, 2) := by decide +kernel
theorem dX4_mendRuns_128 : decode cX4_mendRuns 128 = .ok (.iload 7, 2) := by decide +kernel
theorem dX4_mendRuns_130 : decode cX4_mendRuns 130 = .ok (.iload 8, 2) := by decide +kernel
theorem dX4_mendRuns_132 : decode cX4_mendRuns 132 = .ok (.iload 9, 2) := by decide +kernel
theorem dX4_mendRuns_134 : decode cX4_mendRuns 134 = .ok (.invokevirtual 82, 3) := by decide +kernel
theorem dX4_mendRuns_137 : decode cX4_mendRuns 137 = .ok (.iinc 4 1, 3) := by decide +kernel
theorem dX4_mendRuns_140 : decode cX4_mendRuns 140 = .ok (.iload 7, 2) := by decide +kernel
theorem dX4_mendRuns_142 : decode cX4_mendRuns 142 = .ok (.iload 8, 2) := by decide +kernel
theorem dX4_mendRuns_144 : decode cX4_mendRuns 144 = .ok (.iadd, 1) := by decide +kernel
theorem dX4_mendRuns_145 : decode cX4_mendRuns 145 = .ok (.istore 5, 2) := by decide +kernel
theorem dX4_mendRuns_147 : decode cX4_mendRuns 147 = .ok (.iinc 6 1, 3) := by decide +kernel
theorem dX4_mendRuns_150 : decode cX4_mendRuns 150 = .ok (.goto (-124), 3) := by decide +kernel
theorem dX4_mendRuns_153 : decode cX4_mendRuns 153 = .ok (.aload_n 1, 1) := by decide +kernel
theorem dX4_mendRuns_154 : decode cX4_mendRuns 154 = .ok (.iload_n 2, 1) := by decide +kernel
theorem dX4_mendRuns_155 : decode cX4_mendRuns 155 = .ok (.iload 4, 2) := by decide +kernel
theorem dX4_mendRuns_157 : decode cX4_mendRuns 157 = .ok (.invokevirtual 37, 3) := by decide +kernel
theorem dX4_mendRuns_160 : decode cX4_mendRuns 160 = .ok (.return_, 1) := by decide +kernel
theorem dX4_isRight_0 : decode cX4_isRight 0 = .ok (.iload_n 1, 1) := by decide +kernel
theorem dX4_isRight_1 : decode cX4_isRight 1 = .ok (.iconst 1, 1) := by decide +kernel
theorem dX4_isRight_2 : decode cX4_isRight 2 = .ok (.if_icmp .lt 40, 3) := by decide +kernel
theorem dX4_isRight_5 : decode cX4_isRight 5 = .ok (.iload_n 1, 1) := by decide +kernel
theorem dX4_isRight_6 : decode cX4_isRight 6 = .ok (.bipush 64, 2) := by decide +kernel
theorem dX4_isRight_8 : decode cX4_isRight 8 = .ok (.if_icmp .gt 34, 3) := by decide +kernel
theorem dX4_isRight_11 : decode cX4_isRight 11 = .ok (.iload_n 0, 1) := by decide +kernel
theorem dX4_isRight_12 : decode cX4_isRight 12 = .ok (.ifCond .lt 30, 3) := by decide +kernel
theorem dX4_isRight_15 : decode cX4_isRight 15 = .ok (.iload_n 0, 1) := by decide +kernel
theorem dX4_isRight_16 : decode cX4_isRight 16 = .ok (.bipush 64, 2) := by decide +kernel
theorem dX4_isRight_18 : decode cX4_isRight 18 = .ok (.iload_n 1, 1) := by decide +kernel
theorem dX4_isRight_19 : decode cX4_isRight 19 = .ok (.isub, 1) := by decide +kernel
theorem dX4_isRight_20 : decode cX4_isRight 20 = .ok (.if_icmp .gt 22, 3) := by decide +kernel
theorem dX4_isRight_23 : decode cX4_isRight 23 = .ok (.iload_n 2, 1) := by decide +kernel
theorem dX4_isRight_24 : decode cX4_isRight 24 = .ok (.bipush 8, 2) := by decide +kernel
theorem dX4_isRight_26 : decode cX4_isRight 26 = .ok (.if_icmp .le 16, 3) := by decide +kernel
theorem dX4_isRight_29 : decode cX4_isRight 29 = .ok (.iload_n 2, 1) := by decide +kernel
theorem dX4_isRight_30 : decode cX4_isRight 30 = .ok (.sipush 201, 3) := by decide +kernel
theorem dX4_isRight_33 : decode cX4_isRight 33 = .ok (.iload_n 1, 1) := by decide +kernel
theorem dX4_isRight_34 : decode cX4_isRight 34 = .ok (.isub, 1) := by decide +kernel
theorem dX4_isRight_35 : decode cX4_isRight 35 = .ok (.if_icmp .gt 7, 3) := by decide +kernel
theorem dX4_isRight_38 : decode cX4_isRight 38 = .ok (.iconst 1, 1) := by decide +kernel
theorem dX4_isRight_39 : decode cX4_isRight 39 = .ok (.goto 4, 3) := by decide +kernel
theorem dX4_isRight_42 : decode cX4_isRight 42 = .ok (.iconst 0, 1) := by decide +kernel
theorem dX4_isRight_43 : decode cX4_isRight 43 = .ok (.ireturn, 1) := by decide +kernel
theorem dX4_isAnyInRuns_0 : decode cX4_isAnyInRuns 0 = .ok (.iconst 0, 1) := by decide +kernel
theorem dX4_isAnyInRuns_1 : decode cX4_isAnyInRuns 1 = .ok (.istore_n 3, 1) := by decide +kernel
theorem dX4_isAnyInRuns_2 : decode cX4_isAnyInRuns 2 = .ok (.iload_n 3, 1) := by decide +kernel
theorem dX4_isAnyInRuns_3 : decode cX4_isAnyInRuns 3 = .ok (.iload_n 2, 1) := by decide +kernel
theorem dX4_isAnyInRuns_4 : decode cX4_isAnyInRuns 4 = .ok (.if_icmp .ge 22, 3) := by decide +kernel
theorem dX4_isAnyInRuns_7 : decode cX4_isAnyInRuns 7 = .ok (.aload_n 0, 1) := by decide +kernel
theorem dX4_isAnyInRuns_8 : decode cX4_isAnyInRuns 8 = .ok (.getfield 9, 3) := by decide +kernel
theorem dX4_isAnyInRuns_11 : decode cX4_isAnyInRuns 11 = .ok (.iload_n 1, 1) := by decide +kernel
theorem dX4_isAnyInRuns_12 : decode cX4_isAnyInRuns 12 = .ok (.iload_n 3, 1) := by decide +kernel
theorem dX4_isAnyInRuns_13 : decode cX4_isAnyInRuns 13 = .ok (.iadd, 1) := by decide +kernel
theorem dX4_isAnyInRuns_14 : decode cX4_isAnyInRuns 14 = .ok (.baload, 1) := by decide +kernel
theorem dX4_isAnyInRuns_15 : decode cX4_isAnyInRuns 15 = .ok (.ifCond .eq 5, 3) := by decide +kernel
theorem dX4_isAnyInRuns_18 : decode cX4_isAnyInRuns 18 = .ok (.iconst 1, 1) := by decide +kernel
theorem dX4_isAnyInRuns_19 : decode cX4_isAnyInRuns 19 = .ok (.ireturn, 1) := by decide +kernel
theorem dX4_isAnyInRuns_20 : decode cX4_isAnyInRuns 20 = .ok (.iinc 3 1, 3) := by decide +kernel
theorem dX4_isAnyInRuns_23 : decode cX4_isAnyInRuns 23 = .ok (.goto (-21), 3) := by decide +kernel
theorem dX4_isAnyInRuns_26 : decode cX4_isAnyInRuns 26 = .ok (.iconst 0, 1) := by decide +kernel
theorem dX4_isAnyInRuns_27 : decode cX4_isAnyInRuns 27 = .ok (.ireturn, 1) := by decide +kernel
theorem dX4_markInRuns_0 : decode cX4_markInRuns 0 = .ok (.iconst 0, 1) := by decide +kernel
theorem dX4_markInRuns_1 : decode cX4_markInRuns 1 = .ok (.istore_n 3, 1) := by decide +kernel
theorem dX4_markInRuns_2 : decode cX4_markInRuns 2 = .ok (.iload_n 3, 1) := by decide +kernel
theorem dX4_markInRuns_3 : decode cX4_markInRuns 3 = .ok (.iload_n 2, 1) := by decide +kernel
theorem dX4_markInRuns_4 : decode cX4_markInRuns 4 = .ok (.if_icmp .ge 18, 3) := by decide +kernel
theorem dX4_markInRuns_7 : decode cX4_markInRuns 7 = .ok (.aload_n 0, 1) := by decide +kernel
theorem dX4_markInRuns_8 : decode cX4_markInRuns 8 = .ok (.getfield 9, 3) := by decide +kernel
theorem dX4_markInRuns_11 : decode cX4_markInRuns 11 = .ok (.iload_n 1, 1) := by decide +kernel
theorem dX4_markInRuns_12 : decode cX4_markInRuns 12 = .ok (.iload_n 3, 1) := by decide +kernel
theorem dX4_markInRuns_13 : decode cX4_markInRuns 13 = .ok (.iadd, 1) := by decide +kernel
theorem dX4_markInRuns_14 : decode cX4_markInRuns 14 = .ok (.iconst 1, 1) := by decide +kernel
theorem dX4_markInRuns_15 : decode cX4_markInRuns 15 = .ok (.bastore, 1) := by decide +kernel
theorem dX4_markInRuns_16 : decode cX4_markInRuns 16 = .ok (.iinc 3 1, 3) := by decide +kernel
theorem dX4_markInRuns_19 : decode cX4_markInRuns 19 = .ok (.goto (-17), 3) := by decide +kernel
theorem dX4_markInRuns_22 : decode cX4_markInRuns 22 = .ok (.return_, 1) := by decide +kernel
theorem dX5_init_0 : decode cX5_init 0 = .ok (.aload_n 0, 1) := by decide +kernel
theorem dX5_init_1 : decode cX5_init 1 = .ok (.invokespecial 5, 3) := by decide +kernel
theorem dX5_init_4 : decode cX5_init 4 = .ok (.aload_n 0, 1) := by decide +kernel
theorem dX5_init_5 : decode cX5_init 5 = .ok (.sipush 1355, 3) := by decide +kernel
theorem dX5_init_8 : decode cX5_init 8 = .ok (.newarray .int, 2) := by decide +kernel
theorem dX5_init_10 : decode cX5_init 10 = .ok (.putfield 11, 3) := by decide +kernel
theorem dX5_init_13 : decode cX5_init 13 = .ok (.aload_n 0, 1) := by decide +kernel
theorem dX5_init_14 : decode cX5_init 14 = .ok (.sipush 1355, 3) := by decide +kernel
theorem dX5_init_17 : decode cX5_init 17 = .ok (.newarray .int, 2) := by decide +kernel
theorem dX5_init_19 : decode cX5_init 19 = .ok (.putfield 15, 3) := by decide +kernel
theorem dX5_init_22 : decode cX5_init 22 = .ok (.return_, 1) := by decide +kernel
set_option maxRecDepth 20000 in
theorem ggX5_makeWhole_X5_wipeCells : GoodIn wsX5_makeWhole wsX5_wipeCells := goodIn_r _ [5, 6, 25, 26] (by decide +kernel) (by decide +kernel)
set_option maxRecDepth 20000 in
theorem gX5_makeWhole_X5_wipeCells : GoodIn wsX5_makeWhole (wsV RX5 18 RX5 yX5_wipeCells wsX5_wipeCells) := goodIn_app (goodIn_of _ (by decide +kernel)) ggX5_makeWhole_X5_wipeCells
set_option maxRecDepth 20000 in
theorem ggX5_makeWhole_X5_putNumber : GoodIn wsX5_makeWhole wsX5_putNumber := goodIn_r _ [10, 6, 11, 12, 4, 13, 25, 26] (by decide +kernel) (by decide +kernel)
set_option maxRecDepth 20000 in
theorem gX5_makeWhole_X5_putNumber : GoodIn wsX5_makeWhole (wsV RX5 22 RX5 yX5_putNumber wsX5_putNumber) := goodIn_app (goodIn_of _ (by decide +kernel)) ggX5_makeWhole_X5_putNumber
set_option maxRecDepth 20000 in
theorem ggX5_makeWhole_X5_putBit : GoodIn wsX5_makeWhole wsX5_putBit := goodIn_r _ [17, 6, 18, 19, 4, 20, 25, 26] (by decide +kernel) (by decide +kernel)
set_option maxRecDepth 20000 in
theorem gX5_makeWhole_X5_putBit : GoodIn wsX5_makeWhole (wsV RX5 26 RX5 yX5_putBit wsX5_putBit) := goodIn_app (goodIn_of _ (by decide +kernel)) ggX5_makeWhole_X5_putBit
set_option maxRecDepth 20000 in
theorem ggX5_makeWhole_X5_putTold : GoodIn wsX5_makeWhole wsX5_putTold := goodIn_r _ [24, 6, 25, 26] (by decide +kernel) (by decide +kernel)
set_option maxRecDepth 20000 in
theorem gX5_makeWhole_X5_putTold : GoodIn wsX5_makeWhole (wsV RX5 29 RX5 yX5_putTold wsX5_putTold) := goodIn_app (goodIn_of _ (by decide +kernel)) ggX5_makeWhole_X5_putTold
theorem dX5_makeWhole_0 : decode cX5_makeWhole 0 = .ok (.aload_n 0, 1) := by decide +kernel
theorem dX5_makeWhole_1 : decode cX5_makeWhole 1 = .ok (.iconst 0, 1) := by decide +kernel
theorem dX5_makeWhole_2 : decode cX5_makeWhole 2 = .ok (.sipush 1355, 3) := by decide +kernel
theorem dX5_makeWhole_5 : decode cX5_makeWhole 5 = .ok (.invokevirtual 18, 3) := by decide +kernel
theorem dX5_makeWhole_8 : decode cX5_makeWhole 8 = .ok (.aload_n 0, 1) := by decide +kernel
theorem dX5_makeWhole_9 : decode cX5_makeWhole 9 = .ok (.iconst 1, 1) := by decide +kernel
theorem dX5_makeWhole_10 : decode cX5_makeWhole 10 = .ok (.iconst 0, 1) := by decide +kernel
theorem dX5_makeWhole_11 : decode cX5_makeWhole 11 = .ok (.iconst 2, 1) := by decide +kernel
theorem dX5_makeWhole_12 : decode cX5_makeWhole 12 = .ok (.invokevirtual 22, 3) := by decide +kernel
theorem dX5_makeWhole_15 : decode cX5_makeWhole 15 = .ok (.aload_n 0, 1) := by decide +kernel
theorem dX5_makeWhole_16 : decode cX5_makeWhole 16 = .ok (.iconst 1, 1) := by decide +kernel
theorem dX5_makeWhole_17 : decode cX5_makeWhole 17 = .ok (.iconst 2, 1) := by decide +kernel
theorem dX5_makeWhole_18 : decode cX5_makeWhole 18 = .ok (.iconst 2, 1) := by decide +kernel
theorem dX5_makeWhole_19 : decode cX5_makeWhole 19 = .ok (.invokevirtual 22, 3) := by decide +kernel
theorem dX5_makeWhole_22 : decode cX5_makeWhole 22 = .ok (.aload_n 0, 1) := by decide +kernel
theorem dX5_makeWhole_23 : decode cX5_makeWhole 23 = .ok (.iconst 1, 1) := by decide +kernel
theorem dX5_makeWhole_24 : decode cX5_makeWhole 24 = .ok (.iconst 4, 1) := by decide +kernel
theorem dX5_makeWhole_25 : decode cX5_makeWhole 25 = .ok (.iconst 1, 1) := by decide +kernel
theorem dX5_makeWhole_26 : decode cX5_makeWhole 26 = .ok (.invokevirtual 22, 3) := by decide +kernel
theorem dX5_makeWhole_29 : decode cX5_makeWhole 29 = .ok (.iconst 1, 1) := by decide +kernel
theorem dX5_makeWhole_30 : decode cX5_makeWhole 30 = .ok (.istore_n 1, 1) := by decide +kernel
theorem dX5_makeWhole_31 : decode cX5_makeWhole 31 = .ok (.iload_n 1, 1) := by decide +kernel
theorem dX5_makeWhole_32 : decode cX5_makeWhole 32 = .ok (.bipush 8, 2) := by decide +kernel
theorem dX5_makeWhole_34 : decode cX5_makeWhole 34 = .ok (.if_icmp .gt 16, 3) := by decide +kernel
theorem dX5_makeWhole_37 : decode cX5_makeWhole 37 = .ok (.aload_n 0, 1) := by decide +kernel
theorem dX5_makeWhole_38 : decode cX5_makeWhole 38 = .ok (.iconst 0, 1) := by decide +kernel
theorem dX5_makeWhole_39 : decode cX5_makeWhole 39 = .ok (.iload_n 1, 1) := by decide +kernel
theorem dX5_makeWhole_40 : decode cX5_makeWhole 40 = .ok (.iconst 1, 1) := by decide +kernel
theorem dX5_makeWhole_41 : decode cX5_makeWhole 41 = .ok (.invokevirtual 26, 3) := by decide +kernel
theorem dX5_makeWhole_44 : decode cX5_makeWhole 44 = .ok (.iinc 1 1, 3) := by decide +kernel
theorem dX5_makeWhole_47 : decode cX5_makeWhole 47 = .ok (.goto (-16), 3) := by decide +kernel
theorem dX5_makeWhole_50 : decode cX5_makeWhole 50 = .ok (.aload_n 0, 1) := by decide +kernel
theorem dX5_makeWhole_51 : decode cX5_makeWhole 51 = .ok (.iconst 1, 1) := by decide +kernel
theorem dX5_makeWhole_52 : decode cX5_makeWhole 52 = .ok (.iconst 1, 1) := by decide +kernel
theorem dX5_makeWhole_53 : decode cX5_makeWhole 53 = .ok (.iconst 1, 1) := by decide +kernel
theorem dX5_makeWhole_54 : decode cX5_makeWhole 54 = .ok (.invokevirtual 26, 3) := by decide +kernel
theorem dX5_makeWhole_57 : decode cX5_makeWhole 57 = .ok (.aload_n 0, 1) := by decide +kernel
theorem dX5_makeWhole_58 : decode cX5_makeWhole 58 = .ok (.iconst 0, 1) := by decide +kernel
theorem dX5_makeWhole_59 : decode cX5_makeWhole 59 = .ok (.sipush 192, 3) := by decide +kernel
theorem dX5_makeWhole_62 : decode cX5_makeWhole 62 = .ok (.invokevirtual 29, 3) := by decide +kernel
theorem dX5_makeWhole_65 : decode cX5_makeWhole 65 = .ok (.aload_n 0, 1) := by decide +kernel
theorem dX5_makeWhole_66 : decode cX5_makeWhole 66 = .ok (.iconst 1, 1) := by decide +kernel
theorem dX5_makeWhole_67 : decode cX5_makeWhole 67 = .ok (.bipush 23, 2) := by decide +kernel
theorem dX5_makeWhole_69 : decode cX5_makeWhole 69 = .ok (.invokevirtual 29, 3) := by decide +kernel
theorem dX5_makeWhole_72 : decode cX5_makeWhole 72 = .ok (.return_, 1) := by decide +kernel
theorem dX5_remember_0 : decode cX5_remember 0 = .ok (.aload_n 0, 1) := by decide +kernel
theorem dX5_remember_1 : decode cX5_remember 1 = .ok (.getfield 11, 3) := by decide +kernel
theorem dX5_remember_4 : decode cX5_remember 4 = .ok (.iconst 0, 1) := by decide +kernel
theorem dX5_remember_5 : decode cX5_remember 5 = .ok (.aload_n 0, 1) := by decide +kernel
theorem dX5_remember_6 : decode cX5_remember 6 = .ok (.getfield 15, 3) := by decide +kernel
theorem dX5_remember_9 : decode cX5_remember 9 = .ok (.iconst 0, 1) := by decide +kernel
theorem dX5_remember_10 : decode cX5_remember 10 = .ok (.sipush 1355, 3) := by decide +kernel
theorem dX5_remember_13 : decode cX5_remember 13 = .ok (.invokestatic 32, 3) := by decide +kernel
theorem dX5_remember_16 : decode cX5_remember 16 = .ok (.return_, 1) := by decide +kernel
theorem dX5_differFromMemory_0 : decode cX5_differFromMemory 0 = .ok (.iconst 0, 1) := by decide +kernel
theorem dX5_differFromMemory_1 : decode cX5_differFromMemory 1 = .ok (.istore_n 1, 1) := by decide +kernel
theorem dX5_differFromMemory_2 : decode cX5_differFromMemory 2 = .ok (.iload_n 1, 1) := by decide +kernel
theorem dX5_differFromMemory_3 : decode cX5_differFromMemory 3 = .ok (.sipush 1355, 3) := by decide +kernel
theorem dX5_differFromMemory_6 : decode cX5_differFromMemory 6 = .ok (.if_icmp .ge 26, 3) := by decide +kernel
theorem dX5_differFromMemory_9 : decode cX5_differFromMemory 9 = .ok (.aload_n 0, 1) := by decide +kernel
theorem dX5_differFromMemory_10 : decode cX5_differFromMemory 10 = .ok (.getfield 11, 3) := by decide +kernel
theorem dX5_differFromMemory_13 : decode cX5_differFromMemory 13 = .ok (.iload_n 1, 1) := by decide +kernel
theorem dX5_differFromMemory_14 : decode cX5_differFromMemory 14 = .ok (.iaload, 1) := by decide +kernel
theorem dX5_differFromMemory_15 : decode cX5_differFromMemory 15 = .ok (.aload_n 0, 1) := by decide +kernel
theorem dX5_differFromMemory_16 : decode cX5_differFromMemory 16 = .ok (.getfield 15, 3) := by decide +kernel
theorem dX5_differFromMemory_19 : decode cX5_differFromMemory 19 = .ok (.iload_n 1, 1) := by decide +kernel
theorem dX5_differFromMemory_20 : decode cX5_differFromMemory 20 = .ok (.iaload, 1) := by decide +kernel
theorem dX5_differFromMemory_21 : decode cX5_differFromMemory 21 = .ok (.if_icmp .eq 5, 3) := by decide +kernel
theorem dX5_differFromMemory_24 : decode cX5_differFromMemory 24 = .ok (.iconst 1, 1) := by decide +kernel
theorem dX5_differFromMemory_25 : decode cX5_differFromMemory 25 = .ok (.ireturn, 1) := by decide +kernel
theorem dX5_differFromMemory_26 : decode cX5_differFromMemory 26 = .ok (.iinc 1 1, 3) := by decide +kernel
theorem dX5_differFromMemory_29 : decode cX5_differFromMemory 29 = .ok (.goto (-27), 3) := by decide +kernel
theorem dX5_differFromMemory_32 : decode cX5_differFromMemory 32 = .ok (.iconst 0, 1) := by decide +kernel
theorem dX5_differFromMemory_33 : decode cX5_differFromMemory 33 = .ok (.ireturn, 1) := by decide +kernel
set_option maxRecDepth 20000 in
theorem ggX5_number_X5_fileCell : GoodIn wsX5_number wsX5_fileCell := goodIn_r _ [5] (by decide +kernel) (by decide +kernel)
set_option maxRecDepth 20000 in
theorem gX5_number_X5_fileCell : GoodIn wsX5_number (va_wsS RX5 38 yX5_fileCell wsX5_fileCell) := goodIn_app (goodIn_of _ (by decide +kernel)) ggX5_number_X5_fileCell
theorem dX5_number_0 : decode cX5_number 0 = .ok (.aload_n 0, 1) := by decide +kernel
theorem dX5_number_1 : decode cX5_number 1 = .ok (.getfield 11, 3) := by decide +kernel
theorem dX5_number_4 : decode cX5_number 4 = .ok (.iload_n 1, 1) := by decide +kernel
theorem dX5_number_5 : decode cX5_number 5 = .ok (.invokestatic 38, 3) := by decide +kernel
theorem dX5_number_8 : decode cX5_number 8 = .ok (.iload_n 2, 1) := by decide +kernel
theorem dX5_number_9 : decode cX5_number 9 = .ok (.iadd, 1) := by decide +kernel
theorem dX5_number_10 : decode cX5_number 10 = .ok (.iaload, 1) := by decide +kernel
theorem dX5_number_11 : decode cX5_number 11 = .ok (.ireturn, 1) := by decide +kernel
set_option maxRecDepth 20000 in
theorem ggX5_putNumber_X5_fileCell : GoodIn wsX5_putNumber wsX5_fileCell := goodIn_r _ [5] (by decide +kernel) (by decide +kernel)
set_option maxRecDepth 20000 in
theorem gX5_putNumber_X5_fileCell : GoodIn wsX5_putNumber (va_wsS RX5 38 yX5_fileCell wsX5_fileCell) := goodIn_app (goodIn_of _ (by decide +kernel)) ggX5_putNumber_X5_fileCell
theorem dX5_putNumber_0 : decode cX5_putNumber 0 = .ok (.aload_n 0, 1) := by decide +kernel
theorem dX5_putNumber_1 : decode cX5_putNumber 1 = .ok (.getfield 11, 3) := by decide +kernel
theorem dX5_putNumber_4 : decode cX5_putNumber 4 = .ok (.iload_n 1, 1) := by decide +kernel
theorem dX5_putNumber_5 : decode cX5_putNumber 5 = .ok (.invokestatic 38, 3) := by decide +kernel
theorem dX5_putNumber_8 : decode cX5_putNumber 8 = .ok (.iload_n 2, 1) := by decide +kernel
theorem dX5_putNumber_9 : decode cX5_putNumber 9 = .ok (.iadd, 1) := by decide +kernel
theorem dX5_putNumber_10 : decode cX5_putNumber 10 = .ok (.iload_n 3, 1) := by decide +kernel
theorem dX5_putNumber_11 : decode cX5_putNumber 11 = .ok (.iastore, 1) := by decide +kernel
theorem dX5_putNumber_12 : decode cX5_putNumber 12 = .ok (.return_, 1) := by decide +kernel
set_option maxRecDepth 20000 in
theorem ggX5_runPart_X5_runCell : GoodIn wsX5_runPart wsX5_runCell := goodIn_r _ [5] (by decide +kernel) (by decide +kernel)
set_option maxRecDepth 20000 in
theorem gX5_runPart_X5_runCell : GoodIn wsX5_runPart (va_wsS RX5 42 yX5_runCell wsX5_runCell) := goodIn_app (goodIn_of _ (by decide +kernel)) ggX5_runPart_X5_runCell
theorem dX5_runPart_0 : decode cX5_runPart 0 = .ok (.aload_n 0, 1) := by decide +kernel
theorem dX5_runPart_1 : decode cX5_runPart 1 = .ok (.getfield 11, 3) := by decide +kernel
theorem dX5_runPart_4 : decode cX5_runPart 4 = .ok (.iload_n 1, 1) := by decide +kernel
theorem dX5_runPart_5 : decode cX5_runPart 5 = .ok (.iload_n 2, 1) := by decide +kernel
theorem dX5_runPart_6 : decode cX5_runPart 6 = .ok (.invokestatic 42, 3) := by decide +kernel
theorem dX5_runPart_9 : decode cX5_runPart 9 = .ok (.iload_n 3, 1) := by decide +kernel
theorem dX5_runPart_10 : decode cX5_runPart 10 = .ok (.iadd, 1) := by decide +kernel
theorem dX5_runPart_11 : decode cX5_runPart 11 = .ok (.iaload, 1) := by decide +kernel
theorem dX5_runPart_12 : decode cX5_runPart 12 = .ok (.ireturn, 1) := by decide +kernel
set_option maxRecDepth 20000 in
theorem ggX5_putRun_X5_runCell : GoodIn wsX5_putRun wsX5_runCell := goodIn_r _ [5] (by decide +kernel) (by decide +kernel)
set_option maxRecDepth 20000 in
theorem gX5_putRun_X5_runCell : GoodIn wsX5_putRun (va_wsS RX5 42 yX5_runCell wsX5_runCell) := goodIn_app (goodIn_of _ (by decide +kernel)) ggX5_putRun_X5_runCell
theorem dX5_putRun_0 : decode cX5_putRun 0 = .ok (.iload_n 1, 1) := by decide +kernel
theorem dX5_putRun_1 : decode cX5_putRun 1 = .ok (.iload_n 2, 1) := by decide +kernel
theorem dX5_putRun_2 : decode cX5_putRun 2 = .ok (.invokestatic 42, 3) := by decide +kernel
theorem dX5_putRun_5 : decode cX5_putRun 5 = .ok (.istore 6, 2) := by decide +kernel
theorem dX5_putRun_7 : decode cX5_putRun 7 = .ok (.aload_n 0, 1) := by decide +kernel
theorem dX5_putRun_8 : decode cX5_putRun 8 = .ok (.getfield 11, 3) := by decide +kernel
theorem dX5_putRun_11 : decode cX5_putRun 11 = .ok (.iload 6, 2) := by decide +kernel
theorem dX5_putRun_13 : decode cX5_putRun 13 = .ok (.iconst 0, 1) := by decide +kernel
theorem dX5_putRun_14 : decode cX5_putRun 14 = .ok (.iadd, 1) := by decide +kernel
theorem dX5_putRun_15 : decode cX5_putRun 15 = .ok (.iload_n 3, 1) := by decide +kernel
theorem dX5_putRun_16 : decode cX5_putRun 16 = .ok (.iastore, 1) := by decide +kernel
theorem dX5_putRun_17 : decode cX5_putRun 17 = .ok (.aload_n 0, 1) := by decide +kernel
theorem dX5_putRun_18 : decode cX5_putRun 18 = .ok (.getfield 11, 3) := by decide +kernel
theorem dX5_putRun_21 : decode cX5_putRun 21 = .ok (.iload 6, 2) := by decide +kernel
theorem dX5_putRun_23 : decode cX5_putRun 23 = .ok (.iconst 1, 1) := by decide +kernel
theorem dX5_putRun_24 : decode cX5_putRun 24 = .ok (.iadd, 1) := by decide +kernel
theorem dX5_putRun_25 : decode cX5_putRun 25 = .ok (.iload 4, 2) := by decide +kernel
theorem dX5_putRun_27 : decode cX5_putRun 27 = .ok (.iastore, 1) := by decide +kernel
theorem dX5_putRun_28 : decode cX5_putRun 28 = .ok (.aload_n 0, 1) := by decide +kernel
theorem dX5_putRun_29 : decode cX5_putRun 29 = .ok (.getfield 11, 3) := by decide +kernel
theorem dX5_putRun_32 : decode cX5_putRun 32 = .ok (.iload 6, 2) := by decide +kernel
theorem dX5_putRun_34 : decode cX5_putRun 34 = .ok (.iconst 2, 1) := by decide +kernel
theorem dX5_putRun_35 : decode cX5_putRun 35 = .ok (.iadd, 1) := by decide +kernel
theorem dX5_putRun_36 : decode cX5_putRun 36 = .ok (.iload 5, 2) := by decide +kernel
theorem dX5_putRun_38 : decode cX5_putRun 38 = .ok (.iastore, 1) := by decide +kernel
theorem dX5_putRun_39 : decode cX5_putRun 39 = .ok (.return_, 1) := by decide +kernel
set_option maxRecDepth 20000 in
theorem ggX5_entryPart_X5_entryCell : GoodIn wsX5_entryPart wsX5_entryCell := goodIn_r _ [5] (by decide +kernel) (by decide +kernel)
set_option maxRecDepth 20000 in
theorem gX5_entryPart_X5_entryCell : GoodIn wsX5_entryPart (va_wsS RX5 46 yX5_entryCell wsX5_entryCell) := goodIn_app (goodIn_of _ (by decide +kernel)) ggX5_entryPart_X5_entryCell
theorem dX5_entryPart_0 : decode cX5_entryPart 0 = .ok (.aload_n 0, 1) := by decide +kernel
theorem dX5_entryPart_1 : decode cX5_entryPart 1 = .ok (.getfield 11, 3) := by decide +kernel
theorem dX5_entryPart_4 : decode cX5_entryPart 4 = .ok (.iload_n 1, 1) := by decide +kernel
theorem dX5_entryPart_5 : decode cX5_entryPart 5 = .ok (.iload_n 2, 1) := by decide +kernel
theorem dX5_entryPart_6 : decode cX5_entryPart 6 = .ok (.invokestatic 46, 3) := by decide +kernel
theorem dX5_entryPart_9 : decode cX5_entryPart 9 = .ok (.iload_n 3, 1) := by decide +kernel
theorem dX5_entryPart_10 : decode cX5_entryPart 10 = .ok (.iadd, 1) := by decide +kernel
theorem dX5_entryPart_11 : decode cX5_entryPart 11 = .ok (.iaload, 1) := by decide +kernel
theorem dX5_entryPart_12 : decode cX5_entryPart 12 = .ok (.ireturn, 1) := by decide +kernel
set_option maxRecDepth 20000 in
theorem ggX5_putEntry_X5_entryCell : GoodIn wsX5_putEntry wsX5_entryCell := goodIn_r _ [5] (by decide +kernel) (by decide +kernel)
set_option maxRecDepth 20000 in
theorem gX5_putEntry_X5_entryCell : GoodIn wsX5_putEntry (va_wsS RX5 46 yX5_entryCell wsX5_entryCell) := goodIn_app (goodIn_of _ (by decide +kernel)) ggX5_putEntry_X5_entryCell
theorem dX5_putEntry_0 : decode cX5_putEntry 0 = .ok (.iload_n 1, 1) := by decide +kernel
theorem dX5_putEntry_1 : decode cX5_putEntry 1 = .ok (.iload_n 2, 1) := by decide +kernel
theorem dX5_putEntry_2 : decode cX5_putEntry 2 = .ok (.invokestatic 46, 3) := by decide +kernel
theorem dX5_putEntry_5 : decode cX5_putEntry 5 = .ok (.istore 6, 2) := by decide +kernel
theorem dX5_putEntry_7 : decode cX5_putEntry 7 = .ok (.aload_n 0, 1) := by decide +kernel
theorem dX5_putEntry_8 : decode cX5_putEntry 8 = .ok (.getfield 11, 3) := by decide +kernel
theorem dX5_putEntry_11 : decode cX5_putEntry 11 = .ok (.iload 6, 2) := by decide +kernel
theorem dX5_putEntry_13 : decode cX5_putEntry 13 = .ok (.iconst 0, 1) := by decide +kernel
theorem dX5_putEntry_14 : decode cX5_putEntry 14 = .ok (.iadd, 1) := by decide +kernel
theorem dX5_putEntry_15 : decode cX5_putEntry 15 = .ok (.iload_n 3, 1) := by decide +kernel
theorem dX5_putEntry_16 : decode cX5_putEntry 16 = .ok (.iastore, 1) := by decide +kernel
theorem dX5_putEntry_17 : decode cX5_putEntry 17 = .ok (.aload_n 0, 1) := by decide +kernel
theorem dX5_putEntry_18 : decode cX5_putEntry 18 = .ok (.getfield 11, 3) := by decide +kernel
theorem dX5_putEntry_21 : decode cX5_putEntry 21 = .ok (.iload 6, 2) := by decide +kernel
