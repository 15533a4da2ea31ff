theorem dX0_mend_22 : decode cX0_mend 22 = .ok (.iconst 0, 1) := by decide +kernel
theorem dX0_mend_23 : decode cX0_mend 23 = .ok (.invokevirtual 9, 3) := by decide +kernel
theorem dX0_mend_26 : decode cX0_mend 26 = .ok (.iinc 1 1, 3) := by decide +kernel
theorem dX0_mend_29 : decode cX0_mend 29 = .ok (.goto (-27), 3) := by decide +kernel
theorem dX0_mend_32 : decode cX0_mend 32 = .ok (.iconst 1, 1) := by decide +kernel
theorem dX0_mend_33 : decode cX0_mend 33 = .ok (.istore_n 1, 1) := by decide +kernel
theorem dX0_mend_34 : decode cX0_mend 34 = .ok (.iload_n 1, 1) := by decide +kernel
theorem dX0_mend_35 : decode cX0_mend 35 = .ok (.bipush 24, 2) := by decide +kernel
theorem dX0_mend_37 : decode cX0_mend 37 = .ok (.if_icmp .gt 61, 3) := by decide +kernel
theorem dX0_mend_40 : decode cX0_mend 40 = .ok (.aload_n 0, 1) := by decide +kernel
theorem dX0_mend_41 : decode cX0_mend 41 = .ok (.iconst 1, 1) := by decide +kernel
theorem dX0_mend_42 : decode cX0_mend 42 = .ok (.iload_n 1, 1) := by decide +kernel
theorem dX0_mend_43 : decode cX0_mend 43 = .ok (.aload_n 0, 1) := by decide +kernel
theorem dX0_mend_44 : decode cX0_mend 44 = .ok (.iload_n 1, 1) := by decide +kernel
theorem dX0_mend_45 : decode cX0_mend 45 = .ok (.iconst 0, 1) := by decide +kernel
theorem dX0_mend_46 : decode cX0_mend 46 = .ok (.invokevirtual 15, 3) := by decide +kernel
theorem dX0_mend_49 : decode cX0_mend 49 = .ok (.ifCond .eq 7, 3) := by decide +kernel
theorem dX0_mend_52 : decode cX0_mend 52 = .ok (.iconst 1, 1) := by decide +kernel
theorem dX0_mend_53 : decode cX0_mend 53 = .ok (.goto 4, 3) := by decide +kernel
theorem dX0_mend_56 : decode cX0_mend 56 = .ok (.iconst 0, 1) := by decide +kernel
theorem dX0_mend_57 : decode cX0_mend 57 = .ok (.invokevirtual 9, 3) := by decide +kernel
theorem dX0_mend_60 : decode cX0_mend 60 = .ok (.iconst 0, 1) := by decide +kernel
theorem dX0_mend_61 : decode cX0_mend 61 = .ok (.istore_n 2, 1) := by decide +kernel
theorem dX0_mend_62 : decode cX0_mend 62 = .ok (.iload_n 2, 1) := by decide +kernel
theorem dX0_mend_63 : decode cX0_mend 63 = .ok (.bipush 6, 2) := by decide +kernel
theorem dX0_mend_65 : decode cX0_mend 65 = .ok (.if_icmp .ge 27, 3) := by decide +kernel
theorem dX0_mend_68 : decode cX0_mend 68 = .ok (.aload_n 0, 1) := by decide +kernel
theorem dX0_mend_69 : decode cX0_mend 69 = .ok (.aload_n 0, 1) := by decide +kernel
theorem dX0_mend_70 : decode cX0_mend 70 = .ok (.iload_n 1, 1) := by decide +kernel
theorem dX0_mend_71 : decode cX0_mend 71 = .ok (.iload_n 2, 1) := by decide +kernel
theorem dX0_mend_72 : decode cX0_mend 72 = .ok (.iconst 2, 1) := by decide +kernel
theorem dX0_mend_73 : decode cX0_mend 73 = .ok (.invokevirtual 19, 3) := by decide +kernel
theorem dX0_mend_76 : decode cX0_mend 76 = .ok (.aload_n 0, 1) := by decide +kernel
theorem dX0_mend_77 : decode cX0_mend 77 = .ok (.iload_n 1, 1) := by decide +kernel
theorem dX0_mend_78 : decode cX0_mend 78 = .ok (.iload_n 2, 1) := by decide +kernel
theorem dX0_mend_79 : decode cX0_mend 79 = .ok (.iconst 1, 1) := by decide +kernel
theorem dX0_mend_80 : decode cX0_mend 80 = .ok (.invokevirtual 19, 3) := by decide +kernel
theorem dX0_mend_83 : decode cX0_mend 83 = .ok (.invokestatic 23, 3) := by decide +kernel
theorem dX0_mend_86 : decode cX0_mend 86 = .ok (.iinc 2 1, 3) := by decide +kernel
theorem dX0_mend_89 : decode cX0_mend 89 = .ok (.goto (-27), 3) := by decide +kernel
theorem dX0_mend_92 : decode cX0_mend 92 = .ok (.iinc 1 1, 3) := by decide +kernel
theorem dX0_mend_95 : decode cX0_mend 95 = .ok (.goto (-61), 3) := by decide +kernel
theorem dX0_mend_98 : decode cX0_mend 98 = .ok (.aload_n 0, 1) := by decide +kernel
theorem dX0_mend_99 : decode cX0_mend 99 = .ok (.iconst 0, 1) := by decide +kernel
theorem dX0_mend_100 : decode cX0_mend 100 = .ok (.aload_n 0, 1) := by decide +kernel
theorem dX0_mend_101 : decode cX0_mend 101 = .ok (.iconst 0, 1) := by decide +kernel
theorem dX0_mend_102 : decode cX0_mend 102 = .ok (.sipush 200, 3) := by decide +kernel
theorem dX0_mend_105 : decode cX0_mend 105 = .ok (.invokestatic 29, 3) := by decide +kernel
theorem dX0_mend_108 : decode cX0_mend 108 = .ok (.invokevirtual 33, 3) := by decide +kernel
theorem dX0_mend_111 : decode cX0_mend 111 = .ok (.aload_n 0, 1) := by decide +kernel
theorem dX0_mend_112 : decode cX0_mend 112 = .ok (.iconst 1, 1) := by decide +kernel
theorem dX0_mend_113 : decode cX0_mend 113 = .ok (.aload_n 0, 1) := by decide +kernel
theorem dX0_mend_114 : decode cX0_mend 114 = .ok (.iconst 1, 1) := by decide +kernel
theorem dX0_mend_115 : decode cX0_mend 115 = .ok (.bipush 24, 2) := by decide +kernel
theorem dX0_mend_117 : decode cX0_mend 117 = .ok (.invokestatic 29, 3) := by decide +kernel
theorem dX0_mend_120 : decode cX0_mend 120 = .ok (.invokevirtual 33, 3) := by decide +kernel
theorem dX0_mend_123 : decode cX0_mend 123 = .ok (.return_, 1) := by decide +kernel
set_option maxRecDepth 20000 in
theorem ggX0_takeBlocks_X5_putBit : GoodIn wsX0_takeBlocks wsX5_putBit := goodIn_r _ [5, 6, 7, 8, 4, 9, 10, 11] (by decide +kernel) (by decide +kernel)
set_option maxRecDepth 20000 in
theorem gX0_takeBlocks_X5_putBit : GoodIn wsX0_takeBlocks (wsV RX0 9 RX5 yX5_putBit wsX5_putBit) := goodIn_app (goodIn_of _ (by decide +kernel)) ggX0_takeBlocks_X5_putBit
theorem dX0_takeBlocks_0 : decode cX0_takeBlocks 0 = .ok (.iconst 0, 1) := by decide +kernel
theorem dX0_takeBlocks_1 : decode cX0_takeBlocks 1 = .ok (.istore_n 3, 1) := by decide +kernel
theorem dX0_takeBlocks_2 : decode cX0_takeBlocks 2 = .ok (.iload_n 3, 1) := by decide +kernel
theorem dX0_takeBlocks_3 : decode cX0_takeBlocks 3 = .ok (.iload_n 2, 1) := by decide +kernel
theorem dX0_takeBlocks_4 : decode cX0_takeBlocks 4 = .ok (.if_icmp .ge 42, 3) := by decide +kernel
theorem dX0_takeBlocks_7 : decode cX0_takeBlocks 7 = .ok (.iload_n 3, 1) := by decide +kernel
theorem dX0_takeBlocks_8 : decode cX0_takeBlocks 8 = .ok (.bipush 64, 2) := by decide +kernel
theorem dX0_takeBlocks_10 : decode cX0_takeBlocks 10 = .ok (.if_icmp .ge 36, 3) := by decide +kernel
theorem dX0_takeBlocks_13 : decode cX0_takeBlocks 13 = .ok (.iload_n 1, 1) := by decide +kernel
theorem dX0_takeBlocks_14 : decode cX0_takeBlocks 14 = .ok (.iload_n 3, 1) := by decide +kernel
theorem dX0_takeBlocks_15 : decode cX0_takeBlocks 15 = .ok (.iadd, 1) := by decide +kernel
theorem dX0_takeBlocks_16 : decode cX0_takeBlocks 16 = .ok (.istore 4, 2) := by decide +kernel
theorem dX0_takeBlocks_18 : decode cX0_takeBlocks 18 = .ok (.iload 4, 2) := by decide +kernel
theorem dX0_takeBlocks_20 : decode cX0_takeBlocks 20 = .ok (.iconst 1, 1) := by decide +kernel
theorem dX0_takeBlocks_21 : decode cX0_takeBlocks 21 = .ok (.if_icmp .lt 19, 3) := by decide +kernel
theorem dX0_takeBlocks_24 : decode cX0_takeBlocks 24 = .ok (.iload 4, 2) := by decide +kernel
theorem dX0_takeBlocks_26 : decode cX0_takeBlocks 26 = .ok (.sipush 200, 3) := by decide +kernel
theorem dX0_takeBlocks_29 : decode cX0_takeBlocks 29 = .ok (.if_icmp .gt 11, 3) := by decide +kernel
theorem dX0_takeBlocks_32 : decode cX0_takeBlocks 32 = .ok (.aload_n 0, 1) := by decide +kernel
theorem dX0_takeBlocks_33 : decode cX0_takeBlocks 33 = .ok (.iconst 0, 1) := by decide +kernel
theorem dX0_takeBlocks_34 : decode cX0_takeBlocks 34 = .ok (.iload 4, 2) := by decide +kernel
theorem dX0_takeBlocks_36 : decode cX0_takeBlocks 36 = .ok (.iconst 1, 1) := by decide +kernel
theorem dX0_takeBlocks_37 : decode cX0_takeBlocks 37 = .ok (.invokevirtual 9, 3) := by decide +kernel
theorem dX0_takeBlocks_40 : decode cX0_takeBlocks 40 = .ok (.iinc 3 1, 3) := by decide +kernel
theorem dX0_takeBlocks_43 : decode cX0_takeBlocks 43 = .ok (.goto (-41), 3) := by decide +kernel
theorem dX0_takeBlocks_46 : decode cX0_takeBlocks 46 = .ok (.return_, 1) := by decide +kernel
set_option maxRecDepth 20000 in
theorem ggX0_countFree_X5_bitOf : GoodIn wsX0_countFree wsX5_bitOf := goodIn_r _ [5, 6, 7, 8, 4, 9, 10, 11] (by decide +kernel) (by decide +kernel)
set_option maxRecDepth 20000 in
theorem gX0_countFree_X5_bitOf : GoodIn wsX0_countFree (wsV RX0 37 RX5 yX5_bitOf wsX5_bitOf) := goodIn_app (goodIn_of _ (by decide +kernel)) ggX0_countFree_X5_bitOf
theorem dX0_countFree_0 : decode cX0_countFree 0 = .ok (.iconst 0, 1) := by decide +kernel
theorem dX0_countFree_1 : decode cX0_countFree 1 = .ok (.istore_n 3, 1) := by decide +kernel
theorem dX0_countFree_2 : decode cX0_countFree 2 = .ok (.iconst 1, 1) := by decide +kernel
theorem dX0_countFree_3 : decode cX0_countFree 3 = .ok (.istore 4, 2) := by decide +kernel
theorem dX0_countFree_5 : decode cX0_countFree 5 = .ok (.iload 4, 2) := by decide +kernel
theorem dX0_countFree_7 : decode cX0_countFree 7 = .ok (.iload_n 2, 1) := by decide +kernel
theorem dX0_countFree_8 : decode cX0_countFree 8 = .ok (.if_icmp .gt 22, 3) := by decide +kernel
theorem dX0_countFree_11 : decode cX0_countFree 11 = .ok (.aload_n 0, 1) := by decide +kernel
theorem dX0_countFree_12 : decode cX0_countFree 12 = .ok (.iload_n 1, 1) := by decide +kernel
theorem dX0_countFree_13 : decode cX0_countFree 13 = .ok (.iload 4, 2) := by decide +kernel
theorem dX0_countFree_15 : decode cX0_countFree 15 = .ok (.invokevirtual 37, 3) := by decide +kernel
theorem dX0_countFree_18 : decode cX0_countFree 18 = .ok (.ifCond .ne 6, 3) := by decide +kernel
theorem dX0_countFree_21 : decode cX0_countFree 21 = .ok (.iinc 3 1, 3) := by decide +kernel
theorem dX0_countFree_24 : decode cX0_countFree 24 = .ok (.iinc 4 1, 3) := by decide +kernel
theorem dX0_countFree_27 : decode cX0_countFree 27 = .ok (.goto (-22), 3) := by decide +kernel
theorem dX0_countFree_30 : decode cX0_countFree 30 = .ok (.iload_n 3, 1) := by decide +kernel
theorem dX0_countFree_31 : decode cX0_countFree 31 = .ok (.ireturn, 1) := by decide +kernel
theorem dX1_init_0 : decode cX1_init 0 = .ok (.aload_n 0, 1) := by decide +kernel
theorem dX1_init_1 : decode cX1_init 1 = .ok (.invokespecial 3, 3) := by decide +kernel
theorem dX1_init_4 : decode cX1_init 4 = .ok (.aload_n 0, 1) := by decide +kernel
theorem dX1_init_5 : decode cX1_init 5 = .ok (.bipush 25, 2) := by decide +kernel
theorem dX1_init_7 : decode cX1_init 7 = .ok (.newarray .boolean, 2) := by decide +kernel
theorem dX1_init_9 : decode cX1_init 9 = .ok (.putfield 9, 3) := by decide +kernel
theorem dX1_init_12 : decode cX1_init 12 = .ok (.return_, 1) := by decide +kernel
set_option maxRecDepth 20000 in
theorem ggX1_mend_X7_unmark : GoodIn wsX1_mend wsX7_unmark := goodIn_r _ [4] (by decide +kernel) (by decide +kernel)
set_option maxRecDepth 20000 in
theorem gX1_mend_X7_unmark_n15 : GoodIn wsX1_mend (wsX7_unmark) := ggX1_mend_X7_unmark
set_option maxRecDepth 20000 in
theorem ggX1_mend_X5_number : GoodIn wsX1_mend wsX5_number := goodIn_r _ [9, 10, 11, 12, 8, 13, 53, 54] (by decide +kernel) (by decide +kernel)
set_option maxRecDepth 20000 in
theorem gX1_mend_X5_number : GoodIn wsX1_mend (wsV RX1 19 RX5 yX5_number wsX5_number) := goodIn_app (goodIn_of _ (by decide +kernel)) ggX1_mend_X5_number
set_option maxRecDepth 20000 in
theorem ggX1_mend_X1_mendFolder : GoodIn wsX1_mend wsX1_mendFolder := goodIn_r _ [18, 1, 19, 20, 21, 8, 22, 10, 23, 24, 25, 26, 27, 17, 28, 29, 30, 31, 32, 33, 34, 35, 36, 37, 38, 3, 39, 5, 6, 7, 9, 11, 12, 13, 40, 41, 42, 43, 44, 45, 46, 47, 48, 49, 50, 51, 52, 53, 54] (by decide +kernel) (by decide +kernel)
set_option maxRecDepth 20000 in
theorem gX1_mend_X1_mendFolder : GoodIn wsX1_mend (wsV RX1 25 RX1 yX1_mendFolder wsX1_mendFolder) := goodIn_app (goodIn_of _ (by decide +kernel)) ggX1_mend_X1_mendFolder
theorem dX1_mend_0 : decode cX1_mend 0 = .ok (.aload_n 0, 1) := by decide +kernel
theorem dX1_mend_1 : decode cX1_mend 1 = .ok (.getfield 9, 3) := by decide +kernel
theorem dX1_mend_4 : decode cX1_mend 4 = .ok (.invokestatic 15, 3) := by decide +kernel
theorem dX1_mend_7 : decode cX1_mend 7 = .ok (.iconst 1, 1) := by decide +kernel
theorem dX1_mend_8 : decode cX1_mend 8 = .ok (.istore_n 2, 1) := by decide +kernel
theorem dX1_mend_9 : decode cX1_mend 9 = .ok (.iload_n 2, 1) := by decide +kernel
theorem dX1_mend_10 : decode cX1_mend 10 = .ok (.bipush 24, 2) := by decide +kernel
theorem dX1_mend_12 : decode cX1_mend 12 = .ok (.if_icmp .gt 25, 3) := by decide +kernel
theorem dX1_mend_15 : decode cX1_mend 15 = .ok (.aload_n 1, 1) := by decide +kernel
theorem dX1_mend_16 : decode cX1_mend 16 = .ok (.iload_n 2, 1) := by decide +kernel
theorem dX1_mend_17 : decode cX1_mend 17 = .ok (.iconst 0, 1) := by decide +kernel
theorem dX1_mend_18 : decode cX1_mend 18 = .ok (.invokevirtual 19, 3) := by decide +kernel
theorem dX1_mend_21 : decode cX1_mend 21 = .ok (.iconst 2, 1) := by decide +kernel
theorem dX1_mend_22 : decode cX1_mend 22 = .ok (.if_icmp .ne 9, 3) := by decide +kernel
theorem dX1_mend_25 : decode cX1_mend 25 = .ok (.aload_n 0, 1) := by decide +kernel
theorem dX1_mend_26 : decode cX1_mend 26 = .ok (.aload_n 1, 1) := by decide +kernel
theorem dX1_mend_27 : decode cX1_mend 27 = .ok (.iload_n 2, 1) := by decide +kernel
theorem dX1_mend_28 : decode cX1_mend 28 = .ok (.invokevirtual 25, 3) := by decide +kernel
theorem dX1_mend_31 : decode cX1_mend 31 = .ok (.iinc 2 1, 3) := by decide +kernel
theorem dX1_mend_34 : decode cX1_mend 34 = .ok (.goto (-25), 3) := by decide +kernel
theorem dX1_mend_37 : decode cX1_mend 37 = .ok (.return_, 1) := by decide +kernel
set_option maxRecDepth 20000 in
theorem ggX1_mendFolder_X5_entryPart : GoodIn wsX1_mendFolder wsX5_entryPart := goodIn_r _ [6, 7, 8, 9, 5, 10, 47, 48] (by decide +kernel) (by decide +kernel)
set_option maxRecDepth 20000 in
theorem gX1_mendFolder_X5_entryPart : GoodIn wsX1_mendFolder (wsV RX1 29 RX5 yX5_entryPart wsX5_entryPart) := goodIn_app (goodIn_of _ (by decide +kernel)) ggX1_mendFolder_X5_entryPart
set_option maxRecDepth 20000 in
theorem ggX1_mendFolder_X1_isNameRight : GoodIn wsX1_mendFolder wsX1_isNameRight := goodIn_r _ [14, 15, 16, 17, 5, 18, 19, 3, 4, 6, 7, 8, 9, 10, 47, 48] (by decide +kernel) (by decide +kernel)
set_option maxRecDepth 20000 in
theorem gX1_mendFolder_X1_isNameRight : GoodIn wsX1_mendFolder (va_wsS RX1 33 yX1_isNameRight wsX1_isNameRight) := goodIn_app (goodIn_of _ (by decide +kernel)) ggX1_mendFolder_X1_isNameRight
set_option maxRecDepth 20000 in
theorem ggX1_mendFolder_X1_mayLeadTo : GoodIn wsX1_mendFolder wsX1_mayLeadTo := goodIn_r _ [23, 1, 24, 25, 26, 27, 28, 29, 5, 30, 7, 31, 32, 33, 46, 47, 48] (by decide +kernel) (by decide +kernel)
set_option maxRecDepth 20000 in
theorem gX1_mendFolder_X1_mayLeadTo : GoodIn wsX1_mendFolder (wsV RX1 37 RX1 yX1_mayLeadTo wsX1_mayLeadTo) := goodIn_app (goodIn_of _ (by decide +kernel)) ggX1_mendFolder_X1_mayLeadTo
set_option maxRecDepth 20000 in
theorem ggX1_mendFolder_X5_number : GoodIn wsX1_mendFolder wsX5_number := goodIn_r _ [30, 7, 31, 32, 5, 33, 47, 48] (by decide +kernel) (by decide +kernel)
set_option maxRecDepth 20000 in
theorem gX1_mendFolder_X5_number : GoodIn wsX1_mendFolder (wsV RX1 19 RX5 yX5_number wsX5_number) := goodIn_app (goodIn_of _ (by decide +kernel)) ggX1_mendFolder_X5_number
set_option maxRecDepth 20000 in
theorem ggX1_mendFolder_X5_putEntry : GoodIn wsX1_mendFolder wsX5_putEntry := goodIn_r _ [37, 7, 8, 9, 5, 10, 47, 48] (by decide +kernel) (by decide +kernel)
set_option maxRecDepth 20000 in
theorem gX1_mendFolder_X5_putEntry : GoodIn wsX1_mendFolder (wsV RX1 41 RX5 yX5_putEntry wsX5_putEntry) := goodIn_app (goodIn_of _ (by decide +kernel)) ggX1_mendFolder_X5_putEntry
set_option maxRecDepth 20000 in
theorem ggX1_mendFolder_X5_wipeEntriesFrom : GoodIn wsX1_mendFolder wsX5_wipeEntriesFrom := goodIn_r _ [41, 8, 9, 5, 10, 42, 43, 44, 45, 7, 47, 48] (by decide +kernel) (by decide +kernel)
set_option maxRecDepth 20000 in
theorem gX1_mendFolder_X5_wipeEntriesFrom : GoodIn wsX1_mendFolder (wsV RX1 45 RX5 yX5_wipeEntriesFrom wsX5_wipeEntriesFrom) := goodIn_app (goodIn_of _ (by decide +kernel)) ggX1_mendFolder_X5_wipeEntriesFrom
theorem dX1_mendFolder_0 : decode cX1_mendFolder 0 = .ok (.iconst 0, 1) := by decide +kernel
theorem dX1_mendFolder_1 : decode cX1_mendFolder 1 = .ok (.istore_n 3, 1) := by decide +kernel
theorem dX1_mendFolder_2 : decode cX1_mendFolder 2 = .ok (.iconst 0, 1) := by decide +kernel
theorem dX1_mendFolder_3 : decode cX1_mendFolder 3 = .ok (.istore 4, 2) := by decide +kernel
theorem dX1_mendFolder_5 : decode cX1_mendFolder 5 = .ok (.iload 4, 2) := by decide +kernel
theorem dX1_mendFolder_7 : decode cX1_mendFolder 7 = .ok (.bipush 8, 2) := by decide +kernel
theorem dX1_mendFolder_9 : decode cX1_mendFolder 9 = .ok (.if_icmp .ge 78, 3) := by decide +kernel
theorem dX1_mendFolder_12 : decode cX1_mendFolder 12 = .ok (.aload_n 1, 1) := by decide +kernel
theorem dX1_mendFolder_13 : decode cX1_mendFolder 13 = .ok (.iload_n 2, 1) := by decide +kernel
theorem dX1_mendFolder_14 : decode cX1_mendFolder 14 = .ok (.iload 4, 2) := by decide +kernel
theorem dX1_mendFolder_16 : decode cX1_mendFolder 16 = .ok (.iconst 0, 1) := by decide +kernel
theorem dX1_mendFolder_17 : decode cX1_mendFolder 17 = .ok (.invokevirtual 29, 3) := by decide +kernel
theorem dX1_mendFolder_20 : decode cX1_mendFolder 20 = .ok (.istore 5, 2) := by decide +kernel
theorem dX1_mendFolder_22 : decode cX1_mendFolder 22 = .ok (.aload_n 1, 1) := by decide +kernel
theorem dX1_mendFolder_23 : decode cX1_mendFolder 23 = .ok (.iload_n 2, 1) := by decide +kernel
theorem dX1_mendFolder_24 : decode cX1_mendFolder 24 = .ok (.iload 4, 2) := by decide +kernel
theorem dX1_mendFolder_26 : decode cX1_mendFolder 26 = .ok (.iconst 1, 1) := by decide +kernel
theorem dX1_mendFolder_27 : decode cX1_mendFolder 27 = .ok (.invokevirtual 29, 3) := by decide +kernel
theorem dX1_mendFolder_30 : decode cX1_mendFolder 30 = .ok (.istore 6, 2) := by decide +kernel
theorem dX1_mendFolder_32 : decode cX1_mendFolder 32 = .ok (.aload_n 1, 1) := by decide +kernel
theorem dX1_mendFolder_33 : decode cX1_mendFolder 33 = .ok (.iload_n 2, 1) := by decide +kernel
theorem dX1_mendFolder_34 : decode cX1_mendFolder 34 = .ok (.iload_n 3, 1) := by decide +kernel
theorem dX1_mendFolder_35 : decode cX1_mendFolder 35 = .ok (.iload 5, 2) := by decide +kernel
theorem dX1_mendFolder_37 : decode cX1_mendFolder 37 = .ok (.invokestatic 33, 3) := by decide +kernel
theorem dX1_mendFolder_40 : decode cX1_mendFolder 40 = .ok (.ifCond .eq 41, 3) := by decide +kernel
theorem dX1_mendFolder_43 : decode cX1_mendFolder 43 = .ok (.aload_n 0, 1) := by decide +kernel
theorem dX1_mendFolder_44 : decode cX1_mendFolder 44 = .ok (.aload_n 1, 1) := by decide +kernel
theorem dX1_mendFolder_45 : decode cX1_mendFolder 45 = .ok (.iload 6, 2) := by decide +kernel
theorem dX1_mendFolder_47 : decode cX1_mendFolder 47 = .ok (.invokevirtual 37, 3) := by decide +kernel
theorem dX1_mendFolder_50 : decode cX1_mendFolder 50 = .ok (.ifCond .eq 31, 3) := by decide +kernel
theorem dX1_mendFolder_53 : decode cX1_mendFolder 53 = .ok (.aload_n 0, 1) := by decide +kernel
theorem dX1_mendFolder_54 : decode cX1_mendFolder 54 = .ok (.getfield 9, 3) := by decide +kernel
theorem dX1_mendFolder_57 : decode cX1_mendFolder 57 = .ok (.iload 6, 2) := by decide +kernel
theorem dX1_mendFolder_59 : decode cX1_mendFolder 59 = .ok (.iconst 1, 1) := by decide +kernel
theorem dX1_mendFolder_60 : decode cX1_mendFolder 60 = .ok (.bastore, 1) := by decide +kernel
theorem dX1_mendFolder_61 : decode cX1_mendFolder 61 = .ok (.aload_n 1, 1) := by decide +kernel
theorem dX1_mendFolder_62 : decode cX1_mendFolder 62 = .ok (.iload_n 2, 1) := by decide +kernel
theorem dX1_mendFolder_63 : decode cX1_mendFolder 63 = .ok (.iload_n 3, 1) := by decide +kernel
theorem dX1_mendFolder_64 : decode cX1_mendFolder 64 = .ok (.iload 5, 2) := by decide +kernel
theorem dX1_mendFolder_66 : decode cX1_mendFolder 66 = .ok (.iload 6, 2) := by decide +kernel
theorem dX1_mendFolder_68 : decode cX1_mendFolder 68 = .ok (.aload_n 1, 1) := by decide +kernel
theorem dX1_mendFolder_69 : decode cX1_mendFolder 69 = .ok (.iload 6, 2) := by decide +kernel
theorem dX1_mendFolder_71 : decode cX1_mendFolder 71 = .ok (.iconst 0, 1) := by decide +kernel
theorem dX1_mendFolder_72 : decode cX1_mendFolder 72 = .ok (.invokevirtual 19, 3) := by decide +kernel
theorem dX1_mendFolder_75 : decode cX1_mendFolder 75 = .ok (.invokevirtual 41, 3) := by decide +kernel
theorem dX1_mendFolder_78 : decode cX1_mendFolder 78 = .ok (.iinc 3 1, 3) := by decide +kernel
theorem dX1_mendFolder_81 : decode cX1_mendFolder 81 = .ok (.iinc 4 1, 3) := by decide +kernel
theorem dX1_mendFolder_84 : decode cX1_mendFolder 84 = .ok (.goto (-79), 3) := by decide +kernel
theorem dX1_mendFolder_87 : decode cX1_mendFolder 87 = .ok (.aload_n 1, 1) := by decide +kernel
theorem dX1_mendFolder_88 : decode cX1_mendFolder 88 = .ok (.iload_n 2, 1) := by decide +kernel
theorem dX1_mendFolder_89 : decode cX1_mendFolder 89 = .ok (.iload_n 3, 1) := by decide +kernel
theorem dX1_mendFolder_90 : decode cX1_mendFolder 90 = .ok (.invokevirtual 45, 3) := by decide +kernel
theorem dX1_mendFolder_93 : decode cX1_mendFolder 93 = .ok (.return_, 1) := by decide +kernel
set_option maxRecDepth 20000 in
theorem ggX1_isNameRight_X5_placeOfName : GoodIn wsX1_isNameRight wsX5_placeOfName := goodIn_r _ [5, 6, 7, 8, 4, 9, 10, 11, 12, 13, 14, 15] (by decide +kernel) (by decide +kernel)
set_option maxRecDepth 20000 in
theorem gX1_isNameRight_X5_placeOfName : GoodIn wsX1_isNameRight (wsV RX1 49 RX5 yX5_placeOfName wsX5_placeOfName) := goodIn_app (goodIn_of _ (by decide +kernel)) ggX1_isNameRight_X5_placeOfName
theorem dX1_isNameRight_0 : decode cX1_isNameRight 0 = .ok (.iload_n 3, 1) := by decide +kernel
theorem dX1_isNameRight_1 : decode cX1_isNameRight 1 = .ok (.iconst 1, 1) := by decide +kernel
theorem dX1_isNameRight_2 : decode cX1_isNameRight 2 = .ok (.if_icmp .lt 25, 3) := by decide +kernel
theorem dX1_isNameRight_5 : decode cX1_isNameRight 5 = .ok (.iload_n 3, 1) := by decide +kernel
theorem dX1_isNameRight_6 : decode cX1_isNameRight 6 = .ok (.sipush 255, 3) := by decide +kernel
theorem dX1_isNameRight_9 : decode cX1_isNameRight 9 = .ok (.if_icmp .gt 18, 3) := by decide +kernel
theorem dX1_isNameRight_12 : decode cX1_isNameRight 12 = .ok (.aload_n 0, 1) := by decide +kernel
theorem dX1_isNameRight_13 : decode cX1_isNameRight 13 = .ok (.iload_n 1, 1) := by decide +kernel
theorem dX1_isNameRight_14 : decode cX1_isNameRight 14 = .ok (.iload_n 2, 1) := by decide +kernel
theorem dX1_isNameRight_15 : decode cX1_isNameRight 15 = .ok (.iload_n 3, 1) := by decide +kernel
theorem dX1_isNameRight_16 : decode cX1_isNameRight 16 = .ok (.invokevirtual 49, 3) := by decide +kernel
theorem dX1_isNameRight_19 : decode cX1_isNameRight 19 = .ok (.iload_n 2, 1) := by decide +kernel
theorem dX1_isNameRight_20 : decode cX1_isNameRight 20 = .ok (.if_icmp .ne 7, 3) := by decide +kernel
theorem dX1_isNameRight_23 : decode cX1_isNameRight 23 = .ok (.iconst 1, 1) := by decide +kernel
theorem dX1_isNameRight_24 : decode cX1_isNameRight 24 = .ok (.goto 4, 3) := by decide +kernel
theorem dX1_isNameRight_27 : decode cX1_isNameRight 27 = .ok (.iconst 0, 1) := by decide +kernel
theorem dX1_isNameRight_28 : decode cX1_isNameRight 28 = .ok (.ireturn, 1) := by decide +kernel
set_option maxRecDepth 20000 in
theorem ggX1_mayLeadTo_X7_isFile : GoodIn wsX1_mayLeadTo wsX7_isFile := goodIn_r _ [4] (by decide +kernel) (by decide +kernel)
set_option maxRecDepth 20000 in
theorem gX1_mayLeadTo_X7_isFile_n52 : GoodIn wsX1_mayLeadTo (wsX7_isFile) := ggX1_mayLeadTo_X7_isFile
set_option maxRecDepth 20000 in
theorem ggX1_mayLeadTo_X5_number : GoodIn wsX1_mayLeadTo wsX5_number := goodIn_r _ [9, 10, 11, 12, 8, 13, 15, 16] (by decide +kernel) (by decide +kernel)
set_option maxRecDepth 20000 in
theorem gX1_mayLeadTo_X5_number : GoodIn wsX1_mayLeadTo (wsV RX1 19 RX5 yX5_number wsX5_number) := goodIn_app (goodIn_of _ (by decide +kernel)) ggX1_mayLeadTo_X5_number
theorem dX1_mayLeadTo_0 : decode cX1_mayLeadTo 0 = .ok (.iload_n 2, 1) := by decide +kernel
theorem dX1_mayLeadTo_1 : decode cX1_mayLeadTo 1 = .ok (.invokestatic 52, 3) := by decide +kernel
theorem dX1_mayLeadTo_4 : decode cX1_mayLeadTo 4 = .ok (.ifCond .eq 8, 3) := by decide +kernel
theorem dX1_mayLeadTo_7 : decode cX1_mayLeadTo 7 = .ok (.iload_n 2, 1) := by decide +kernel
theorem dX1_mayLeadTo_8 : decode cX1_mayLeadTo 8 = .ok (.iconst 1, 1) := by decide +kernel
theorem dX1_mayLeadTo_9 : decode cX1_mayLeadTo 9 = .ok (.if_icmp .ne 5, 3) := by decide +kernel
theorem dX1_mayLeadTo_12 : decode cX1_mayLeadTo 12 = .ok (.iconst 0, 1) := by decide +kernel
theorem dX1_mayLeadTo_13 : decode cX1_mayLeadTo 13 = .ok (.ireturn, 1) := by decide +kernel
theorem dX1_mayLeadTo_14 : decode cX1_mayLeadTo 14 = .ok (.aload_n 1, 1) := by decide +kernel
theorem dX1_mayLeadTo_15 : decode cX1_mayLeadTo 15 = .ok (.iload_n 2, 1) := by decide +kernel
theorem dX1_mayLeadTo_16 : decode cX1_mayLeadTo 16 = .ok (.iconst 0, 1) := by decide +kernel
theorem dX1_mayLeadTo_17 : decode cX1_mayLeadTo 17 = .ok (.invokevirtual 19, 3) := by decide +kernel
theorem dX1_mayLeadTo_20 : decode cX1_mayLeadTo 20 = .ok (.istore_n 3, 1) := by decide +kernel
theorem dX1_mayLeadTo_21 : decode cX1_mayLeadTo 21 = .ok (.iload_n 3, 1) := by decide +kernel
theorem dX1_mayLeadTo_22 : decode cX1_mayLeadTo 22 = .ok (.ifCond .eq 21, 3) := by decide +kernel
theorem dX1_mayLeadTo_25 : decode cX1_mayLeadTo 25 = .ok (.iload_n 3, 1) := by decide +kernel
theorem dX1_mayLeadTo_26 : decode cX1_mayLeadTo 26 = .ok (.iconst 2, 1) := by decide +kernel
theorem dX1_mayLeadTo_27 : decode cX1_mayLeadTo 27 = .ok (.if_icmp .ne 12, 3) := by decide +kernel
theorem dX1_mayLeadTo_30 : decode cX1_mayLeadTo 30 = .ok (.aload_n 0, 1) := by decide +kernel
theorem dX1_mayLeadTo_31 : decode cX1_mayLeadTo 31 = .ok (.getfield 9, 3) := by decide +kernel
theorem dX1_mayLeadTo_34 : decode cX1_mayLeadTo 34 = .ok (.iload_n 2, 1) := by decide +kernel
theorem dX1_mayLeadTo_35 : decode cX1_mayLeadTo 35 = .ok (.baload, 1) := by decide +kernel
theorem dX1_mayLeadTo_36 : decode cX1_mayLeadTo 36 = .ok (.ifCond .ne 7, 3) := by decide +kernel
theorem dX1_mayLeadTo_39 : decode cX1_mayLeadTo 39 = .ok (.iconst 1, 1) := by decide +kernel
theorem dX1_mayLeadTo_40 : decode cX1_mayLeadTo 40 = .ok (.goto 4, 3) := by decide +kernel
theorem dX1_mayLeadTo_43 : decode cX1_mayLeadTo 43 = .ok (.iconst 0, 1) := by decide +kernel
theorem dX1_mayLeadTo_44 : decode cX1_mayLeadTo 44 = .ok (.ireturn, 1) := by decide +kernel
theorem dX2_init_0 : decode cX2_init 0 = .ok (.aload_n 0, 1) := by decide +kernel
theorem dX2_init_1 : decode cX2_init 1 = .ok (.invokespecial 3, 3) := by decide +kernel
theorem dX2_init_4 : decode cX2_init 4 = .ok (.aload_n 0, 1) := by decide +kernel
theorem dX2_init_5 : decode cX2_init 5 = .ok (.bipush 25, 2) := by decide +kernel
theorem dX2_init_7 : decode cX2_init 7 = .ok (.newarray .boolean, 2) := by decide +kernel
theorem dX2_init_9 : decode cX2_init 9 = .ok (.putfield 9, 3) := by decide +kernel
theorem dX2_init_12 : decode cX2_init 12 = .ok (.aload_n 0, 1) := by decide +kernel
theorem dX2_init_13 : decode cX2_init 13 = .ok (.bipush 24, 2) := by decide +kernel
theorem dX2_init_15 : decode cX2_init 15 = .ok (.newarray .int, 2) := by decide +kernel
theorem dX2_init_17 : decode cX2_init 17 = .ok (.putfield 15, 3) := by decide +kernel
theorem dX2_init_20 : decode cX2_init 20 = .ok (.aload_n 0, 1) := by decide +kernel
theorem dX2_init_21 : decode cX2_init 21 = .ok (.iconst 0, 1) := by decide +kernel
theorem dX2_init_22 : decode cX2_init 22 = .ok (.putfield 19, 3) := by decide +kernel
theorem dX2_init_25 : decode cX2_init 25 = .ok (.return_, 1) := by decide +kernel
set_option maxRecDepth 20000 in
theorem ggX2_mend_X7_unmark : GoodIn wsX2_mend wsX7_unmark := goodIn_r _ [4] (by decide +kernel) (by decide +kernel)
set_option maxRecDepth 20000 in
theorem gX2_mend_X7_unmark_n23 : GoodIn wsX2_mend (wsX7_unmark) := ggX2_mend_X7_unmark
set_option maxRecDepth 20000 in
theorem ggX2_mend_X2_reachFrom : GoodIn wsX2_mend wsX2_reachFrom := goodIn_r _ [9, 10, 11, 12, 13, 14, 8, 15, 1, 16, 3, 17, 18, 19, 20, 21, 22, 23, 24, 25, 26, 77, 78, 79, 80, 81] (by decide +kernel) (by decide +kernel)
set_option maxRecDepth 20000 in
theorem gX2_mend_X2_reachFrom : GoodIn wsX2_mend (wsV RX2 27 RX2 yX2_reachFrom wsX2_reachFrom) := goodIn_app (goodIn_of _ (by decide +kernel)) ggX2_mend_X2_reachFrom
set_option maxRecDepth 20000 in
theorem ggX2_mend_X5_number : GoodIn wsX2_mend wsX5_number := goodIn_r _ [30, 23, 31, 32, 21, 33, 80, 81] (by decide +kernel) (by decide +kernel)
set_option maxRecDepth 20000 in
theorem gX2_mend_X5_number : GoodIn wsX2_mend (wsV RX2 31 RX5 yX5_number wsX5_number) := goodIn_app (goodIn_of _ (by decide +kernel)) ggX2_mend_X5_number
set_option maxRecDepth 20000 in
theorem ggX2_mend_X6_isRightlyIn : GoodIn wsX2_mend wsX6_isRightlyIn := goodIn_r _ [38, 39, 82, 83, 84, 85] (by decide +kernel) (by decide +kernel)
set_option maxRecDepth 20000 in
theorem gX2_mend_X6_isRightlyIn : GoodIn wsX2_mend (wsV RX2 37 RX6 yX6_isRightlyIn wsX6_isRightlyIn) := goodIn_app (goodIn_of _ (by decide +kernel)) ggX2_mend_X6_isRightlyIn
set_option maxRecDepth 20000 in
theorem ggX2_mend_X2_hangInRoot : GoodIn wsX2_mend wsX2_hangInRoot := goodIn_r _ [43, 44, 45, 46, 21, 47, 48, 19, 20, 22, 23, 24, 25, 26, 49, 50, 51, 52, 53, 54, 55, 56, 57, 58, 59, 60, 61, 62, 63, 64, 65, 66, 67, 68, 69, 70, 71, 72, 31, 32, 33, 73, 74, 8, 75, 27, 28, 29, 30, 76, 5, 6, 7, 9, 10, 11, 12, 13, 14, 15, 1, 16, 3, 17, 18, 80, 81, 77, 78, 79] (by decide +kernel) (by decide +kernel)
set_option maxRecDepth 20000 in
theorem gX2_mend_X2_hangInRoot : GoodIn wsX2_mend (wsV RX2 43 RX2 yX2_hangInRoot wsX2_hangInRoot) := goodIn_app (goodIn_of _ (by decide +kernel)) ggX2_mend_X2_hangInRoot
set_option maxRecDepth 20000 in
theorem ggX2_mend_X5_wipeFile : GoodIn wsX2_mend wsX5_wipeFile := goodIn_r _ [72, 31, 32, 21, 33, 61, 62, 63, 64, 23, 80, 81] (by decide +kernel) (by decide +kernel)
set_option maxRecDepth 20000 in
theorem gX2_mend_X5_wipeFile : GoodIn wsX2_mend (wsV RX2 46 RX5 yX5_wipeFile wsX5_wipeFile) := goodIn_app (goodIn_of _ (by decide +kernel)) ggX2_mend_X5_wipeFile
theorem dX2_mend_0 : decode cX2_mend 0 = .ok (.aload_n 0, 1) := by decide +kernel
theorem dX2_mend_1 : decode cX2_mend 1 = .ok (.getfield 9, 3) := by decide +kernel
theorem dX2_mend_4 : decode cX2_mend 4 = .ok (.invokestatic 23, 3) := by decide +kernel
theorem dX2_mend_7 : decode cX2_mend 7 = .ok (.aload_n 0, 1) := by decide +kernel
theorem dX2_mend_8 : decode cX2_mend 8 = .ok (.aload_n 1, 1) := by decide +kernel
theorem dX2_mend_9 : decode cX2_mend 9 = .ok (.iconst 1, 1) := by decide +kernel
theorem dX2_mend_10 : decode cX2_mend 10 = .ok (.invokevirtual 27, 3) := by decide +kernel
theorem dX2_mend_13 : decode cX2_mend 13 = .ok (.iconst 1, 1) := by decide +kernel
theorem dX2_mend_14 : decode cX2_mend 14 = .ok (.istore 4, 2) := by decide +kernel
theorem dX2_mend_16 : decode cX2_mend 16 = .ok (.iload 4, 2) := by decide +kernel
theorem dX2_mend_18 : decode cX2_mend 18 = .ok (.bipush 24, 2) := by decide +kernel
theorem dX2_mend_20 : decode cX2_mend 20 = .ok (.if_icmp .gt 64, 3) := by decide +kernel
theorem dX2_mend_23 : decode cX2_mend 23 = .ok (.aload_n 1, 1) := by decide +kernel
theorem dX2_mend_24 : decode cX2_mend 24 = .ok (.iload 4, 2) := by decide +kernel
theorem dX2_mend_26 : decode cX2_mend 26 = .ok (.iconst 0, 1) := by decide +kernel
theorem dX2_mend_27 : decode cX2_mend 27 = .ok (.invokevirtual 31, 3) := by decide +kernel
theorem dX2_mend_30 : decode cX2_mend 30 = .ok (.ifCond .eq 48, 3) := by decide +kernel
theorem dX2_mend_33 : decode cX2_mend 33 = .ok (.aload_n 0, 1) := by decide +kernel
theorem dX2_mend_34 : decode cX2_mend 34 = .ok (.getfield 9, 3) := by decide +kernel
theorem dX2_mend_37 : decode cX2_mend 37 = .ok (.iload 4, 2) := by decide +kernel
theorem dX2_mend_39 : decode cX2_mend 39 = .ok (.baload, 1) := by decide +kernel
theorem dX2_mend_40 : decode cX2_mend 40 = .ok (.ifCond .eq 6, 3) := by decide +kernel
theorem dX2_mend_43 : decode cX2_mend 43 = .ok (.goto 35, 3) := by decide +kernel
theorem dX2_mend_46 : decode cX2_mend 46 = .ok (.aload_n 2, 1) := by decide +kernel
theorem dX2_mend_47 : decode cX2_mend 47 = .ok (.iload 4, 2) := by decide +kernel
theorem dX2_mend_49 : decode cX2_mend 49 = .ok (.invokevirtual 37, 3) := by decide +kernel
theorem dX2_mend_52 : decode cX2_mend 52 = .ok (.ifCond .ne 13, 3) := by decide +kernel
theorem dX2_mend_55 : decode cX2_mend 55 = .ok (.aload_n 0, 1) := by decide +kernel
theorem dX2_mend_56 : decode cX2_mend 56 = .ok (.aload_n 1, 1) := by decide +kernel
theorem dX2_mend_57 : decode cX2_mend 57 = .ok (.iload 4, 2) := by decide +kernel
theorem dX2_mend_59 : decode cX2_mend 59 = .ok (.invokevirtual 43, 3) := by decide +kernel
theorem dX2_mend_62 : decode cX2_mend 62 = .ok (.goto 16, 3) := by decide +kernel
theorem dX2_mend_65 : decode cX2_mend 65 = .ok (.aload_n 3, 1) := by decide +kernel
theorem dX2_mend_66 : decode cX2_mend 66 = .ok (.iload 4, 2) := by decide +kernel
theorem dX2_mend_68 : decode cX2_mend 68 = .ok (.baload, 1) := by decide +kernel
theorem dX2_mend_69 : decode cX2_mend 69 = .ok (.ifCond .ne 9, 3) := by decide +kernel
theorem dX2_mend_72 : decode cX2_mend 72 = .ok (.aload_n 1, 1) := by decide +kernel
theorem dX2_mend_73 : decode cX2_mend 73 = .ok (.iload 4, 2) := by decide +kernel
theorem dX2_mend_75 : decode cX2_mend 75 = .ok (.invokevirtual 46, 3) := by decide +kernel
theorem dX2_mend_78 : decode cX2_mend 78 = .ok (.iinc 4 1, 3) := by decide +kernel
theorem dX2_mend_81 : decode cX2_mend 81 = .ok (.goto (-65), 3) := by decide +kernel
theorem dX2_mend_84 : decode cX2_mend 84 = .ok (.return_, 1) := by decide +kernel
set_option maxRecDepth 20000 in
theorem ggX2_hangInRoot_X5_dropEntriesFor : GoodIn wsX2_hangInRoot wsX5_dropEntriesFor := goodIn_r _ [5, 6, 7, 8, 4, 9, 10, 11, 12, 13, 14, 15, 16, 17, 18, 19, 20, 21, 22, 23, 24, 25, 26, 27, 28, 29, 65, 66] (by decide +kernel) (by decide +kernel)
set_option maxRecDepth 20000 in
theorem gX2_hangInRoot_X5_dropEntriesFor : GoodIn wsX2_hangInRoot (wsV RX2 50 RX5 yX5_dropEntriesFor wsX5_dropEntriesFor) := goodIn_app (goodIn_of _ (by decide +kernel)) ggX2_hangInRoot_X5_dropEntriesFor
set_option maxRecDepth 20000 in
theorem ggX2_hangInRoot_X5_placeOfName : GoodIn wsX2_hangInRoot wsX5_placeOfName := goodIn_r _ [33, 6, 7, 8, 4, 9, 10, 11, 12, 13, 65, 66] (by decide +kernel) (by decide +kernel)
set_option maxRecDepth 20000 in
theorem gX2_hangInRoot_X5_placeOfName : GoodIn wsX2_hangInRoot (wsV RX2 53 RX5 yX5_placeOfName wsX5_placeOfName) := goodIn_app (goodIn_of _ (by decide +kernel)) ggX2_hangInRoot_X5_placeOfName
set_option maxRecDepth 20000 in
theorem ggX2_hangInRoot_X5_wipeFile : GoodIn wsX2_hangInRoot wsX5_wipeFile := goodIn_r _ [37, 38, 39, 4, 40, 26, 27, 28, 29, 10, 65, 66] (by decide +kernel) (by decide +kernel)
set_option maxRecDepth 20000 in
theorem gX2_hangInRoot_X5_wipeFile : GoodIn wsX2_hangInRoot (wsV RX2 46 RX5 yX5_wipeFile wsX5_wipeFile) := goodIn_app (goodIn_of _ (by decide +kernel)) ggX2_hangInRoot_X5_wipeFile
set_option maxRecDepth 20000 in
theorem ggX2_hangInRoot_X2_leastNewName : GoodIn wsX2_hangInRoot wsX2_leastNewName := goodIn_r _ [44, 30, 31, 32, 4, 33, 6, 7, 8, 9, 10, 11, 12, 13, 65, 66] (by decide +kernel) (by decide +kernel)
set_option maxRecDepth 20000 in
theorem gX2_hangInRoot_X2_leastNewName : GoodIn wsX2_hangInRoot (va_wsS RX2 57 yX2_leastNewName wsX2_leastNewName) := goodIn_app (goodIn_of _ (by decide +kernel)) ggX2_hangInRoot_X2_leastNewName
set_option maxRecDepth 20000 in
theorem ggX2_hangInRoot_X5_number : GoodIn wsX2_hangInRoot wsX5_number := goodIn_r _ [48, 10, 38, 39, 4, 40, 65, 66] (by decide +kernel) (by decide +kernel)
set_option maxRecDepth 20000 in
theorem gX2_hangInRoot_X5_number : GoodIn wsX2_hangInRoot (wsV RX2 31 RX5 yX5_number wsX5_number) := goodIn_app (goodIn_of _ (by decide +kernel)) ggX2_hangInRoot_X5_number
set_option maxRecDepth 20000 in
theorem ggX2_hangInRoot_X5_putEntry : GoodIn wsX2_hangInRoot wsX5_putEntry := goodIn_r _ [21, 10, 11, 12, 4, 13, 65, 66] (by decide +kernel) (by decide +kernel)
set_option maxRecDepth 20000 in
theorem gX2_hangInRoot_X5_putEntry : GoodIn wsX2_hangInRoot (wsV RX2 61 RX5 yX5_putEntry wsX5_putEntry) := goodIn_app (goodIn_of _ (by decide +kernel)) ggX2_hangInRoot_X5_putEntry
set_option maxRecDepth 20000 in
theorem ggX2_hangInRoot_X2_reachFrom : GoodIn wsX2_hangInRoot wsX2_reachFrom := goodIn_r _ [53, 54, 55, 56, 57, 58, 43, 59, 60, 61, 62, 63, 64, 7, 8, 4, 9, 10, 11, 12, 13, 67, 68, 69, 65, 66] (by decide +kernel) (by decide +kernel)
set_option maxRecDepth 20000 in
theorem gX2_hangInRoot_X2_reachFrom : GoodIn wsX2_hangInRoot (wsV RX2 27 RX2 yX2_reachFrom wsX2_reachFrom) := goodIn_app (goodIn_of _ (by decide +kernel)) ggX2_hangInRoot_X2_reachFrom
theorem dX2_hangInRoot_0 : decode cX2_hangInRoot 0 = .ok (.aload_n 1, 1) := by decide +kernel
theorem dX2_hangInRoot_1 : decode cX2_hangInRoot 1 = .ok (.iload_n 2, 1) := by decide +kernel
theorem dX2_hangInRoot_2 : decode cX2_hangInRoot 2 = .ok (.invokevirtual 50, 3) := by decide +kernel
theorem dX2_hangInRoot_5 : decode cX2_hangInRoot 5 = .ok (.aload_n 1, 1) := by decide +kernel
theorem dX2_hangInRoot_6 : decode cX2_hangInRoot 6 = .ok (.iconst 1, 1) := by decide +kernel
theorem dX2_hangInRoot_7 : decode cX2_hangInRoot 7 = .ok (.bipush 8, 2) := by decide +kernel
theorem dX2_hangInRoot_9 : decode cX2_hangInRoot 9 = .ok (.iconst 0, 1) := by decide +kernel
theorem dX2_hangInRoot_10 : decode cX2_hangInRoot 10 = .ok (.invokevirtual 53, 3) := by decide +kernel
theorem dX2_hangInRoot_13 : decode cX2_hangInRoot 13 = .ok (.istore_n 3, 1) := by decide +kernel
theorem dX2_hangInRoot_14 : decode cX2_hangInRoot 14 = .ok (.iload_n 3, 1) := by decide +kernel
theorem dX2_hangInRoot_15 : decode cX2_hangInRoot 15 = .ok (.bipush 8, 2) := by decide +kernel
theorem dX2_hangInRoot_17 : decode cX2_hangInRoot 17 = .ok (.if_icmp .lt 9, 3) := by decide +kernel
theorem dX2_hangInRoot_20 : decode cX2_hangInRoot 20 = .ok (.aload_n 1, 1) := by decide +kernel
theorem dX2_hangInRoot_21 : decode cX2_hangInRoot 21 = .ok (.iload_n 2, 1) := by decide +kernel
theorem dX2_hangInRoot_22 : decode cX2_hangInRoot 22 = .ok (.invokevirtual 46, 3) := by decide +kernel
theorem dX2_hangInRoot_25 : decode cX2_hangInRoot 25 = .ok (.return_, 1) := by decide +kernel
theorem dX2_hangInRoot_26 : decode cX2_hangInRoot 26 = .ok (.aload_n 1, 1) := by decide +kernel
theorem dX2_hangInRoot_27 : decode cX2_hangInRoot 27 = .ok (.iconst 1, 1) := by decide +kernel
theorem dX2_hangInRoot_28 : decode cX2_hangInRoot 28 = .ok (.iload_n 3, 1) := by decide +kernel
theorem dX2_hangInRoot_29 : decode cX2_hangInRoot 29 = .ok (.aload_n 1, 1) := by decide +kernel
theorem dX2_hangInRoot_30 : decode cX2_hangInRoot 30 = .ok (.iload_n 3, 1) := by decide +kernel
theorem dX2_hangInRoot_31 : decode cX2_hangInRoot 31 = .ok (.invokestatic 57, 3) := by decide +kernel
theorem dX2_hangInRoot_34 : decode cX2_hangInRoot 34 = .ok (.iload_n 2, 1) := by decide +kernel
theorem dX2_hangInRoot_35 : decode cX2_hangInRoot 35 = .ok (.aload_n 1, 1) := by decide +kernel
theorem dX2_hangInRoot_36 : decode cX2_hangInRoot 36 = .ok (.iload_n 2, 1) := by decide +kernel
theorem dX2_hangInRoot_37 : decode cX2_hangInRoot 37 = .ok (.iconst 0, 1) := by decide +kernel
theorem dX2_hangInRoot_38 : decode cX2_hangInRoot 38 = .ok (.invokevirtual 31, 3) := by decide +kernel
theorem dX2_hangInRoot_41 : decode cX2_hangInRoot 41 = .ok (.invokevirtual 61, 3) := by decide +kernel
theorem dX2_hangInRoot_44 : decode cX2_hangInRoot 44 = .ok (.aload_n 0, 1) := by decide +kernel
theorem dX2_hangInRoot_45 : decode cX2_hangInRoot 45 = .ok (.aload_n 1, 1) := by decide +kernel
theorem dX2_hangInRoot_46 : decode cX2_hangInRoot 46 = .ok (.iload_n 2, 1) := by decide +kernel
theorem dX2_hangInRoot_47 : decode cX2_hangInRoot 47 = .ok (.invokevirtual 27, 3) := by decide +kernel
theorem dX2_hangInRoot_50 : decode cX2_hangInRoot 50 = .ok (.return_, 1) := by decide +kernel
set_option maxRecDepth 20000 in
theorem ggX2_leastNewName_X5_placeOfName : GoodIn wsX2_leastNewName wsX5_placeOfName := goodIn_r _ [5, 6, 7, 8, 4, 9, 10, 11, 12, 13, 14, 15] (by decide +kernel) (by decide +kernel)
set_option maxRecDepth 20000 in
theorem gX2_leastNewName_X5_placeOfName : GoodIn wsX2_leastNewName (wsV RX2 53 RX5 yX5_placeOfName wsX5_placeOfName) := goodIn_app (goodIn_of _ (by decide +kernel)) ggX2_leastNewName_X5_placeOfName
theorem dX2_leastNewName_0 : decode cX2_leastNewName 0 = .ok (.iconst 1, 1) := by decide +kernel
theorem dX2_leastNewName_1 : decode cX2_leastNewName 1 = .ok (.istore_n 2, 1) := by decide +kernel
theorem dX2_leastNewName_2 : decode cX2_leastNewName 2 = .ok (.iload_n 2, 1) := by decide +kernel
theorem dX2_leastNewName_3 : decode cX2_leastNewName 3 = .ok (.iload_n 1, 1) := by decide +kernel
theorem dX2_leastNewName_4 : decode cX2_leastNewName 4 = .ok (.if_icmp .gt 20, 3) := by decide +kernel
theorem dX2_leastNewName_7 : decode cX2_leastNewName 7 = .ok (.aload_n 0, 1) := by decide +kernel
theorem dX2_leastNewName_8 : decode cX2_leastNewName 8 = .ok (.iconst 1, 1) := by decide +kernel
theorem dX2_leastNewName_9 : decode cX2_leastNewName 9 = .ok (.iload_n 1, 1) := by decide +kernel
theorem dX2_leastNewName_10 : decode cX2_leastNewName 10 = .ok (.iload_n 2, 1) := by decide +kernel
theorem dX2_leastNewName_11 : decode cX2_leastNewName 11 = .ok (.invokevirtual 53, 3) := by decide +kernel
theorem dX2_leastNewName_14 : decode cX2_leastNewName 14 = .ok (.iload_n 1, 1) := by decide +kernel
theorem dX2_leastNewName_15 : decode cX2_leastNewName 15 = .ok (.if_icmp .ge 9, 3) := by decide +kernel
theorem dX2_leastNewName_18 : decode cX2_leastNewName 18 = .ok (.iinc 2 1, 3) := by decide +kernel
theorem dX2_leastNewName_21 : decode cX2_leastNewName 21 = .ok (.goto (-19), 3) := by decide +kernel
theorem dX2_leastNewName_24 : decode cX2_leastNewName 24 = .ok (.iload_n 2, 1) := by decide +kernel
theorem dX2_leastNewName_25 : decode cX2_leastNewName 25 = .ok (.ireturn, 1) := by decide +kernel
set_option maxRecDepth 20000 in
theorem ggX2_reachFrom_X2_reach : GoodIn wsX2_reachFrom wsX2_reach := goodIn_r _ [7, 8, 1, 2, 9, 10, 11, 21, 22, 23] (by decide +kernel) (by decide +kernel)
set_option maxRecDepth 20000 in
theorem gX2_reachFrom_X2_reach : GoodIn wsX2_reachFrom (wsV RX2 65 RX2 yX2_reach wsX2_reach) := goodIn_app (goodIn_of _ (by decide +kernel)) ggX2_reachFrom_X2_reach
set_option maxRecDepth 20000 in
theorem ggX2_reachFrom_X5_entryPart : GoodIn wsX2_reachFrom wsX5_entryPart := goodIn_r _ [16, 17, 18, 19, 15, 20, 24, 25] (by decide +kernel) (by decide +kernel)
set_option maxRecDepth 20000 in
theorem gX2_reachFrom_X5_entryPart : GoodIn wsX2_reachFrom (wsV RX2 68 RX5 yX5_entryPart wsX5_entryPart) := goodIn_app (goodIn_of _ (by decide +kernel)) ggX2_reachFrom_X5_entryPart
theorem dX2_reachFrom_0 : decode cX2_reachFrom 0 = .ok (.aload_n 0, 1) := by decide +kernel
theorem dX2_reachFrom_1 : decode cX2_reachFrom 1 = .ok (.iconst 0, 1) := by decide +kernel
theorem dX2_reachFrom_2 : decode cX2_reachFrom 2 = .ok (.putfield 19, 3) := by decide +kernel
theorem dX2_reachFrom_5 : decode cX2_reachFrom 5 = .ok (.aload_n 0, 1) := by decide +kernel
theorem dX2_reachFrom_6 : decode cX2_reachFrom 6 = .ok (.iload_n 2, 1) := by decide +kernel
theorem dX2_reachFrom_7 : decode cX2_reachFrom 7 = .ok (.invokevirtual 65, 3) := by decide +kernel
theorem dX2_reachFrom_10 : decode cX2_reachFrom 10 = .ok (.iconst 0, 1) := by decide +kernel
theorem dX2_reachFrom_11 : decode cX2_reachFrom 11 = .ok (.istore_n 3, 1) := by decide +kernel
theorem dX2_reachFrom_12 : decode cX2_reachFrom 12 = .ok (.iload_n 3, 1) := by decide +kernel
theorem dX2_reachFrom_13 : decode cX2_reachFrom 13 = .ok (.aload_n 0, 1) := by decide +kernel
theorem dX2_reachFrom_14 : decode cX2_reachFrom 14 = .ok (.getfield 19, 3) := by decide +kernel
theorem dX2_reachFrom_17 : decode cX2_reachFrom 17 = .ok (.if_icmp .ge 48, 3) := by decide +kernel
theorem dX2_reachFrom_20 : decode cX2_reachFrom 20 = .ok (.iload_n 3, 1) := by decide +kernel
theorem dX2_reachFrom_21 : decode cX2_reachFrom 21 = .ok (.bipush 24, 2) := by decide +kernel
theorem dX2_reachFrom_23 : decode cX2_reachFrom 23 = .ok (.if_icmp .ge 42, 3) := by decide +kernel
theorem dX2_reachFrom_26 : decode cX2_reachFrom 26 = .ok (.iconst 0, 1) := by decide +kernel
theorem dX2_reachFrom_27 : decode cX2_reachFrom 27 = .ok (.istore 4, 2) := by decide +kernel
theorem dX2_reachFrom_29 : decode cX2_reachFrom 29 = .ok (.iload 4, 2) := by decide +kernel
theorem dX2_reachFrom_31 : decode cX2_reachFrom 31 = .ok (.bipush 8, 2) := by decide +kernel
theorem dX2_reachFrom_33 : decode cX2_reachFrom 33 = .ok (.if_icmp .ge 26, 3) := by decide +kernel
theorem dX2_reachFrom_36 : decode cX2_reachFrom 36 = .ok (.aload_n 0, 1) := by decide +kernel
theorem dX2_reachFrom_37 : decode cX2_reachFrom 37 = .ok (.aload_n 1, 1) := by decide +kernel
theorem dX2_reachFrom_38 : decode cX2_reachFrom 38 = .ok (.aload_n 0, 1) := by decide +kernel
theorem dX2_reachFrom_39 : decode cX2_reachFrom 39 = .ok (.getfield 15, 3) := by decide +kernel
theorem dX2_reachFrom_42 : decode cX2_reachFrom 42 = .ok (.iload_n 3, 1) := by decide +kernel
theorem dX2_reachFrom_43 : decode cX2_reachFrom 43 = .ok (.iaload, 1) := by decide +kernel
theorem dX2_reachFrom_44 : decode cX2_reachFrom 44 = .ok (.iload 4, 2) := by decide +kernel
theorem dX2_reachFrom_46 : decode cX2_reachFrom 46 = .ok (.iconst 1, 1) := by decide +kernel
theorem dX2_reachFrom_47 : decode cX2_reachFrom 47 = .ok (.invokevirtual 68, 3) := by decide +kernel
theorem dX2_reachFrom_50 : decode cX2_reachFrom 50 = .ok (.invokevirtual 65, 3) := by decide +kernel
theorem dX2_reachFrom_53 : decode cX2_reachFrom 53 = .ok (.iinc 4 1, 3) := by decide +kernel
theorem dX2_reachFrom_56 : decode cX2_reachFrom 56 = .ok (.goto (-27), 3) := by decide +kernel
theorem dX2_reachFrom_59 : decode cX2_reachFrom 59 = .ok (.iinc 3 1, 3) := by decide +kernel
theorem dX2_reachFrom_62 : decode cX2_reachFrom 62 = .ok (.goto (-50), 3) := by decide +kernel
theorem dX2_reachFrom_65 : decode cX2_reachFrom 65 = .ok (.return_, 1) := by decide +kernel
set_option maxRecDepth 20000 in
theorem ggX2_reach_X7_isFile : GoodIn wsX2_reach wsX7_isFile := goodIn_r _ [6] (by decide +kernel) (by decide +kernel)
set_option maxRecDepth 20000 in
theorem gX2_reach_X7_isFile_n71 : GoodIn wsX2_reach (wsX7_isFile) := ggX2_reach_X7_isFile
theorem dX2_reach_0 : decode cX2_reach 0 = .ok (.iload_n 1, 1) := by decide +kernel
theorem dX2_reach_1 : decode cX2_reach 1 = .ok (.invokestatic 71, 3) := by decide +kernel
theorem dX2_reach_4 : decode cX2_reach 4 = .ok (.ifCond .eq 48, 3) := by decide +kernel
theorem dX2_reach_7 : decode cX2_reach 7 = .ok (.aload_n 0, 1) := by decide +kernel
theorem dX2_reach_8 : decode cX2_reach 8 = .ok (.getfield 9, 3) := by decide +kernel
theorem dX2_reach_11 : decode cX2_reach 11 = .ok (.iload_n 1, 1) := by decide +kernel
theorem dX2_reach_12 : decode cX2_reach 12 = .ok (.baload, 1) := by decide +kernel
theorem dX2_reach_13 : decode cX2_reach 13 = .ok (.ifCond .ne 39, 3) := by decide +kernel
theorem dX2_reach_16 : decode cX2_reach 16 = .ok (.aload_n 0, 1) := by decide +kernel
theorem dX2_reach_17 : decode cX2_reach 17 = .ok (.getfield 19, 3) := by decide +kernel
theorem dX2_reach_20 : decode cX2_reach 20 = .ok (.bipush 24, 2) := by decide +kernel
theorem dX2_reach_22 : decode cX2_reach 22 = .ok (.if_icmp .ge 30, 3) := by decide +kernel
theorem dX2_reach_25 : decode cX2_reach 25 = .ok (.aload_n 0, 1) := by decide +kernel
theorem dX2_reach_26 : decode cX2_reach 26 = .ok (.getfield 9, 3) := by decide +kernel
theorem dX2_reach_29 : decode cX2_reach 29 = .ok (.iload_n 1, 1) := by decide +kernel
theorem dX2_reach_30 : decode cX2_reach 30 = .ok (.iconst 1, 1) := by decide +kernel
theorem dX2_reach_31 : decode cX2_reach 31 = .ok (.bastore, 1) := by decide +kernel
theorem dX2_reach_32 : decode cX2_reach 32 = .ok (.aload_n 0, 1) := by decide +kernel
theorem dX2_reach_33 : decode cX2_reach 33 = .ok (.getfield 15, 3) := by decide +kernel
theorem dX2_reach_36 : decode cX2_reach 36 = .ok (.aload_n 0, 1) := by decide +kernel
theorem dX2_reach_37 : decode cX2_reach 37 = .ok (.getfield 19, 3) := by decide +kernel
theorem dX2_reach_40 : decode cX2_reach 40 = .ok (.iload_n 1, 1) := by decide +kernel
theorem dX2_reach_41 : decode cX2_reach 41 = .ok (.iastore, 1) := by decide +kernel
theorem dX2_reach_42 : decode cX2_reach 42 = .ok (.aload_n 0, 1) := by decide +kernel
theorem dX2_reach_43 : decode cX2_reach 43 = .ok (.dup, 1) := by decide +kernel
theorem dX2_reach_44 : decode cX2_reach 44 = .ok (.getfield 19, 3) := by decide +kernel
theorem dX2_reach_47 : decode cX2_reach 47 = .ok (.iconst 1, 1) := by decide +kernel
theorem dX2_reach_48 : decode cX2_reach 48 = .ok (.iadd, 1) := by decide +kernel
theorem dX2_reach_49 : decode cX2_reach 49 = .ok (.putfield 19, 3) := by decide +kernel
theorem dX2_reach_52 : decode cX2_reach 52 = .ok (.return_, 1) := by decide +kernel
set_option maxRecDepth 20000 in
theorem ggX3_mend_X3_linksOf : GoodIn wsX3_mend wsX3_linksOf := goodIn_r _ [4, 5, 6, 7, 8, 9, 10, 11, 12, 13, 14, 15, 16, 17, 18, 19, 20, 21, 22, 23, 24, 25, 26, 27, 3, 28, 29, 30, 31, 57, 58] (by decide +kernel) (by decide +kernel)
set_option maxRecDepth 20000 in
theorem gX3_mend_X3_linksOf : GoodIn wsX3_mend (va_wsS RX3 9 yX3_linksOf wsX3_linksOf) := goodIn_app (goodIn_of _ (by decide +kernel)) ggX3_mend_X3_linksOf
set_option maxRecDepth 20000 in
theorem ggX3_mend_X5_putNumber : GoodIn wsX3_mend wsX5_putNumber := goodIn_r _ [35, 10, 11, 12, 8, 13, 57, 58] (by decide +kernel) (by decide +kernel)
set_option maxRecDepth 20000 in
theorem gX3_mend_X5_putNumber : GoodIn wsX3_mend (wsV RX3 15 RX5 yX5_putNumber wsX5_putNumber) := goodIn_app (goodIn_of _ (by decide +kernel)) ggX3_mend_X5_putNumber
set_option maxRecDepth 20000 in
theorem ggX3_mend_X3_becomeParent : GoodIn wsX3_mend wsX3_becomeParent := goodIn_r _ [38, 25, 19, 20, 8, 21, 10, 22, 23, 24, 26, 27, 3, 28, 29, 30, 31, 5, 6, 7, 9, 11, 12, 13, 32, 33, 34, 35, 57, 58] (by decide +kernel) (by decide +kernel)
set_option maxRecDepth 20000 in
theorem gX3_mend_X3_becomeParent : GoodIn wsX3_mend (va_wsS RX3 21 yX3_becomeParent wsX3_becomeParent) := goodIn_app (goodIn_of _ (by decide +kernel)) ggX3_mend_X3_becomeParent
set_option maxRecDepth 20000 in
theorem ggX3_mend_X3_mendWaiting : GoodIn wsX3_mend wsX3_mendWaiting := goodIn_r _ [41, 42, 43, 44, 45, 46, 47, 48, 49, 50, 51, 8, 52, 10, 53, 54, 55, 56, 32, 33, 34, 35, 11, 12, 13, 59, 60, 61, 62, 57, 58] (by decide +kernel) (by decide +kernel)
set_option maxRecDepth 20000 in
theorem gX3_mend_X3_mendWaiting : GoodIn wsX3_mend (va_wsS RX3 25 yX3_mendWaiting wsX3_mendWaiting) := goodIn_app (goodIn_of _ (by decide +kernel)) ggX3_mend_X3_mendWaiting
theorem dX3_mend_0 : decode cX3_mend 0 = .ok (.iconst 1, 1) := by decide +kernel
theorem dX3_mend_1 : decode cX3_mend 1 = .ok (.istore_n 2, 1) := by decide +kernel
theorem dX3_mend_2 : decode cX3_mend 2 = .ok (.iload_n 2, 1) := by decide +kernel
theorem dX3_mend_3 : decode cX3_mend 3 = .ok (.bipush 24, 2) := by decide +kernel
theorem dX3_mend_5 : decode cX3_mend 5 = .ok (.if_icmp .gt 34, 3) := by decide +kernel
theorem dX3_mend_8 : decode cX3_mend 8 = .ok (.aload_n 0, 1) := by decide +kernel
theorem dX3_mend_9 : decode cX3_mend 9 = .ok (.iload_n 2, 1) := by decide +kernel
theorem dX3_mend_10 : decode cX3_mend 10 = .ok (.iconst 2, 1) := by decide +kernel
theorem dX3_mend_11 : decode cX3_mend 11 = .ok (.aload_n 0, 1) := by decide +kernel
theorem dX3_mend_12 : decode cX3_mend 12 = .ok (.iload_n 2, 1) := by decide +kernel
theorem dX3_mend_13 : decode cX3_mend 13 = .ok (.invokestatic 9, 3) := by decide +kernel
theorem dX3_mend_16 : decode cX3_mend 16 = .ok (.invokevirtual 15, 3) := by decide +kernel
theorem dX3_mend_19 : decode cX3_mend 19 = .ok (.aload_n 0, 1) := by decide +kernel
theorem dX3_mend_20 : decode cX3_mend 20 = .ok (.iload_n 2, 1) := by decide +kernel
theorem dX3_mend_21 : decode cX3_mend 21 = .ok (.iconst 4, 1) := by decide +kernel
theorem dX3_mend_22 : decode cX3_mend 22 = .ok (.iconst 0, 1) := by decide +kernel
theorem dX3_mend_23 : decode cX3_mend 23 = .ok (.invokevirtual 15, 3) := by decide +kernel
theorem dX3_mend_26 : decode cX3_mend 26 = .ok (.aload_n 0, 1) := by decide +kernel
theorem dX3_mend_27 : decode cX3_mend 27 = .ok (.iload_n 2, 1) := by decide +kernel
theorem dX3_mend_28 : decode cX3_mend 28 = .ok (.iconst 3, 1) := by decide +kernel
theorem dX3_mend_29 : decode cX3_mend 29 = .ok (.iconst 0, 1) := by decide +kernel
theorem dX3_mend_30 : decode cX3_mend 30 = .ok (.invokevirtual 15, 3) := by decide +kernel
theorem dX3_mend_33 : decode cX3_mend 33 = .ok (.iinc 2 1, 3) := by decide +kernel
theorem dX3_mend_36 : decode cX3_mend 36 = .ok (.goto (-34), 3) := by decide +kernel
theorem dX3_mend_39 : decode cX3_mend 39 = .ok (.iconst 1, 1) := by decide +kernel
theorem dX3_mend_40 : decode cX3_mend 40 = .ok (.istore_n 2, 1) := by decide +kernel
theorem dX3_mend_41 : decode cX3_mend 41 = .ok (.iload_n 2, 1) := by decide +kernel
theorem dX3_mend_42 : decode cX3_mend 42 = .ok (.bipush 24, 2) := by decide +kernel
theorem dX3_mend_44 : decode cX3_mend 44 = .ok (.if_icmp .gt 14, 3) := by decide +kernel
theorem dX3_mend_47 : decode cX3_mend 47 = .ok (.aload_n 0, 1) := by decide +kernel
theorem dX3_mend_48 : decode cX3_mend 48 = .ok (.iload_n 2, 1) := by decide +kernel
theorem dX3_mend_49 : decode cX3_mend 49 = .ok (.invokestatic 21, 3) := by decide +kernel
theorem dX3_mend_52 : decode cX3_mend 52 = .ok (.iinc 2 1, 3) := by decide +kernel
theorem dX3_mend_55 : decode cX3_mend 55 = .ok (.goto (-14), 3) := by decide +kernel
theorem dX3_mend_58 : decode cX3_mend 58 = .ok (.aload_n 0, 1) := by decide +kernel
theorem dX3_mend_59 : decode cX3_mend 59 = .ok (.iconst 1, 1) := by decide +kernel
theorem dX3_mend_60 : decode cX3_mend 60 = .ok (.iconst 4, 1) := by decide +kernel
theorem dX3_mend_61 : decode cX3_mend 61 = .ok (.iconst 1, 1) := by decide +kernel
theorem dX3_mend_62 : decode cX3_mend 62 = .ok (.invokevirtual 15, 3) := by decide +kernel
theorem dX3_mend_65 : decode cX3_mend 65 = .ok (.aload_n 0, 1) := by decide +kernel
theorem dX3_mend_66 : decode cX3_mend 66 = .ok (.aload_n 1, 1) := by decide +kernel
theorem dX3_mend_67 : decode cX3_mend 67 = .ok (.invokestatic 25, 3) := by decide +kernel
theorem dX3_mend_70 : decode cX3_mend 70 = .ok (.return_, 1) := by decide +kernel
set_option maxRecDepth 20000 in
theorem ggX3_linksOf_X5_number : GoodIn wsX3_linksOf wsX5_number := goodIn_r _ [5, 6, 7, 8, 4, 9, 29, 30] (by decide +kernel) (by decide +kernel)
set_option maxRecDepth 20000 in
theorem gX3_linksOf_X5_number : GoodIn wsX3_linksOf (wsV RX3 29 RX5 yX5_number wsX5_number) := goodIn_app (goodIn_of _ (by decide +kernel)) ggX3_linksOf_X5_number
set_option maxRecDepth 20000 in
theorem ggX3_linksOf_X5_countEntriesFor : GoodIn wsX3_linksOf wsX5_countEntriesFor := goodIn_r _ [13, 14, 15, 16, 4, 17, 6, 18, 19, 20, 29, 30] (by decide +kernel) (by decide +kernel)
set_option maxRecDepth 20000 in
theorem gX3_linksOf_X5_countEntriesFor : GoodIn wsX3_linksOf (wsV RX3 33 RX5 yX5_countEntriesFor wsX5_countEntriesFor) := goodIn_app (goodIn_of _ (by decide +kernel)) ggX3_linksOf_X5_countEntriesFor
set_option maxRecDepth 20000 in
theorem ggX3_linksOf_X5_entryPart : GoodIn wsX3_linksOf wsX5_entryPart := goodIn_r _ [17, 6, 18, 19, 4, 20, 29, 30] (by decide +kernel) (by decide +kernel)
set_option maxRecDepth 20000 in
theorem gX3_linksOf_X5_entryPart : GoodIn wsX3_linksOf (wsV RX3 37 RX5 yX5_entryPart wsX5_entryPart) := goodIn_app (goodIn_of _ (by decide +kernel)) ggX3_linksOf_X5_entryPart
set_option maxRecDepth 20000 in
theorem ggX3_linksOf_X3_isFolder : GoodIn wsX3_linksOf wsX3_isFolder := goodIn_r _ [25, 26, 27, 28, 1, 2, 3, 4, 5, 6, 7, 8, 9, 29, 30] (by decide +kernel) (by decide +kernel)
set_option maxRecDepth 20000 in
theorem gX3_linksOf_X3_isFolder : GoodIn wsX3_linksOf (va_wsS RX3 41 yX3_isFolder wsX3_isFolder) := goodIn_app (goodIn_of _ (by decide +kernel)) ggX3_linksOf_X3_isFolder
theorem dX3_linksOf_0 : decode cX3_linksOf 0 = .ok (.aload_n 0, 1) := by decide +kernel
theorem dX3_linksOf_1 : decode cX3_linksOf 1 = .ok (.iload_n 1, 1) := by decide +kernel
theorem dX3_linksOf_2 : decode cX3_linksOf 2 = .ok (.iconst 0, 1) := by decide +kernel
theorem dX3_linksOf_3 : decode cX3_linksOf 3 = .ok (.invokevirtual 29, 3) := by decide +kernel
theorem dX3_linksOf_6 : decode cX3_linksOf 6 = .ok (.iconst 2, 1) := by decide +kernel
theorem dX3_linksOf_7 : decode cX3_linksOf 7 = .ok (.if_icmp .eq 9, 3) := by decide +kernel
theorem dX3_linksOf_10 : decode cX3_linksOf 10 = .ok (.aload_n 0, 1) := by decide +kernel
theorem dX3_linksOf_11 : decode cX3_linksOf 11 = .ok (.iload_n 1, 1) := by decide +kernel
theorem dX3_linksOf_12 : decode cX3_linksOf 12 = .ok (.invokevirtual 33, 3) := by decide +kernel
theorem dX3_linksOf_15 : decode cX3_linksOf 15 = .ok (.ireturn, 1) := by decide +kernel
theorem dX3_linksOf_16 : decode cX3_linksOf 16 = .ok (.iconst 2, 1) := by decide +kernel
theorem dX3_linksOf_17 : decode cX3_linksOf 17 = .ok (.istore_n 2, 1) := by decide +kernel
theorem dX3_linksOf_18 : decode cX3_linksOf 18 = .ok (.iconst 0, 1) := by decide +kernel
theorem dX3_linksOf_19 : decode cX3_linksOf 19 = .ok (.istore_n 3, 1) := by decide +kernel
theorem dX3_linksOf_20 : decode cX3_linksOf 20 = .ok (.iload_n 3, 1) := by decide +kernel
theorem dX3_linksOf_21 : decode cX3_linksOf 21 = .ok (.bipush 8, 2) := by decide +kernel
theorem dX3_linksOf_23 : decode cX3_linksOf 23 = .ok (.if_icmp .ge 26, 3) := by decide +kernel
theorem dX3_linksOf_26 : decode cX3_linksOf 26 = .ok (.aload_n 0, 1) := by decide +kernel
theorem dX3_linksOf_27 : decode cX3_linksOf 27 = .ok (.aload_n 0, 1) := by decide +kernel
theorem dX3_linksOf_28 : decode cX3_linksOf 28 = .ok (.iload_n 1, 1) := by decide +kernel
theorem dX3_linksOf_29 : decode cX3_linksOf 29 = .ok (.iload_n 3, 1) := by decide +kernel
theorem dX3_linksOf_30 : decode cX3_linksOf 30 = .ok (.iconst 1, 1) := by decide +kernel
theorem dX3_linksOf_31 : decode cX3_linksOf 31 = .ok (.invokevirtual 37, 3) := by decide +kernel
theorem dX3_linksOf_34 : decode cX3_linksOf 34 = .ok (.invokestatic 41, 3) := by decide +kernel
theorem dX3_linksOf_37 : decode cX3_linksOf 37 = .ok (.ifCond .eq 6, 3) := by decide +kernel
theorem dX3_linksOf_40 : decode cX3_linksOf 40 = .ok (.iinc 2 1, 3) := by decide +kernel
theorem dX3_linksOf_43 : decode cX3_linksOf 43 = .ok (.iinc 3 1, 3) := by decide +kernel
theorem dX3_linksOf_46 : decode cX3_linksOf 46 = .ok (.goto (-26), 3) := by decide +kernel
theorem dX3_linksOf_49 : decode cX3_linksOf 49 = .ok (.iload_n 2, 1) := by decide +kernel
theorem dX3_linksOf_50 : decode cX3_linksOf 50 = .ok (.ireturn, 1) := by decide +kernel
set_option maxRecDepth 20000 in
theorem ggX3_becomeParent_X5_entryPart : GoodIn wsX3_becomeParent wsX5_entryPart := goodIn_r _ [5, 6, 7, 8, 4, 9, 28, 29] (by decide +kernel) (by decide +kernel)
set_option maxRecDepth 20000 in
theorem gX3_becomeParent_X5_entryPart : GoodIn wsX3_becomeParent (wsV RX3 37 RX5 yX5_entryPart wsX5_entryPart) := goodIn_app (goodIn_of _ (by decide +kernel)) ggX3_becomeParent_X5_entryPart
set_option maxRecDepth 20000 in
theorem ggX3_becomeParent_X3_isFolder : GoodIn wsX3_becomeParent wsX3_isFolder := goodIn_r _ [13, 14, 15, 16, 17, 18, 19, 4, 20, 6, 21, 22, 23, 28, 29] (by decide +kernel) (by decide +kernel)
set_option maxRecDepth 20000 in
theorem gX3_becomeParent_X3_isFolder : GoodIn wsX3_becomeParent (va_wsS RX3 41 yX3_isFolder wsX3_isFolder) := goodIn_app (goodIn_of _ (by decide +kernel)) ggX3_becomeParent_X3_isFolder
set_option maxRecDepth 20000 in
theorem ggX3_becomeParent_X5_putNumber : GoodIn wsX3_becomeParent wsX5_putNumber := goodIn_r _ [27, 6, 21, 22, 4, 23, 28, 29] (by decide +kernel) (by decide +kernel)
set_option maxRecDepth 20000 in
theorem gX3_becomeParent_X5_putNumber : GoodIn wsX3_becomeParent (wsV RX3 15 RX5 yX5_putNumber wsX5_putNumber) := goodIn_app (goodIn_of _ (by decide +kernel)) ggX3_becomeParent_X5_putNumber
theorem dX3_becomeParent_0 : decode cX3_becomeParent 0 = .ok (.iconst 0, 1) := by decide +kernel
theorem dX3_becomeParent_1 : decode cX3_becomeParent 1 = .ok (.istore_n 2, 1) := by decide +kernel
theorem dX3_becomeParent_2 : decode cX3_becomeParent 2 = .ok (.iload_n 2, 1) := by decide +kernel
theorem dX3_becomeParent_3 : decode cX3_becomeParent 3 = .ok (.bipush 8, 2) := by decide +kernel
theorem dX3_becomeParent_5 : decode cX3_becomeParent 5 = .ok (.if_icmp .ge 32, 3) := by decide +kernel
theorem dX3_becomeParent_8 : decode cX3_becomeParent 8 = .ok (.aload_n 0, 1) := by decide +kernel
theorem dX3_becomeParent_9 : decode cX3_becomeParent 9 = .ok (.iload_n 1, 1) := by decide +kernel
theorem dX3_becomeParent_10 : decode cX3_becomeParent 10 = .ok (.iload_n 2, 1) := by decide +kernel
theorem dX3_becomeParent_11 : decode cX3_becomeParent 11 = .ok (.iconst 1, 1) := by decide +kernel
theorem dX3_becomeParent_12 : decode cX3_becomeParent 12 = .ok (.invokevirtual 37, 3) := by decide +kernel
theorem dX3_becomeParent_15 : decode cX3_becomeParent 15 = .ok (.istore_n 3, 1) := by decide +kernel
theorem dX3_becomeParent_16 : decode cX3_becomeParent 16 = .ok (.aload_n 0, 1) := by decide +kernel
theorem dX3_becomeParent_17 : decode cX3_becomeParent 17 = .ok (.iload_n 3, 1) := by decide +kernel
theorem dX3_becomeParent_18 : decode cX3_becomeParent 18 = .ok (.invokestatic 41, 3) := by decide +kernel
