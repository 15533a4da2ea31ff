theorem dX5_putEntry_23 : decode cX5_putEntry 23 = .ok (.iconst 1, 1) := by decide +kernel
theorem dX5_putEntry_24 : decode cX5_putEntry 24 = .ok (.iadd, 1) := by decide +kernel
theorem dX5_putEntry_25 : decode cX5_putEntry 25 = .ok (.iload 4, 2) := by decide +kernel
theorem dX5_putEntry_27 : decode cX5_putEntry 27 = .ok (.iastore, 1) := by decide +kernel
theorem dX5_putEntry_28 : decode cX5_putEntry 28 = .ok (.aload_n 0, 1) := by decide +kernel
theorem dX5_putEntry_29 : decode cX5_putEntry 29 = .ok (.getfield 11, 3) := by decide +kernel
theorem dX5_putEntry_32 : decode cX5_putEntry 32 = .ok (.iload 6, 2) := by decide +kernel
theorem dX5_putEntry_34 : decode cX5_putEntry 34 = .ok (.iconst 2, 1) := by decide +kernel
theorem dX5_putEntry_35 : decode cX5_putEntry 35 = .ok (.iadd, 1) := by decide +kernel
theorem dX5_putEntry_36 : decode cX5_putEntry 36 = .ok (.iload 5, 2) := by decide +kernel
theorem dX5_putEntry_38 : decode cX5_putEntry 38 = .ok (.iastore, 1) := by decide +kernel
theorem dX5_putEntry_39 : decode cX5_putEntry 39 = .ok (.return_, 1) := by decide +kernel
set_option maxRecDepth 20000 in
theorem ggX5_bitOf_X5_bitCell : GoodIn wsX5_bitOf wsX5_bitCell := goodIn_r _ [5] (by decide +kernel) (by decide +kernel)
set_option maxRecDepth 20000 in
theorem gX5_bitOf_X5_bitCell : GoodIn wsX5_bitOf (va_wsS RX5 49 yX5_bitCell wsX5_bitCell) := goodIn_app (goodIn_of _ (by decide +kernel)) ggX5_bitOf_X5_bitCell
theorem dX5_bitOf_0 : decode cX5_bitOf 0 = .ok (.aload_n 0, 1) := by decide +kernel
theorem dX5_bitOf_1 : decode cX5_bitOf 1 = .ok (.getfield 11, 3) := by decide +kernel
theorem dX5_bitOf_4 : decode cX5_bitOf 4 = .ok (.iload_n 1, 1) := by decide +kernel
theorem dX5_bitOf_5 : decode cX5_bitOf 5 = .ok (.iload_n 2, 1) := by decide +kernel
theorem dX5_bitOf_6 : decode cX5_bitOf 6 = .ok (.invokestatic 49, 3) := by decide +kernel
theorem dX5_bitOf_9 : decode cX5_bitOf 9 = .ok (.iaload, 1) := by decide +kernel
theorem dX5_bitOf_10 : decode cX5_bitOf 10 = .ok (.ireturn, 1) := by decide +kernel
set_option maxRecDepth 20000 in
theorem ggX5_putBit_X5_bitCell : GoodIn wsX5_putBit wsX5_bitCell := goodIn_r _ [5] (by decide +kernel) (by decide +kernel)
set_option maxRecDepth 20000 in
theorem gX5_putBit_X5_bitCell : GoodIn wsX5_putBit (va_wsS RX5 49 yX5_bitCell wsX5_bitCell) := goodIn_app (goodIn_of _ (by decide +kernel)) ggX5_putBit_X5_bitCell
theorem dX5_putBit_0 : decode cX5_putBit 0 = .ok (.aload_n 0, 1) := by decide +kernel
theorem dX5_putBit_1 : decode cX5_putBit 1 = .ok (.getfield 11, 3) := by decide +kernel
theorem dX5_putBit_4 : decode cX5_putBit 4 = .ok (.iload_n 1, 1) := by decide +kernel
theorem dX5_putBit_5 : decode cX5_putBit 5 = .ok (.iload_n 2, 1) := by decide +kernel
theorem dX5_putBit_6 : decode cX5_putBit 6 = .ok (.invokestatic 49, 3) := by decide +kernel
theorem dX5_putBit_9 : decode cX5_putBit 9 = .ok (.iload_n 3, 1) := by decide +kernel
theorem dX5_putBit_10 : decode cX5_putBit 10 = .ok (.iastore, 1) := by decide +kernel
theorem dX5_putBit_11 : decode cX5_putBit 11 = .ok (.return_, 1) := by decide +kernel
theorem dX5_toldNumber_0 : decode cX5_toldNumber 0 = .ok (.aload_n 0, 1) := by decide +kernel
theorem dX5_toldNumber_1 : decode cX5_toldNumber 1 = .ok (.getfield 11, 3) := by decide +kernel
theorem dX5_toldNumber_4 : decode cX5_toldNumber 4 = .ok (.sipush 1352, 3) := by decide +kernel
theorem dX5_toldNumber_7 : decode cX5_toldNumber 7 = .ok (.iload_n 1, 1) := by decide +kernel
theorem dX5_toldNumber_8 : decode cX5_toldNumber 8 = .ok (.iadd, 1) := by decide +kernel
theorem dX5_toldNumber_9 : decode cX5_toldNumber 9 = .ok (.iaload, 1) := by decide +kernel
theorem dX5_toldNumber_10 : decode cX5_toldNumber 10 = .ok (.ireturn, 1) := by decide +kernel
theorem dX5_putTold_0 : decode cX5_putTold 0 = .ok (.aload_n 0, 1) := by decide +kernel
theorem dX5_putTold_1 : decode cX5_putTold 1 = .ok (.getfield 11, 3) := by decide +kernel
theorem dX5_putTold_4 : decode cX5_putTold 4 = .ok (.sipush 1352, 3) := by decide +kernel
theorem dX5_putTold_7 : decode cX5_putTold 7 = .ok (.iload_n 1, 1) := by decide +kernel
theorem dX5_putTold_8 : decode cX5_putTold 8 = .ok (.iadd, 1) := by decide +kernel
theorem dX5_putTold_9 : decode cX5_putTold 9 = .ok (.iload_n 2, 1) := by decide +kernel
theorem dX5_putTold_10 : decode cX5_putTold 10 = .ok (.iastore, 1) := by decide +kernel
theorem dX5_putTold_11 : decode cX5_putTold 11 = .ok (.return_, 1) := by decide +kernel
set_option maxRecDepth 20000 in
theorem ggX5_wipeFile_X5_fileCell : GoodIn wsX5_wipeFile wsX5_fileCell := goodIn_r _ [4] (by decide +kernel) (by decide +kernel)
set_option maxRecDepth 20000 in
theorem gX5_wipeFile_X5_fileCell : GoodIn wsX5_wipeFile (va_wsS RX5 38 yX5_fileCell wsX5_fileCell) := goodIn_app (goodIn_of _ (by decide +kernel)) ggX5_wipeFile_X5_fileCell
set_option maxRecDepth 20000 in
theorem ggX5_wipeFile_X5_wipeCells : GoodIn wsX5_wipeFile wsX5_wipeCells := goodIn_r _ [8, 9, 10, 11] (by decide +kernel) (by decide +kernel)
set_option maxRecDepth 20000 in
theorem gX5_wipeFile_X5_wipeCells : GoodIn wsX5_wipeFile (wsV RX5 18 RX5 yX5_wipeCells wsX5_wipeCells) := goodIn_app (goodIn_of _ (by decide +kernel)) ggX5_wipeFile_X5_wipeCells
theorem dX5_wipeFile_0 : decode cX5_wipeFile 0 = .ok (.aload_n 0, 1) := by decide +kernel
theorem dX5_wipeFile_1 : decode cX5_wipeFile 1 = .ok (.iload_n 1, 1) := by decide +kernel
theorem dX5_wipeFile_2 : decode cX5_wipeFile 2 = .ok (.invokestatic 38, 3) := by decide +kernel
theorem dX5_wipeFile_5 : decode cX5_wipeFile 5 = .ok (.iload_n 1, 1) := by decide +kernel
theorem dX5_wipeFile_6 : decode cX5_wipeFile 6 = .ok (.invokestatic 38, 3) := by decide +kernel
theorem dX5_wipeFile_9 : decode cX5_wipeFile 9 = .ok (.bipush 47, 2) := by decide +kernel
theorem dX5_wipeFile_11 : decode cX5_wipeFile 11 = .ok (.iadd, 1) := by decide +kernel
theorem dX5_wipeFile_12 : decode cX5_wipeFile 12 = .ok (.invokevirtual 18, 3) := by decide +kernel
theorem dX5_wipeFile_15 : decode cX5_wipeFile 15 = .ok (.return_, 1) := by decide +kernel
set_option maxRecDepth 20000 in
theorem ggX5_wipeRunsFrom_X5_runCell : GoodIn wsX5_wipeRunsFrom wsX5_runCell := goodIn_r _ [4] (by decide +kernel) (by decide +kernel)
set_option maxRecDepth 20000 in
theorem gX5_wipeRunsFrom_X5_runCell : GoodIn wsX5_wipeRunsFrom (va_wsS RX5 42 yX5_runCell wsX5_runCell) := goodIn_app (goodIn_of _ (by decide +kernel)) ggX5_wipeRunsFrom_X5_runCell
set_option maxRecDepth 20000 in
theorem ggX5_wipeRunsFrom_X5_wipeCells : GoodIn wsX5_wipeRunsFrom wsX5_wipeCells := goodIn_r _ [8, 9, 10, 11] (by decide +kernel) (by decide +kernel)
set_option maxRecDepth 20000 in
theorem gX5_wipeRunsFrom_X5_wipeCells : GoodIn wsX5_wipeRunsFrom (wsV RX5 18 RX5 yX5_wipeCells wsX5_wipeCells) := goodIn_app (goodIn_of _ (by decide +kernel)) ggX5_wipeRunsFrom_X5_wipeCells
theorem dX5_wipeRunsFrom_0 : decode cX5_wipeRunsFrom 0 = .ok (.aload_n 0, 1) := by decide +kernel
theorem dX5_wipeRunsFrom_1 : decode cX5_wipeRunsFrom 1 = .ok (.iload_n 1, 1) := by decide +kernel
theorem dX5_wipeRunsFrom_2 : decode cX5_wipeRunsFrom 2 = .ok (.iload_n 2, 1) := by decide +kernel
theorem dX5_wipeRunsFrom_3 : decode cX5_wipeRunsFrom 3 = .ok (.invokestatic 42, 3) := by decide +kernel
theorem dX5_wipeRunsFrom_6 : decode cX5_wipeRunsFrom 6 = .ok (.iload_n 1, 1) := by decide +kernel
theorem dX5_wipeRunsFrom_7 : decode cX5_wipeRunsFrom 7 = .ok (.bipush 6, 2) := by decide +kernel
theorem dX5_wipeRunsFrom_9 : decode cX5_wipeRunsFrom 9 = .ok (.invokestatic 42, 3) := by decide +kernel
theorem dX5_wipeRunsFrom_12 : decode cX5_wipeRunsFrom 12 = .ok (.invokevirtual 18, 3) := by decide +kernel
theorem dX5_wipeRunsFrom_15 : decode cX5_wipeRunsFrom 15 = .ok (.return_, 1) := by decide +kernel
set_option maxRecDepth 20000 in
theorem ggX5_wipeEntriesFrom_X5_entryCell : GoodIn wsX5_wipeEntriesFrom wsX5_entryCell := goodIn_r _ [4] (by decide +kernel) (by decide +kernel)
set_option maxRecDepth 20000 in
theorem gX5_wipeEntriesFrom_X5_entryCell : GoodIn wsX5_wipeEntriesFrom (va_wsS RX5 46 yX5_entryCell wsX5_entryCell) := goodIn_app (goodIn_of _ (by decide +kernel)) ggX5_wipeEntriesFrom_X5_entryCell
set_option maxRecDepth 20000 in
theorem ggX5_wipeEntriesFrom_X5_wipeCells : GoodIn wsX5_wipeEntriesFrom wsX5_wipeCells := goodIn_r _ [8, 9, 10, 11] (by decide +kernel) (by decide +kernel)
set_option maxRecDepth 20000 in
theorem gX5_wipeEntriesFrom_X5_wipeCells : GoodIn wsX5_wipeEntriesFrom (wsV RX5 18 RX5 yX5_wipeCells wsX5_wipeCells) := goodIn_app (goodIn_of _ (by decide +kernel)) ggX5_wipeEntriesFrom_X5_wipeCells
theorem dX5_wipeEntriesFrom_0 : decode cX5_wipeEntriesFrom 0 = .ok (.aload_n 0, 1) := by decide +kernel
theorem dX5_wipeEntriesFrom_1 : decode cX5_wipeEntriesFrom 1 = .ok (.iload_n 1, 1) := by decide +kernel
theorem dX5_wipeEntriesFrom_2 : decode cX5_wipeEntriesFrom 2 = .ok (.iload_n 2, 1) := by decide +kernel
theorem dX5_wipeEntriesFrom_3 : decode cX5_wipeEntriesFrom 3 = .ok (.invokestatic 46, 3) := by decide +kernel
theorem dX5_wipeEntriesFrom_6 : decode cX5_wipeEntriesFrom 6 = .ok (.iload_n 1, 1) := by decide +kernel
theorem dX5_wipeEntriesFrom_7 : decode cX5_wipeEntriesFrom 7 = .ok (.bipush 8, 2) := by decide +kernel
theorem dX5_wipeEntriesFrom_9 : decode cX5_wipeEntriesFrom 9 = .ok (.invokestatic 46, 3) := by decide +kernel
theorem dX5_wipeEntriesFrom_12 : decode cX5_wipeEntriesFrom 12 = .ok (.invokevirtual 18, 3) := by decide +kernel
theorem dX5_wipeEntriesFrom_15 : decode cX5_wipeEntriesFrom 15 = .ok (.return_, 1) := by decide +kernel
set_option maxRecDepth 20000 in
theorem ggX5_placeOfName_X5_entryPart : GoodIn wsX5_placeOfName wsX5_entryPart := goodIn_r _ [5, 6, 7, 8, 4, 9, 10, 11] (by decide +kernel) (by decide +kernel)
set_option maxRecDepth 20000 in
theorem gX5_placeOfName_X5_entryPart : GoodIn wsX5_placeOfName (wsV RX5 52 RX5 yX5_entryPart wsX5_entryPart) := goodIn_app (goodIn_of _ (by decide +kernel)) ggX5_placeOfName_X5_entryPart
theorem dX5_placeOfName_0 : decode cX5_placeOfName 0 = .ok (.iconst 0, 1) := by decide +kernel
theorem dX5_placeOfName_1 : decode cX5_placeOfName 1 = .ok (.istore 4, 2) := by decide +kernel
theorem dX5_placeOfName_3 : decode cX5_placeOfName 3 = .ok (.iload 4, 2) := by decide +kernel
theorem dX5_placeOfName_5 : decode cX5_placeOfName 5 = .ok (.iload_n 2, 1) := by decide +kernel
theorem dX5_placeOfName_6 : decode cX5_placeOfName 6 = .ok (.if_icmp .ge 24, 3) := by decide +kernel
theorem dX5_placeOfName_9 : decode cX5_placeOfName 9 = .ok (.aload_n 0, 1) := by decide +kernel
theorem dX5_placeOfName_10 : decode cX5_placeOfName 10 = .ok (.iload_n 1, 1) := by decide +kernel
theorem dX5_placeOfName_11 : decode cX5_placeOfName 11 = .ok (.iload 4, 2) := by decide +kernel
theorem dX5_placeOfName_13 : decode cX5_placeOfName 13 = .ok (.iconst 0, 1) := by decide +kernel
theorem dX5_placeOfName_14 : decode cX5_placeOfName 14 = .ok (.invokevirtual 52, 3) := by decide +kernel
theorem dX5_placeOfName_17 : decode cX5_placeOfName 17 = .ok (.iload_n 3, 1) := by decide +kernel
theorem dX5_placeOfName_18 : decode cX5_placeOfName 18 = .ok (.if_icmp .ne 6, 3) := by decide +kernel
theorem dX5_placeOfName_21 : decode cX5_placeOfName 21 = .ok (.iload 4, 2) := by decide +kernel
theorem dX5_placeOfName_23 : decode cX5_placeOfName 23 = .ok (.ireturn, 1) := by decide +kernel
theorem dX5_placeOfName_24 : decode cX5_placeOfName 24 = .ok (.iinc 4 1, 3) := by decide +kernel
theorem dX5_placeOfName_27 : decode cX5_placeOfName 27 = .ok (.goto (-24), 3) := by decide +kernel
theorem dX5_placeOfName_30 : decode cX5_placeOfName 30 = .ok (.iload_n 2, 1) := by decide +kernel
theorem dX5_placeOfName_31 : decode cX5_placeOfName 31 = .ok (.ireturn, 1) := by decide +kernel
set_option maxRecDepth 20000 in
theorem ggX5_countEntriesFor_X5_entryPart : GoodIn wsX5_countEntriesFor wsX5_entryPart := goodIn_r _ [5, 6, 7, 8, 4, 9, 10, 11] (by decide +kernel) (by decide +kernel)
set_option maxRecDepth 20000 in
theorem gX5_countEntriesFor_X5_entryPart : GoodIn wsX5_countEntriesFor (wsV RX5 52 RX5 yX5_entryPart wsX5_entryPart) := goodIn_app (goodIn_of _ (by decide +kernel)) ggX5_countEntriesFor_X5_entryPart
theorem dX5_countEntriesFor_0 : decode cX5_countEntriesFor 0 = .ok (.iconst 0, 1) := by decide +kernel
theorem dX5_countEntriesFor_1 : decode cX5_countEntriesFor 1 = .ok (.istore_n 2, 1) := by decide +kernel
theorem dX5_countEntriesFor_2 : decode cX5_countEntriesFor 2 = .ok (.iconst 1, 1) := by decide +kernel
theorem dX5_countEntriesFor_3 : decode cX5_countEntriesFor 3 = .ok (.istore_n 3, 1) := by decide +kernel
theorem dX5_countEntriesFor_4 : decode cX5_countEntriesFor 4 = .ok (.iload_n 3, 1) := by decide +kernel
theorem dX5_countEntriesFor_5 : decode cX5_countEntriesFor 5 = .ok (.bipush 24, 2) := by decide +kernel
theorem dX5_countEntriesFor_7 : decode cX5_countEntriesFor 7 = .ok (.if_icmp .gt 40, 3) := by decide +kernel
theorem dX5_countEntriesFor_10 : decode cX5_countEntriesFor 10 = .ok (.iconst 0, 1) := by decide +kernel
theorem dX5_countEntriesFor_11 : decode cX5_countEntriesFor 11 = .ok (.istore 4, 2) := by decide +kernel
theorem dX5_countEntriesFor_13 : decode cX5_countEntriesFor 13 = .ok (.iload 4, 2) := by decide +kernel
theorem dX5_countEntriesFor_15 : decode cX5_countEntriesFor 15 = .ok (.bipush 8, 2) := by decide +kernel
theorem dX5_countEntriesFor_17 : decode cX5_countEntriesFor 17 = .ok (.if_icmp .ge 24, 3) := by decide +kernel
theorem dX5_countEntriesFor_20 : decode cX5_countEntriesFor 20 = .ok (.aload_n 0, 1) := by decide +kernel
theorem dX5_countEntriesFor_21 : decode cX5_countEntriesFor 21 = .ok (.iload_n 3, 1) := by decide +kernel
theorem dX5_countEntriesFor_22 : decode cX5_countEntriesFor 22 = .ok (.iload 4, 2) := by decide +kernel
theorem dX5_countEntriesFor_24 : decode cX5_countEntriesFor 24 = .ok (.iconst 1, 1) := by decide +kernel
theorem dX5_countEntriesFor_25 : decode cX5_countEntriesFor 25 = .ok (.invokevirtual 52, 3) := by decide +kernel
theorem dX5_countEntriesFor_28 : decode cX5_countEntriesFor 28 = .ok (.iload_n 1, 1) := by decide +kernel
theorem dX5_countEntriesFor_29 : decode cX5_countEntriesFor 29 = .ok (.if_icmp .ne 6, 3) := by decide +kernel
theorem dX5_countEntriesFor_32 : decode cX5_countEntriesFor 32 = .ok (.iinc 2 1, 3) := by decide +kernel
theorem dX5_countEntriesFor_35 : decode cX5_countEntriesFor 35 = .ok (.iinc 4 1, 3) := by decide +kernel
theorem dX5_countEntriesFor_38 : decode cX5_countEntriesFor 38 = .ok (.goto (-25), 3) := by decide +kernel
theorem dX5_countEntriesFor_41 : decode cX5_countEntriesFor 41 = .ok (.iinc 3 1, 3) := by decide +kernel
theorem dX5_countEntriesFor_44 : decode cX5_countEntriesFor 44 = .ok (.goto (-40), 3) := by decide +kernel
theorem dX5_countEntriesFor_47 : decode cX5_countEntriesFor 47 = .ok (.iload_n 2, 1) := by decide +kernel
theorem dX5_countEntriesFor_48 : decode cX5_countEntriesFor 48 = .ok (.ireturn, 1) := by decide +kernel
set_option maxRecDepth 20000 in
theorem ggX5_dropEntriesFor_X5_entryPart : GoodIn wsX5_dropEntriesFor wsX5_entryPart := goodIn_r _ [5, 6, 7, 8, 4, 9, 26, 27] (by decide +kernel) (by decide +kernel)
set_option maxRecDepth 20000 in
theorem gX5_dropEntriesFor_X5_entryPart : GoodIn wsX5_dropEntriesFor (wsV RX5 52 RX5 yX5_entryPart wsX5_entryPart) := goodIn_app (goodIn_of _ (by decide +kernel)) ggX5_dropEntriesFor_X5_entryPart
set_option maxRecDepth 20000 in
theorem ggX5_dropEntriesFor_X5_moveEntry : GoodIn wsX5_dropEntriesFor wsX5_moveEntry := goodIn_r _ [13, 1, 2, 3, 4, 5, 6, 7, 8, 9, 14, 15, 16, 17, 26, 27] (by decide +kernel) (by decide +kernel)
set_option maxRecDepth 20000 in
theorem gX5_dropEntriesFor_X5_moveEntry : GoodIn wsX5_dropEntriesFor (wsV RX5 56 RX5 yX5_moveEntry wsX5_moveEntry) := goodIn_app (goodIn_of _ (by decide +kernel)) ggX5_dropEntriesFor_X5_moveEntry
set_option maxRecDepth 20000 in
theorem ggX5_dropEntriesFor_X5_wipeEntriesFrom : GoodIn wsX5_dropEntriesFor wsX5_wipeEntriesFrom := goodIn_r _ [21, 7, 8, 4, 9, 22, 23, 24, 25, 6, 26, 27] (by decide +kernel) (by decide +kernel)
set_option maxRecDepth 20000 in
theorem gX5_dropEntriesFor_X5_wipeEntriesFrom : GoodIn wsX5_dropEntriesFor (wsV RX5 59 RX5 yX5_wipeEntriesFrom wsX5_wipeEntriesFrom) := goodIn_app (goodIn_of _ (by decide +kernel)) ggX5_dropEntriesFor_X5_wipeEntriesFrom
theorem dX5_dropEntriesFor_0 : decode cX5_dropEntriesFor 0 = .ok (.iconst 1, 1) := by decide +kernel
theorem dX5_dropEntriesFor_1 : decode cX5_dropEntriesFor 1 = .ok (.istore_n 2, 1) := by decide +kernel
theorem dX5_dropEntriesFor_2 : decode cX5_dropEntriesFor 2 = .ok (.iload_n 2, 1) := by decide +kernel
theorem dX5_dropEntriesFor_3 : decode cX5_dropEntriesFor 3 = .ok (.bipush 24, 2) := by decide +kernel
theorem dX5_dropEntriesFor_5 : decode cX5_dropEntriesFor 5 = .ok (.if_icmp .gt 56, 3) := by decide +kernel
theorem dX5_dropEntriesFor_8 : decode cX5_dropEntriesFor 8 = .ok (.iconst 0, 1) := by decide +kernel
theorem dX5_dropEntriesFor_9 : decode cX5_dropEntriesFor 9 = .ok (.istore_n 3, 1) := by decide +kernel
theorem dX5_dropEntriesFor_10 : decode cX5_dropEntriesFor 10 = .ok (.iconst 0, 1) := by decide +kernel
theorem dX5_dropEntriesFor_11 : decode cX5_dropEntriesFor 11 = .ok (.istore 4, 2) := by decide +kernel
theorem dX5_dropEntriesFor_13 : decode cX5_dropEntriesFor 13 = .ok (.iload 4, 2) := by decide +kernel
theorem dX5_dropEntriesFor_15 : decode cX5_dropEntriesFor 15 = .ok (.bipush 8, 2) := by decide +kernel
theorem dX5_dropEntriesFor_17 : decode cX5_dropEntriesFor 17 = .ok (.if_icmp .ge 32, 3) := by decide +kernel
theorem dX5_dropEntriesFor_20 : decode cX5_dropEntriesFor 20 = .ok (.aload_n 0, 1) := by decide +kernel
theorem dX5_dropEntriesFor_21 : decode cX5_dropEntriesFor 21 = .ok (.iload_n 2, 1) := by decide +kernel
theorem dX5_dropEntriesFor_22 : decode cX5_dropEntriesFor 22 = .ok (.iload 4, 2) := by decide +kernel
theorem dX5_dropEntriesFor_24 : decode cX5_dropEntriesFor 24 = .ok (.iconst 1, 1) := by decide +kernel
theorem dX5_dropEntriesFor_25 : decode cX5_dropEntriesFor 25 = .ok (.invokevirtual 52, 3) := by decide +kernel
theorem dX5_dropEntriesFor_28 : decode cX5_dropEntriesFor 28 = .ok (.iload_n 1, 1) := by decide +kernel
theorem dX5_dropEntriesFor_29 : decode cX5_dropEntriesFor 29 = .ok (.if_icmp .eq 14, 3) := by decide +kernel
theorem dX5_dropEntriesFor_32 : decode cX5_dropEntriesFor 32 = .ok (.aload_n 0, 1) := by decide +kernel
theorem dX5_dropEntriesFor_33 : decode cX5_dropEntriesFor 33 = .ok (.iload_n 2, 1) := by decide +kernel
theorem dX5_dropEntriesFor_34 : decode cX5_dropEntriesFor 34 = .ok (.iload 4, 2) := by decide +kernel
theorem dX5_dropEntriesFor_36 : decode cX5_dropEntriesFor 36 = .ok (.iload_n 3, 1) := by decide +kernel
theorem dX5_dropEntriesFor_37 : decode cX5_dropEntriesFor 37 = .ok (.invokevirtual 56, 3) := by decide +kernel
theorem dX5_dropEntriesFor_40 : decode cX5_dropEntriesFor 40 = .ok (.iinc 3 1, 3) := by decide +kernel
theorem dX5_dropEntriesFor_43 : decode cX5_dropEntriesFor 43 = .ok (.iinc 4 1, 3) := by decide +kernel
theorem dX5_dropEntriesFor_46 : decode cX5_dropEntriesFor 46 = .ok (.goto (-33), 3) := by decide +kernel
theorem dX5_dropEntriesFor_49 : decode cX5_dropEntriesFor 49 = .ok (.aload_n 0, 1) := by decide +kernel
theorem dX5_dropEntriesFor_50 : decode cX5_dropEntriesFor 50 = .ok (.iload_n 2, 1) := by decide +kernel
theorem dX5_dropEntriesFor_51 : decode cX5_dropEntriesFor 51 = .ok (.iload_n 3, 1) := by decide +kernel
theorem dX5_dropEntriesFor_52 : decode cX5_dropEntriesFor 52 = .ok (.invokevirtual 59, 3) := by decide +kernel
theorem dX5_dropEntriesFor_55 : decode cX5_dropEntriesFor 55 = .ok (.iinc 2 1, 3) := by decide +kernel
theorem dX5_dropEntriesFor_58 : decode cX5_dropEntriesFor 58 = .ok (.goto (-56), 3) := by decide +kernel
theorem dX5_dropEntriesFor_61 : decode cX5_dropEntriesFor 61 = .ok (.return_, 1) := by decide +kernel
set_option maxRecDepth 20000 in
theorem ggX5_moveEntry_X5_entryPart : GoodIn wsX5_moveEntry wsX5_entryPart := goodIn_r _ [5, 6, 7, 8, 4, 9, 14, 15] (by decide +kernel) (by decide +kernel)
set_option maxRecDepth 20000 in
theorem gX5_moveEntry_X5_entryPart : GoodIn wsX5_moveEntry (wsV RX5 52 RX5 yX5_entryPart wsX5_entryPart) := goodIn_app (goodIn_of _ (by decide +kernel)) ggX5_moveEntry_X5_entryPart
set_option maxRecDepth 20000 in
theorem ggX5_moveEntry_X5_putEntry : GoodIn wsX5_moveEntry wsX5_putEntry := goodIn_r _ [13, 6, 7, 8, 4, 9, 14, 15] (by decide +kernel) (by decide +kernel)
set_option maxRecDepth 20000 in
theorem gX5_moveEntry_X5_putEntry : GoodIn wsX5_moveEntry (wsV RX5 62 RX5 yX5_putEntry wsX5_putEntry) := goodIn_app (goodIn_of _ (by decide +kernel)) ggX5_moveEntry_X5_putEntry
theorem dX5_moveEntry_0 : decode cX5_moveEntry 0 = .ok (.aload_n 0, 1) := by decide +kernel
theorem dX5_moveEntry_1 : decode cX5_moveEntry 1 = .ok (.iload_n 1, 1) := by decide +kernel
theorem dX5_moveEntry_2 : decode cX5_moveEntry 2 = .ok (.iload_n 3, 1) := by decide +kernel
theorem dX5_moveEntry_3 : decode cX5_moveEntry 3 = .ok (.aload_n 0, 1) := by decide +kernel
theorem dX5_moveEntry_4 : decode cX5_moveEntry 4 = .ok (.iload_n 1, 1) := by decide +kernel
theorem dX5_moveEntry_5 : decode cX5_moveEntry 5 = .ok (.iload_n 2, 1) := by decide +kernel
theorem dX5_moveEntry_6 : decode cX5_moveEntry 6 = .ok (.iconst 0, 1) := by decide +kernel
theorem dX5_moveEntry_7 : decode cX5_moveEntry 7 = .ok (.invokevirtual 52, 3) := by decide +kernel
theorem dX5_moveEntry_10 : decode cX5_moveEntry 10 = .ok (.aload_n 0, 1) := by decide +kernel
theorem dX5_moveEntry_11 : decode cX5_moveEntry 11 = .ok (.iload_n 1, 1) := by decide +kernel
theorem dX5_moveEntry_12 : decode cX5_moveEntry 12 = .ok (.iload_n 2, 1) := by decide +kernel
theorem dX5_moveEntry_13 : decode cX5_moveEntry 13 = .ok (.iconst 1, 1) := by decide +kernel
theorem dX5_moveEntry_14 : decode cX5_moveEntry 14 = .ok (.invokevirtual 52, 3) := by decide +kernel
theorem dX5_moveEntry_17 : decode cX5_moveEntry 17 = .ok (.aload_n 0, 1) := by decide +kernel
theorem dX5_moveEntry_18 : decode cX5_moveEntry 18 = .ok (.iload_n 1, 1) := by decide +kernel
theorem dX5_moveEntry_19 : decode cX5_moveEntry 19 = .ok (.iload_n 2, 1) := by decide +kernel
theorem dX5_moveEntry_20 : decode cX5_moveEntry 20 = .ok (.iconst 2, 1) := by decide +kernel
theorem dX5_moveEntry_21 : decode cX5_moveEntry 21 = .ok (.invokevirtual 52, 3) := by decide +kernel
theorem dX5_moveEntry_24 : decode cX5_moveEntry 24 = .ok (.invokevirtual 62, 3) := by decide +kernel
theorem dX5_moveEntry_27 : decode cX5_moveEntry 27 = .ok (.return_, 1) := by decide +kernel
theorem dX5_wipeCells_0 : decode cX5_wipeCells 0 = .ok (.iload_n 1, 1) := by decide +kernel
theorem dX5_wipeCells_1 : decode cX5_wipeCells 1 = .ok (.istore_n 3, 1) := by decide +kernel
theorem dX5_wipeCells_2 : decode cX5_wipeCells 2 = .ok (.iload_n 3, 1) := by decide +kernel
theorem dX5_wipeCells_3 : decode cX5_wipeCells 3 = .ok (.iload_n 2, 1) := by decide +kernel
theorem dX5_wipeCells_4 : decode cX5_wipeCells 4 = .ok (.if_icmp .ge 16, 3) := by decide +kernel
theorem dX5_wipeCells_7 : decode cX5_wipeCells 7 = .ok (.aload_n 0, 1) := by decide +kernel
theorem dX5_wipeCells_8 : decode cX5_wipeCells 8 = .ok (.getfield 11, 3) := by decide +kernel
theorem dX5_wipeCells_11 : decode cX5_wipeCells 11 = .ok (.iload_n 3, 1) := by decide +kernel
theorem dX5_wipeCells_12 : decode cX5_wipeCells 12 = .ok (.iconst 0, 1) := by decide +kernel
theorem dX5_wipeCells_13 : decode cX5_wipeCells 13 = .ok (.iastore, 1) := by decide +kernel
theorem dX5_wipeCells_14 : decode cX5_wipeCells 14 = .ok (.iinc 3 1, 3) := by decide +kernel
theorem dX5_wipeCells_17 : decode cX5_wipeCells 17 = .ok (.goto (-15), 3) := by decide +kernel
theorem dX5_wipeCells_20 : decode cX5_wipeCells 20 = .ok (.return_, 1) := by decide +kernel
theorem dX5_fileCell_0 : decode cX5_fileCell 0 = .ok (.iload_n 0, 1) := by decide +kernel
theorem dX5_fileCell_1 : decode cX5_fileCell 1 = .ok (.iconst 1, 1) := by decide +kernel
theorem dX5_fileCell_2 : decode cX5_fileCell 2 = .ok (.isub, 1) := by decide +kernel
theorem dX5_fileCell_3 : decode cX5_fileCell 3 = .ok (.bipush 47, 2) := by decide +kernel
theorem dX5_fileCell_5 : decode cX5_fileCell 5 = .ok (.imul, 1) := by decide +kernel
theorem dX5_fileCell_6 : decode cX5_fileCell 6 = .ok (.ireturn, 1) := by decide +kernel
theorem dX5_runCell_0 : decode cX5_runCell 0 = .ok (.iload_n 0, 1) := by decide +kernel
theorem dX5_runCell_1 : decode cX5_runCell 1 = .ok (.iconst 1, 1) := by decide +kernel
theorem dX5_runCell_2 : decode cX5_runCell 2 = .ok (.isub, 1) := by decide +kernel
theorem dX5_runCell_3 : decode cX5_runCell 3 = .ok (.bipush 47, 2) := by decide +kernel
theorem dX5_runCell_5 : decode cX5_runCell 5 = .ok (.imul, 1) := by decide +kernel
theorem dX5_runCell_6 : decode cX5_runCell 6 = .ok (.iconst 5, 1) := by decide +kernel
theorem dX5_runCell_7 : decode cX5_runCell 7 = .ok (.iadd, 1) := by decide +kernel
theorem dX5_runCell_8 : decode cX5_runCell 8 = .ok (.iload_n 1, 1) := by decide +kernel
theorem dX5_runCell_9 : decode cX5_runCell 9 = .ok (.iconst 3, 1) := by decide +kernel
theorem dX5_runCell_10 : decode cX5_runCell 10 = .ok (.imul, 1) := by decide +kernel
theorem dX5_runCell_11 : decode cX5_runCell 11 = .ok (.iadd, 1) := by decide +kernel
theorem dX5_runCell_12 : decode cX5_runCell 12 = .ok (.ireturn, 1) := by decide +kernel
theorem dX5_entryCell_0 : decode cX5_entryCell 0 = .ok (.iload_n 0, 1) := by decide +kernel
theorem dX5_entryCell_1 : decode cX5_entryCell 1 = .ok (.iconst 1, 1) := by decide +kernel
theorem dX5_entryCell_2 : decode cX5_entryCell 2 = .ok (.isub, 1) := by decide +kernel
theorem dX5_entryCell_3 : decode cX5_entryCell 3 = .ok (.bipush 47, 2) := by decide +kernel
theorem dX5_entryCell_5 : decode cX5_entryCell 5 = .ok (.imul, 1) := by decide +kernel
theorem dX5_entryCell_6 : decode cX5_entryCell 6 = .ok (.bipush 23, 2) := by decide +kernel
theorem dX5_entryCell_8 : decode cX5_entryCell 8 = .ok (.iadd, 1) := by decide +kernel
theorem dX5_entryCell_9 : decode cX5_entryCell 9 = .ok (.iload_n 1, 1) := by decide +kernel
theorem dX5_entryCell_10 : decode cX5_entryCell 10 = .ok (.iconst 3, 1) := by decide +kernel
theorem dX5_entryCell_11 : decode cX5_entryCell 11 = .ok (.imul, 1) := by decide +kernel
theorem dX5_entryCell_12 : decode cX5_entryCell 12 = .ok (.iadd, 1) := by decide +kernel
theorem dX5_entryCell_13 : decode cX5_entryCell 13 = .ok (.ireturn, 1) := by decide +kernel
theorem dX5_bitCell_0 : decode cX5_bitCell 0 = .ok (.iload_n 0, 1) := by decide +kernel
theorem dX5_bitCell_1 : decode cX5_bitCell 1 = .ok (.ifCond .ne 9, 3) := by decide +kernel
theorem dX5_bitCell_4 : decode cX5_bitCell 4 = .ok (.sipush 1128, 3) := by decide +kernel
theorem dX5_bitCell_7 : decode cX5_bitCell 7 = .ok (.goto 6, 3) := by decide +kernel
theorem dX5_bitCell_10 : decode cX5_bitCell 10 = .ok (.sipush 1328, 3) := by decide +kernel
theorem dX5_bitCell_13 : decode cX5_bitCell 13 = .ok (.iload_n 1, 1) := by decide +kernel
theorem dX5_bitCell_14 : decode cX5_bitCell 14 = .ok (.iadd, 1) := by decide +kernel
theorem dX5_bitCell_15 : decode cX5_bitCell 15 = .ok (.iconst 1, 1) := by decide +kernel
theorem dX5_bitCell_16 : decode cX5_bitCell 16 = .ok (.isub, 1) := by decide +kernel
theorem dX5_bitCell_17 : decode cX5_bitCell 17 = .ok (.ireturn, 1) := by decide +kernel
theorem dX6_init_0 : decode cX6_init 0 = .ok (.aload_n 0, 1) := by decide +kernel
theorem dX6_init_1 : decode cX6_init 1 = .ok (.invokespecial 3, 3) := by decide +kernel
theorem dX6_init_4 : decode cX6_init 4 = .ok (.aload_n 0, 1) := by decide +kernel
theorem dX6_init_5 : decode cX6_init 5 = .ok (.bipush 25, 2) := by decide +kernel
theorem dX6_init_7 : decode cX6_init 7 = .ok (.newarray .boolean, 2) := by decide +kernel
theorem dX6_init_9 : decode cX6_init 9 = .ok (.putfield 9, 3) := by decide +kernel
theorem dX6_init_12 : decode cX6_init 12 = .ok (.aload_n 0, 1) := by decide +kernel
theorem dX6_init_13 : decode cX6_init 13 = .ok (.bipush 25, 2) := by decide +kernel
theorem dX6_init_15 : decode cX6_init 15 = .ok (.newarray .boolean, 2) := by decide +kernel
theorem dX6_init_17 : decode cX6_init 17 = .ok (.putfield 15, 3) := by decide +kernel
theorem dX6_init_20 : decode cX6_init 20 = .ok (.aload_n 0, 1) := by decide +kernel
theorem dX6_init_21 : decode cX6_init 21 = .ok (.bipush 24, 2) := by decide +kernel
theorem dX6_init_23 : decode cX6_init 23 = .ok (.newarray .int, 2) := by decide +kernel
theorem dX6_init_25 : decode cX6_init 25 = .ok (.putfield 18, 3) := by decide +kernel
theorem dX6_init_28 : decode cX6_init 28 = .ok (.aload_n 0, 1) := by decide +kernel
theorem dX6_init_29 : decode cX6_init 29 = .ok (.iconst 0, 1) := by decide +kernel
theorem dX6_init_30 : decode cX6_init 30 = .ok (.putfield 22, 3) := by decide +kernel
theorem dX6_init_33 : decode cX6_init 33 = .ok (.return_, 1) := by decide +kernel
set_option maxRecDepth 20000 in
theorem ggX6_gather_X7_unmark : GoodIn wsX6_gather wsX7_unmark := goodIn_r _ [6] (by decide +kernel) (by decide +kernel)
set_option maxRecDepth 20000 in
theorem gX6_gather_X7_unmark_n26 : GoodIn wsX6_gather (wsX7_unmark) := ggX6_gather_X7_unmark
set_option maxRecDepth 20000 in
theorem ggX6_gather_X5_toldNumber : GoodIn wsX6_gather wsX5_toldNumber := goodIn_r _ [11, 12, 46, 47] (by decide +kernel) (by decide +kernel)
set_option maxRecDepth 20000 in
theorem gX6_gather_X5_toldNumber : GoodIn wsX6_gather (wsV RX6 30 RX5 yX5_toldNumber wsX5_toldNumber) := goodIn_app (goodIn_of _ (by decide +kernel)) ggX6_gather_X5_toldNumber
set_option maxRecDepth 20000 in
theorem ggX6_gather_X7_isFile : GoodIn wsX6_gather wsX7_isFile := goodIn_r _ [14] (by decide +kernel) (by decide +kernel)
set_option maxRecDepth 20000 in
theorem gX6_gather_X7_isFile_n36 : GoodIn wsX6_gather (wsX7_isFile) := ggX6_gather_X7_isFile
set_option maxRecDepth 20000 in
theorem ggX6_gather_X6_mayWait : GoodIn wsX6_gather wsX6_mayWait := goodIn_r _ [18, 19, 20, 21, 10, 22, 12, 23, 24, 25, 26, 27, 28, 29, 30, 31, 32, 33, 34, 35, 36, 46, 47] (by decide +kernel) (by decide +kernel)
set_option maxRecDepth 20000 in
theorem gX6_gather_X6_mayWait : GoodIn wsX6_gather (va_wsS RX6 40 yX6_mayWait wsX6_mayWait) := goodIn_app (goodIn_of _ (by decide +kernel)) ggX6_gather_X6_mayWait
set_option maxRecDepth 20000 in
theorem ggX6_gather_X6_addIfHeld : GoodIn wsX6_gather wsX6_addIfHeld := goodIn_r _ [40, 3, 41, 42, 43, 44, 45] (by decide +kernel) (by decide +kernel)
set_option maxRecDepth 20000 in
theorem gX6_gather_X6_addIfHeld : GoodIn wsX6_gather (wsV RX6 44 RX6 yX6_addIfHeld wsX6_addIfHeld) := goodIn_app (goodIn_of _ (by decide +kernel)) ggX6_gather_X6_addIfHeld
set_option maxRecDepth 20000 in
theorem ggX6_gather_X5_number : GoodIn wsX6_gather wsX5_number := goodIn_r _ [22, 12, 23, 24, 10, 25, 46, 47] (by decide +kernel) (by decide +kernel)
set_option maxRecDepth 20000 in
theorem gX6_gather_X5_number : GoodIn wsX6_gather (wsV RX6 48 RX5 yX5_number wsX5_number) := goodIn_app (goodIn_of _ (by decide +kernel)) ggX6_gather_X5_number
theorem dX6_gather_0 : decode cX6_gather 0 = .ok (.aload_n 0, 1) := by decide +kernel
theorem dX6_gather_1 : decode cX6_gather 1 = .ok (.getfield 9, 3) := by decide +kernel
theorem dX6_gather_4 : decode cX6_gather 4 = .ok (.invokestatic 26, 3) := by decide +kernel
theorem dX6_gather_7 : decode cX6_gather 7 = .ok (.aload_n 0, 1) := by decide +kernel
theorem dX6_gather_8 : decode cX6_gather 8 = .ok (.getfield 15, 3) := by decide +kernel
theorem dX6_gather_11 : decode cX6_gather 11 = .ok (.invokestatic 26, 3) := by decide +kernel
theorem dX6_gather_14 : decode cX6_gather 14 = .ok (.aload_n 0, 1) := by decide +kernel
theorem dX6_gather_15 : decode cX6_gather 15 = .ok (.iconst 0, 1) := by decide +kernel
theorem dX6_gather_16 : decode cX6_gather 16 = .ok (.putfield 22, 3) := by decide +kernel
theorem dX6_gather_19 : decode cX6_gather 19 = .ok (.aload_n 1, 1) := by decide +kernel
theorem dX6_gather_20 : decode cX6_gather 20 = .ok (.iconst 2, 1) := by decide +kernel
theorem dX6_gather_21 : decode cX6_gather 21 = .ok (.invokevirtual 30, 3) := by decide +kernel
theorem dX6_gather_24 : decode cX6_gather 24 = .ok (.istore_n 3, 1) := by decide +kernel
theorem dX6_gather_25 : decode cX6_gather 25 = .ok (.iconst 0, 1) := by decide +kernel
theorem dX6_gather_26 : decode cX6_gather 26 = .ok (.istore 4, 2) := by decide +kernel
theorem dX6_gather_28 : decode cX6_gather 28 = .ok (.iload 4, 2) := by decide +kernel
theorem dX6_gather_30 : decode cX6_gather 30 = .ok (.bipush 24, 2) := by decide +kernel
theorem dX6_gather_32 : decode cX6_gather 32 = .ok (.if_icmp .ge 62, 3) := by decide +kernel
theorem dX6_gather_35 : decode cX6_gather 35 = .ok (.iload_n 3, 1) := by decide +kernel
theorem dX6_gather_36 : decode cX6_gather 36 = .ok (.invokestatic 36, 3) := by decide +kernel
theorem dX6_gather_39 : decode cX6_gather 39 = .ok (.ifCond .eq 55, 3) := by decide +kernel
theorem dX6_gather_42 : decode cX6_gather 42 = .ok (.aload_n 0, 1) := by decide +kernel
theorem dX6_gather_43 : decode cX6_gather 43 = .ok (.getfield 9, 3) := by decide +kernel
theorem dX6_gather_46 : decode cX6_gather 46 = .ok (.iload_n 3, 1) := by decide +kernel
theorem dX6_gather_47 : decode cX6_gather 47 = .ok (.baload, 1) := by decide +kernel
theorem dX6_gather_48 : decode cX6_gather 48 = .ok (.ifCond .ne 46, 3) := by decide +kernel
theorem dX6_gather_51 : decode cX6_gather 51 = .ok (.aload_n 0, 1) := by decide +kernel
theorem dX6_gather_52 : decode cX6_gather 52 = .ok (.getfield 9, 3) := by decide +kernel
theorem dX6_gather_55 : decode cX6_gather 55 = .ok (.iload_n 3, 1) := by decide +kernel
theorem dX6_gather_56 : decode cX6_gather 56 = .ok (.iconst 1, 1) := by decide +kernel
theorem dX6_gather_57 : decode cX6_gather 57 = .ok (.bastore, 1) := by decide +kernel
theorem dX6_gather_58 : decode cX6_gather 58 = .ok (.aload_n 1, 1) := by decide +kernel
theorem dX6_gather_59 : decode cX6_gather 59 = .ok (.iload_n 3, 1) := by decide +kernel
theorem dX6_gather_60 : decode cX6_gather 60 = .ok (.invokestatic 40, 3) := by decide +kernel
theorem dX6_gather_63 : decode cX6_gather 63 = .ok (.ifCond .eq 18, 3) := by decide +kernel
theorem dX6_gather_66 : decode cX6_gather 66 = .ok (.aload_n 0, 1) := by decide +kernel
theorem dX6_gather_67 : decode cX6_gather 67 = .ok (.getfield 15, 3) := by decide +kernel
theorem dX6_gather_70 : decode cX6_gather 70 = .ok (.iload_n 3, 1) := by decide +kernel
theorem dX6_gather_71 : decode cX6_gather 71 = .ok (.iconst 1, 1) := by decide +kernel
theorem dX6_gather_72 : decode cX6_gather 72 = .ok (.bastore, 1) := by decide +kernel
theorem dX6_gather_73 : decode cX6_gather 73 = .ok (.aload_n 0, 1) := by decide +kernel
theorem dX6_gather_74 : decode cX6_gather 74 = .ok (.iload_n 3, 1) := by decide +kernel
theorem dX6_gather_75 : decode cX6_gather 75 = .ok (.aload_n 2, 1) := by decide +kernel
theorem dX6_gather_76 : decode cX6_gather 76 = .ok (.iload_n 3, 1) := by decide +kernel
theorem dX6_gather_77 : decode cX6_gather 77 = .ok (.baload, 1) := by decide +kernel
theorem dX6_gather_78 : decode cX6_gather 78 = .ok (.invokevirtual 44, 3) := by decide +kernel
theorem dX6_gather_81 : decode cX6_gather 81 = .ok (.aload_n 1, 1) := by decide +kernel
theorem dX6_gather_82 : decode cX6_gather 82 = .ok (.iload_n 3, 1) := by decide +kernel
theorem dX6_gather_83 : decode cX6_gather 83 = .ok (.iconst 3, 1) := by decide +kernel
theorem dX6_gather_84 : decode cX6_gather 84 = .ok (.invokevirtual 48, 3) := by decide +kernel
theorem dX6_gather_87 : decode cX6_gather 87 = .ok (.istore_n 3, 1) := by decide +kernel
theorem dX6_gather_88 : decode cX6_gather 88 = .ok (.iinc 4 1, 3) := by decide +kernel
theorem dX6_gather_91 : decode cX6_gather 91 = .ok (.goto (-63), 3) := by decide +kernel
theorem dX6_gather_94 : decode cX6_gather 94 = .ok (.return_, 1) := by decide +kernel
theorem dX6_isRightlyIn_0 : decode cX6_isRightlyIn 0 = .ok (.aload_n 0, 1) := by decide +kernel
theorem dX6_isRightlyIn_1 : decode cX6_isRightlyIn 1 = .ok (.getfield 15, 3) := by decide +kernel
theorem dX6_isRightlyIn_4 : decode cX6_isRightlyIn 4 = .ok (.iload_n 1, 1) := by decide +kernel
theorem dX6_isRightlyIn_5 : decode cX6_isRightlyIn 5 = .ok (.baload, 1) := by decide +kernel
theorem dX6_isRightlyIn_6 : decode cX6_isRightlyIn 6 = .ok (.ireturn, 1) := by decide +kernel
theorem dX6_size_0 : decode cX6_size 0 = .ok (.aload_n 0, 1) := by decide +kernel
theorem dX6_size_1 : decode cX6_size 1 = .ok (.getfield 22, 3) := by decide +kernel
theorem dX6_size_4 : decode cX6_size 4 = .ok (.ireturn, 1) := by decide +kernel
theorem dX6_fileAt_0 : decode cX6_fileAt 0 = .ok (.iload_n 1, 1) := by decide +kernel
theorem dX6_fileAt_1 : decode cX6_fileAt 1 = .ok (.ifCond .lt 20, 3) := by decide +kernel
theorem dX6_fileAt_4 : decode cX6_fileAt 4 = .ok (.iload_n 1, 1) := by decide +kernel
theorem dX6_fileAt_5 : decode cX6_fileAt 5 = .ok (.aload_n 0, 1) := by decide +kernel
theorem dX6_fileAt_6 : decode cX6_fileAt 6 = .ok (.getfield 22, 3) := by decide +kernel
theorem dX6_fileAt_9 : decode cX6_fileAt 9 = .ok (.if_icmp .ge 12, 3) := by decide +kernel
theorem dX6_fileAt_12 : decode cX6_fileAt 12 = .ok (.aload_n 0, 1) := by decide +kernel
theorem dX6_fileAt_13 : decode cX6_fileAt 13 = .ok (.getfield 18, 3) := by decide +kernel
theorem dX6_fileAt_16 : decode cX6_fileAt 16 = .ok (.iload_n 1, 1) := by decide +kernel
theorem dX6_fileAt_17 : decode cX6_fileAt 17 = .ok (.iaload, 1) := by decide +kernel
theorem dX6_fileAt_18 : decode cX6_fileAt 18 = .ok (.goto 4, 3) := by decide +kernel
theorem dX6_fileAt_21 : decode cX6_fileAt 21 = .ok (.iconst 0, 1) := by decide +kernel
theorem dX6_fileAt_22 : decode cX6_fileAt 22 = .ok (.ireturn, 1) := by decide +kernel
theorem dX6_addIfHeld_0 : decode cX6_addIfHeld 0 = .ok (.iload_n 2, 1) := by decide +kernel
theorem dX6_addIfHeld_1 : decode cX6_addIfHeld 1 = .ok (.ifCond .eq 32, 3) := by decide +kernel
theorem dX6_addIfHeld_4 : decode cX6_addIfHeld 4 = .ok (.aload_n 0, 1) := by decide +kernel
theorem dX6_addIfHeld_5 : decode cX6_addIfHeld 5 = .ok (.getfield 22, 3) := by decide +kernel
theorem dX6_addIfHeld_8 : decode cX6_addIfHeld 8 = .ok (.bipush 24, 2) := by decide +kernel
theorem dX6_addIfHeld_10 : decode cX6_addIfHeld 10 = .ok (.if_icmp .ge 23, 3) := by decide +kernel
theorem dX6_addIfHeld_13 : decode cX6_addIfHeld 13 = .ok (.aload_n 0, 1) := by decide +kernel
theorem dX6_addIfHeld_14 : decode cX6_addIfHeld 14 = .ok (.getfield 18, 3) := by decide +kernel
theorem dX6_addIfHeld_17 : decode cX6_addIfHeld 17 = .ok (.aload_n 0, 1) := by decide +kernel
theorem dX6_addIfHeld_18 : decode cX6_addIfHeld 18 = .ok (.getfield 22, 3) := by decide +kernel
theorem dX6_addIfHeld_21 : decode cX6_addIfHeld 21 = .ok (.iload_n 1, 1) := by decide +kernel
theorem dX6_addIfHeld_22 : decode cX6_addIfHeld 22 = .ok (.iastore, 1) := by decide +kernel
theorem dX6_addIfHeld_23 : decode cX6_addIfHeld 23 = .ok (.aload_n 0, 1) := by decide +kernel
theorem dX6_addIfHeld_24 : decode cX6_addIfHeld 24 = .ok (.dup, 1) := by decide +kernel
theorem dX6_addIfHeld_25 : decode cX6_addIfHeld 25 = .ok (.getfield 22, 3) := by decide +kernel
theorem dX6_addIfHeld_28 : decode cX6_addIfHeld 28 = .ok (.iconst 1, 1) := by decide +kernel
theorem dX6_addIfHeld_29 : decode cX6_addIfHeld 29 = .ok (.iadd, 1) := by decide +kernel
theorem dX6_addIfHeld_30 : decode cX6_addIfHeld 30 = .ok (.putfield 22, 3) := by decide +kernel
theorem dX6_addIfHeld_33 : decode cX6_addIfHeld 33 = .ok (.return_, 1) := by decide +kernel
set_option maxRecDepth 20000 in
theorem ggX6_mayWait_X5_number : GoodIn wsX6_mayWait wsX5_number := goodIn_r _ [5, 6, 7, 8, 4, 9, 21, 22] (by decide +kernel) (by decide +kernel)
set_option maxRecDepth 20000 in
theorem gX6_mayWait_X5_number : GoodIn wsX6_mayWait (wsV RX6 48 RX5 yX5_number wsX5_number) := goodIn_app (goodIn_of _ (by decide +kernel)) ggX6_mayWait_X5_number
set_option maxRecDepth 20000 in
theorem ggX6_mayWait_X5_countEntriesFor : GoodIn wsX6_mayWait wsX5_countEntriesFor := goodIn_r _ [13, 14, 15, 16, 4, 17, 6, 18, 19, 20, 21, 22] (by decide +kernel) (by decide +kernel)
set_option maxRecDepth 20000 in
theorem gX6_mayWait_X5_countEntriesFor : GoodIn wsX6_mayWait (wsV RX6 52 RX5 yX5_countEntriesFor wsX5_countEntriesFor) := goodIn_app (goodIn_of _ (by decide +kernel)) ggX6_mayWait_X5_countEntriesFor
theorem dX6_mayWait_0 : decode cX6_mayWait 0 = .ok (.aload_n 0, 1) := by decide +kernel
theorem dX6_mayWait_1 : decode cX6_mayWait 1 = .ok (.iload_n 1, 1) := by decide +kernel
theorem dX6_mayWait_2 : decode cX6_mayWait 2 = .ok (.iconst 0, 1) := by decide +kernel
theorem dX6_mayWait_3 : decode cX6_mayWait 3 = .ok (.invokevirtual 48, 3) := by decide +kernel
theorem dX6_mayWait_6 : decode cX6_mayWait 6 = .ok (.istore_n 2, 1) := by decide +kernel
theorem dX6_mayWait_7 : decode cX6_mayWait 7 = .ok (.iload_n 2, 1) := by decide +kernel
theorem dX6_mayWait_8 : decode cX6_mayWait 8 = .ok (.ifCond .eq 29, 3) := by decide +kernel
theorem dX6_mayWait_11 : decode cX6_mayWait 11 = .ok (.iload_n 2, 1) := by decide +kernel
theorem dX6_mayWait_12 : decode cX6_mayWait 12 = .ok (.iconst 2, 1) := by decide +kernel
theorem dX6_mayWait_13 : decode cX6_mayWait 13 = .ok (.if_icmp .eq 24, 3) := by decide +kernel
theorem dX6_mayWait_16 : decode cX6_mayWait 16 = .ok (.aload_n 0, 1) := by decide +kernel
theorem dX6_mayWait_17 : decode cX6_mayWait 17 = .ok (.iload_n 1, 1) := by decide +kernel
theorem dX6_mayWait_18 : decode cX6_mayWait 18 = .ok (.iconst 2, 1) := by decide +kernel
theorem dX6_mayWait_19 : decode cX6_mayWait 19 = .ok (.invokevirtual 48, 3) := by decide +kernel
theorem dX6_mayWait_22 : decode cX6_mayWait 22 = .ok (.ifCond .ne 15, 3) := by decide +kernel
theorem dX6_mayWait_25 : decode cX6_mayWait 25 = .ok (.aload_n 0, 1) := by decide +kernel
theorem dX6_mayWait_26 : decode cX6_mayWait 26 = .ok (.iload_n 1, 1) := by decide +kernel
theorem dX6_mayWait_27 : decode cX6_mayWait 27 = .ok (.invokevirtual 52, 3) := by decide +kernel
theorem dX6_mayWait_30 : decode cX6_mayWait 30 = .ok (.ifCond .ne 7, 3) := by decide +kernel
theorem dX6_mayWait_33 : decode cX6_mayWait 33 = .ok (.iconst 1, 1) := by decide +kernel
theorem dX6_mayWait_34 : decode cX6_mayWait 34 = .ok (.goto 4, 3) := by decide +kernel
theorem dX6_mayWait_37 : decode cX6_mayWait 37 = .ok (.iconst 0, 1) := by decide +kernel
theorem dX6_mayWait_38 : decode cX6_mayWait 38 = .ok (.ireturn, 1) := by decide +kernel
set_option maxRecDepth 20000 in
theorem ggX7_init_X5_init : GoodIn wsX7_init wsX5_init := goodIn_r _ [28, 29, 2, 3, 30, 31, 32, 84, 85] (by decide +kernel) (by decide +kernel)
set_option maxRecDepth 20000 in
theorem gX7_init_X5_init : GoodIn wsX7_init (wsX5_init) := ggX7_init_X5_init
set_option maxRecDepth 20000 in
theorem ggX7_init_X4_init : GoodIn wsX7_init wsX4_init := goodIn_r _ [35, 36, 2, 3, 8, 37, 92] (by decide +kernel) (by decide +kernel)
set_option maxRecDepth 20000 in
theorem gX7_init_X4_init : GoodIn wsX7_init (wsX4_init) := ggX7_init_X4_init
set_option maxRecDepth 20000 in
theorem ggX7_init_X1_init : GoodIn wsX7_init wsX1_init := goodIn_r _ [40, 41, 2, 3, 8, 42, 93] (by decide +kernel) (by decide +kernel)
set_option maxRecDepth 20000 in
theorem gX7_init_X1_init : GoodIn wsX7_init (wsX1_init) := ggX7_init_X1_init
set_option maxRecDepth 20000 in
theorem ggX7_init_X2_init : GoodIn wsX7_init wsX2_init := goodIn_r _ [45, 46, 2, 3, 8, 47, 30, 48, 49, 94, 95, 96] (by decide +kernel) (by decide +kernel)
set_option maxRecDepth 20000 in
theorem gX7_init_X2_init : GoodIn wsX7_init (wsX2_init) := ggX7_init_X2_init
set_option maxRecDepth 20000 in
theorem ggX7_init_X6_init : GoodIn wsX7_init wsX6_init := goodIn_r _ [52, 53, 2, 3, 8, 54, 55, 30, 56, 57, 97, 98, 99, 100] (by decide +kernel) (by decide +kernel)
set_option maxRecDepth 20000 in
theorem gX7_init_X6_init : GoodIn wsX7_init (wsX6_init) := ggX7_init_X6_init
set_option maxRecDepth 20000 in
theorem ggX7_init_X5_makeWhole : GoodIn wsX7_init wsX5_makeWhole := goodIn_r _ [61, 62, 63, 64, 6, 65, 31, 66, 67, 68, 69, 70, 71, 72, 73, 74, 75, 76, 77, 78, 79, 80, 81, 82, 83, 84, 85] (by decide +kernel) (by decide +kernel)
set_option maxRecDepth 20000 in
theorem gX7_init_X5_makeWhole : GoodIn wsX7_init (wsV RX7 48 RX5 yX5_makeWhole wsX5_makeWhole) := goodIn_app (goodIn_of _ (by decide +kernel)) ggX7_init_X5_makeWhole
theorem dX7_init_0 : decode cX7_init 0 = .ok (.aload_n 0, 1) := by decide +kernel
theorem dX7_init_1 : decode cX7_init 1 = .ok (.invokespecial 1, 3) := by decide +kernel
theorem dX7_init_4 : decode cX7_init 4 = .ok (.aload_n 0, 1) := by decide +kernel
theorem dX7_init_5 : decode cX7_init 5 = .ok (.new 7, 3) := by decide +kernel
theorem dX7_init_8 : decode cX7_init 8 = .ok (.dup, 1) := by decide +kernel
theorem dX7_init_9 : decode cX7_init 9 = .ok (.invokespecial 9, 3) := by decide +kernel
theorem dX7_init_12 : decode cX7_init 12 = .ok (.putfield 10, 3) := by decide +kernel
theorem dX7_init_15 : decode cX7_init 15 = .ok (.aload_n 0, 1) := by decide +kernel
theorem dX7_init_16 : decode cX7_init 16 = .ok (.bipush 25, 2) := by decide +kernel
theorem dX7_init_18 : decode cX7_init 18 = .ok (.newarray .boolean, 2) := by decide +kernel
theorem dX7_init_20 : decode cX7_init 20 = .ok (.putfield 16, 3) := by decide +kernel
theorem dX7_init_23 : decode cX7_init 23 = .ok (.aload_n 0, 1) := by decide +kernel
theorem dX7_init_24 : decode cX7_init 24 = .ok (.new 20, 3) := by decide +kernel
theorem dX7_init_27 : decode cX7_init 27 = .ok (.dup, 1) := by decide +kernel
theorem dX7_init_28 : decode cX7_init 28 = .ok (.invokespecial 22, 3) := by decide +kernel
theorem dX7_init_31 : decode cX7_init 31 = .ok (.putfield 23, 3) := by decide +kernel
theorem dX7_init_34 : decode cX7_init 34 = .ok (.aload_n 0, 1) := by decide +kernel
theorem dX7_init_35 : decode cX7_init 35 = .ok (.new 27, 3) := by decide +kernel
theorem dX7_init_38 : decode cX7_init 38 = .ok (.dup, 1) := by decide +kernel
theorem dX7_init_39 : decode cX7_init 39 = .ok (.invokespecial 29, 3) := by decide +kernel
theorem dX7_init_42 : decode cX7_init 42 = .ok (.putfield 30, 3) := by decide +kernel
theorem dX7_init_45 : decode cX7_init 45 = .ok (.aload_n 0, 1) := by decide +kernel
theorem dX7_init_46 : decode cX7_init 46 = .ok (.new 34, 3) := by decide +kernel
theorem dX7_init_49 : decode cX7_init 49 = .ok (.dup, 1) := by decide +kernel
theorem dX7_init_50 : decode cX7_init 50 = .ok (.invokespecial 36, 3) := by decide +kernel
theorem dX7_init_53 : decode cX7_init 53 = .ok (.putfield 37, 3) := by decide +kernel
theorem dX7_init_56 : decode cX7_init 56 = .ok (.aload_n 0, 1) := by decide +kernel
theorem dX7_init_57 : decode cX7_init 57 = .ok (.new 41, 3) := by decide +kernel
theorem dX7_init_60 : decode cX7_init 60 = .ok (.dup, 1) := by decide +kernel
theorem dX7_init_61 : decode cX7_init 61 = .ok (.invokespecial 43, 3) := by decide +kernel
theorem dX7_init_64 : decode cX7_init 64 = .ok (.putfield 44, 3) := by decide +kernel
theorem dX7_init_67 : decode cX7_init 67 = .ok (.aload_n 0, 1) := by decide +kernel
theorem dX7_init_68 : decode cX7_init 68 = .ok (.getfield 10, 3) := by decide +kernel
theorem dX7_init_71 : decode cX7_init 71 = .ok (.invokevirtual 48, 3) := by decide +kernel
theorem dX7_init_74 : decode cX7_init 74 = .ok (.return_, 1) := by decide +kernel
set_option maxRecDepth 20000 in
theorem ggX7_clear_X5_makeWhole : GoodIn wsX7_clear wsX5_makeWhole := goodIn_r _ [7, 8, 9, 10, 6, 11, 12, 13, 14, 15, 16, 17, 18, 19, 20, 21, 22, 23, 24, 25, 26, 27, 28, 29, 30, 41, 42] (by decide +kernel) (by decide +kernel)
set_option maxRecDepth 20000 in
theorem gX7_clear_X5_makeWhole : GoodIn wsX7_clear (wsV RX7 48 RX5 yX5_makeWhole wsX5_makeWhole) := goodIn_app (goodIn_of _ (by decide +kernel)) ggX7_clear_X5_makeWhole
set_option maxRecDepth 20000 in
theorem ggX7_clear_X7_unmark : GoodIn wsX7_clear wsX7_unmark := goodIn_r _ [34] (by decide +kernel) (by decide +kernel)
set_option maxRecDepth 20000 in
theorem gX7_clear_X7_unmark : GoodIn wsX7_clear (va_wsS RX7 51 yX7_unmark wsX7_unmark) := goodIn_app (goodIn_of _ (by decide +kernel)) ggX7_clear_X7_unmark
theorem dX7_clear_0 : decode cX7_clear 0 = .ok (.aload_n 0, 1) := by decide +kernel
theorem dX7_clear_1 : decode cX7_clear 1 = .ok (.getfield 10, 3) := by decide +kernel
theorem dX7_clear_4 : decode cX7_clear 4 = .ok (.invokevirtual 48, 3) := by decide +kernel
theorem dX7_clear_7 : decode cX7_clear 7 = .ok (.aload_n 0, 1) := by decide +kernel
theorem dX7_clear_8 : decode cX7_clear 8 = .ok (.getfield 16, 3) := by decide +kernel
theorem dX7_clear_11 : decode cX7_clear 11 = .ok (.invokestatic 51, 3) := by decide +kernel
theorem dX7_clear_14 : decode cX7_clear 14 = .ok (.return_, 1) := by decide +kernel
set_option maxRecDepth 20000 in
theorem ggX7_set_X7_needFile : GoodIn wsX7_set wsX7_needFile := goodIn_ca (goodIn_r _ [5, 6, 7, 8, 9, 4, 10] (by decide +kernel) (by decide +kernel)) (goodIn_sub (fun _ h => List.mem_cons_of_mem _ (List.mem_append_right _ h)) (by decide +kernel))
set_option maxRecDepth 20000 in
theorem gX7_set_X7_needFile : GoodIn wsX7_set (va_wsS RX7 55 yX7_needFile wsX7_needFile) := goodIn_app (goodIn_of _ (by decide +kernel)) ggX7_set_X7_needFile
set_option maxRecDepth 20000 in
theorem ggX7_set_X7_needPlace : GoodIn wsX7_set wsX7_needPlace := goodIn_ca (goodIn_r _ [13, 6, 7] (by decide +kernel) (by decide +kernel)) (goodIn_sub (fun _ h => List.mem_cons_of_mem _ (List.mem_append_right _ h)) (by decide +kernel))
set_option maxRecDepth 20000 in
theorem gX7_set_X7_needPlace : GoodIn wsX7_set (va_wsS RX7 59 yX7_needPlace wsX7_needPlace) := goodIn_app (goodIn_of _ (by decide +kernel)) ggX7_set_X7_needPlace
set_option maxRecDepth 20000 in
theorem ggX7_set_X5_putNumber : GoodIn wsX7_set wsX5_putNumber := goodIn_r _ [18, 19, 20, 21, 17, 22, 29, 30] (by decide +kernel) (by decide +kernel)
set_option maxRecDepth 20000 in
theorem gX7_set_X5_putNumber : GoodIn wsX7_set (wsV RX7 63 RX5 yX5_putNumber wsX5_putNumber) := goodIn_app (goodIn_of _ (by decide +kernel)) ggX7_set_X5_putNumber
theorem dX7_set_0 : decode cX7_set 0 = .ok (.iload_n 1, 1) := by decide +kernel
theorem dX7_set_1 : decode cX7_set 1 = .ok (.invokestatic 55, 3) := by decide +kernel
theorem dX7_set_4 : decode cX7_set 4 = .ok (.iload_n 2, 1) := by decide +kernel
theorem dX7_set_5 : decode cX7_set 5 = .ok (.iconst 5, 1) := by decide +kernel
theorem dX7_set_6 : decode cX7_set 6 = .ok (.invokestatic 59, 3) := by decide +kernel
theorem dX7_set_9 : decode cX7_set 9 = .ok (.aload_n 0, 1) := by decide +kernel
theorem dX7_set_10 : decode cX7_set 10 = .ok (.getfield 10, 3) := by decide +kernel
theorem dX7_set_13 : decode cX7_set 13 = .ok (.iload_n 1, 1) := by decide +kernel
theorem dX7_set_14 : decode cX7_set 14 = .ok (.iload_n 2, 1) := by decide +kernel
theorem dX7_set_15 : decode cX7_set 15 = .ok (.iload_n 3, 1) := by decide +kernel
theorem dX7_set_16 : decode cX7_set 16 = .ok (.invokevirtual 63, 3) := by decide +kernel
theorem dX7_set_19 : decode cX7_set 19 = .ok (.return_, 1) := by decide +kernel
set_option maxRecDepth 20000 in
theorem ggX7_run_X7_needFile : GoodIn wsX7_run wsX7_needFile := goodIn_ca (goodIn_r _ [5, 6, 7, 8, 9, 4, 10] (by decide +kernel) (by decide +kernel)) (goodIn_sub (fun _ h => List.mem_cons_of_mem _ (List.mem_append_right _ h)) (by decide +kernel))
set_option maxRecDepth 20000 in
theorem gX7_run_X7_needFile : GoodIn wsX7_run (va_wsS RX7 55 yX7_needFile wsX7_needFile) := goodIn_app (goodIn_of _ (by decide +kernel)) ggX7_run_X7_needFile
set_option maxRecDepth 20000 in
theorem ggX7_run_X7_needPlace : GoodIn wsX7_run wsX7_needPlace := goodIn_ca (goodIn_r _ [13, 6, 7] (by decide +kernel) (by decide +kernel)) (goodIn_sub (fun _ h => List.mem_cons_of_mem _ (List.mem_append_right _ h)) (by decide +kernel))
set_option maxRecDepth 20000 in
theorem gX7_run_X7_needPlace : GoodIn wsX7_run (va_wsS RX7 59 yX7_needPlace wsX7_needPlace) := goodIn_app (goodIn_of _ (by decide +kernel)) ggX7_run_X7_needPlace
set_option maxRecDepth 20000 in
theorem ggX7_run_X5_putRun : GoodIn wsX7_run wsX5_putRun := goodIn_r _ [18, 19, 20, 21, 17, 22, 29, 30] (by decide +kernel) (by decide +kernel)
set_option maxRecDepth 20000 in
theorem gX7_run_X5_putRun : GoodIn wsX7_run (wsV RX7 67 RX5 yX5_putRun wsX5_putRun) := goodIn_app (goodIn_of _ (by decide +kernel)) ggX7_run_X5_putRun
theorem dX7_run_0 : decode cX7_run 0 = .ok (.iload_n 1, 1) := by decide +kernel
theorem dX7_run_1 : decode cX7_run 1 = .ok (.invokestatic 55, 3) := by decide +kernel
theorem dX7_run_4 : decode cX7_run 4 = .ok (.iload_n 2, 1) := by decide +kernel
theorem dX7_run_5 : decode cX7_run 5 = .ok (.bipush 6, 2) := by decide +kernel
theorem dX7_run_7 : decode cX7_run 7 = .ok (.invokestatic 59, 3) := by decide +kernel
theorem dX7_run_10 : decode cX7_run 10 = .ok (.aload_n 0, 1) := by decide +kernel
theorem dX7_run_11 : decode cX7_run 11 = .ok (.getfield 10, 3) := by decide +kernel
theorem dX7_run_14 : decode cX7_run 14 = .ok (.iload_n 1, 1) := by decide +kernel
theorem dX7_run_15 : decode cX7_run 15 = .ok (.iload_n 2, 1) := by decide +kernel
theorem dX7_run_16 : decode cX7_run 16 = .ok (.iload_n 3, 1) := by decide +kernel
theorem dX7_run_17 : decode cX7_run 17 = .ok (.iload 4, 2) := by decide +kernel
theorem dX7_run_19 : decode cX7_run 19 = .ok (.iload 5, 2) := by decide +kernel
theorem dX7_run_21 : decode cX7_run 21 = .ok (.invokevirtual 67, 3) := by decide +kernel
theorem dX7_run_24 : decode cX7_run 24 = .ok (.return_, 1) := by decide +kernel
set_option maxRecDepth 20000 in
theorem ggX7_entry_X7_needFile : GoodIn wsX7_entry wsX7_needFile := goodIn_ca (goodIn_r _ [5, 6, 7, 8, 9, 4, 10] (by decide +kernel) (by decide +kernel)) (goodIn_sub (fun _ h => List.mem_cons_of_mem _ (List.mem_append_right _ h)) (by decide +kernel))
set_option maxRecDepth 20000 in
theorem gX7_entry_X7_needFile : GoodIn wsX7_entry (va_wsS RX7 55 yX7_needFile wsX7_needFile) := goodIn_app (goodIn_of _ (by decide +kernel)) ggX7_entry_X7_needFile
set_option maxRecDepth 20000 in
theorem ggX7_entry_X7_needPlace : GoodIn wsX7_entry wsX7_needPlace := goodIn_ca (goodIn_r _ [13, 6, 7] (by decide +kernel) (by decide +kernel)) (goodIn_sub (fun _ h => List.mem_cons_of_mem _ (List.mem_append_right _ h)) (by decide +kernel))
set_option maxRecDepth 20000 in
theorem gX7_entry_X7_needPlace : GoodIn wsX7_entry (va_wsS RX7 59 yX7_needPlace wsX7_needPlace) := goodIn_app (goodIn_of _ (by decide +kernel)) ggX7_entry_X7_needPlace
set_option maxRecDepth 20000 in
theorem ggX7_entry_X5_putEntry : GoodIn wsX7_entry wsX5_putEntry := goodIn_r _ [18, 19, 20, 21, 17, 22, 29, 30] (by decide +kernel) (by decide +kernel)
set_option maxRecDepth 20000 in
theorem gX7_entry_X5_putEntry : GoodIn wsX7_entry (wsV RX7 71 RX5 yX5_putEntry wsX5_putEntry) := goodIn_app (goodIn_of _ (by decide +kernel)) ggX7_entry_X5_putEntry
theorem dX7_entry_0 : decode cX7_entry 0 = .ok (.iload_n 1, 1) := by decide +kernel
theorem dX7_entry_1 : decode cX7_entry 1 = .ok (.invokestatic 55, 3) := by decide +kernel
theorem dX7_entry_4 : decode cX7_entry 4 = .ok (.iload_n 2, 1) := by decide +kernel
theorem dX7_entry_5 : decode cX7_entry 5 = .ok (.bipush 8, 2) := by decide +kernel
theorem dX7_entry_7 : decode cX7_entry 7 = .ok (.invokestatic 59, 3) := by decide +kernel
theorem dX7_entry_10 : decode cX7_entry 10 = .ok (.aload_n 0, 1) := by decide +kernel
theorem dX7_entry_11 : decode cX7_entry 11 = .ok (.getfield 10, 3) := by decide +kernel
theorem dX7_entry_14 : decode cX7_entry 14 = .ok (.iload_n 1, 1) := by decide +kernel
theorem dX7_entry_15 : decode cX7_entry 15 = .ok (.iload_n 2, 1) := by decide +kernel
theorem dX7_entry_16 : decode cX7_entry 16 = .ok (.iload_n 3, 1) := by decide +kernel
theorem dX7_entry_17 : decode cX7_entry 17 = .ok (.iload 4, 2) := by decide +kernel
theorem dX7_entry_19 : decode cX7_entry 19 = .ok (.iload 5, 2) := by decide +kernel
theorem dX7_entry_21 : decode cX7_entry 21 = .ok (.invokevirtual 71, 3) := by decide +kernel
theorem dX7_entry_24 : decode cX7_entry 24 = .ok (.return_, 1) := by decide +kernel
set_option maxRecDepth 20000 in
theorem ggX7_hold_X7_needFile : GoodIn wsX7_hold wsX7_needFile := goodIn_ca (goodIn_r _ [5, 6, 7, 8, 9, 4, 10] (by decide +kernel) (by decide +kernel)) (goodIn_sub (fun _ h => List.mem_cons_of_mem _ (List.mem_append_right _ h)) (by decide +kernel))
set_option maxRecDepth 20000 in
theorem gX7_hold_X7_needFile : GoodIn wsX7_hold (va_wsS RX7 55 yX7_needFile wsX7_needFile) := goodIn_app (goodIn_of _ (by decide +kernel)) ggX7_hold_X7_needFile
theorem dX7_hold_0 : decode cX7_hold 0 = .ok (.iload_n 1, 1) := by decide +kernel
theorem dX7_hold_1 : decode cX7_hold 1 = .ok (.invokestatic 55, 3) := by decide +kernel
theorem dX7_hold_4 : decode cX7_hold 4 = .ok (.aload_n 0, 1) := by decide +kernel
theorem dX7_hold_5 : decode cX7_hold 5 = .ok (.getfield 16, 3) := by decide +kernel
theorem dX7_hold_8 : decode cX7_hold 8 = .ok (.iload_n 1, 1) := by decide +kernel
theorem dX7_hold_9 : decode cX7_hold 9 = .ok (.iload_n 2, 1) := by decide +kernel
theorem dX7_hold_10 : decode cX7_hold 10 = .ok (.bastore, 1) := by decide +kernel
theorem dX7_hold_11 : decode cX7_hold 11 = .ok (.return_, 1) := by decide +kernel
set_option maxRecDepth 20000 in
theorem ggX7_bit_X7_needBit : GoodIn wsX7_bit wsX7_needBit := goodIn_ca (goodIn_r _ [5, 6, 7, 8, 9, 4, 10] (by decide +kernel) (by decide +kernel)) (goodIn_sub (fun _ h => List.mem_cons_of_mem _ (List.mem_append_right _ h)) (by decide +kernel))
set_option maxRecDepth 20000 in
theorem gX7_bit_X7_needBit : GoodIn wsX7_bit (va_wsS RX7 74 yX7_needBit wsX7_needBit) := goodIn_app (goodIn_of _ (by decide +kernel)) ggX7_bit_X7_needBit
set_option maxRecDepth 20000 in
theorem ggX7_bit_X5_putBit : GoodIn wsX7_bit wsX5_putBit := goodIn_r _ [15, 16, 17, 18, 14, 19, 26, 27] (by decide +kernel) (by decide +kernel)
set_option maxRecDepth 20000 in
theorem gX7_bit_X5_putBit : GoodIn wsX7_bit (wsV RX7 77 RX5 yX5_putBit wsX5_putBit) := goodIn_app (goodIn_of _ (by decide +kernel)) ggX7_bit_X5_putBit
theorem dX7_bit_0 : decode cX7_bit 0 = .ok (.iload_n 1, 1) := by decide +kernel
theorem dX7_bit_1 : decode cX7_bit 1 = .ok (.iload_n 2, 1) := by decide +kernel
theorem dX7_bit_2 : decode cX7_bit 2 = .ok (.invokestatic 74, 3) := by decide +kernel
theorem dX7_bit_5 : decode cX7_bit 5 = .ok (.aload_n 0, 1) := by decide +kernel
theorem dX7_bit_6 : decode cX7_bit 6 = .ok (.getfield 10, 3) := by decide +kernel
theorem dX7_bit_9 : decode cX7_bit 9 = .ok (.iload_n 1, 1) := by decide +kernel
theorem dX7_bit_10 : decode cX7_bit 10 = .ok (.iload_n 2, 1) := by decide +kernel
theorem dX7_bit_11 : decode cX7_bit 11 = .ok (.iload_n 3, 1) := by decide +kernel
theorem dX7_bit_12 : decode cX7_bit 12 = .ok (.ifCond .eq 7, 3) := by decide +kernel
theorem dX7_bit_15 : decode cX7_bit 15 = .ok (.iconst 1, 1) := by decide +kernel
theorem dX7_bit_16 : decode cX7_bit 16 = .ok (.goto 4, 3) := by decide +kernel
theorem dX7_bit_19 : decode cX7_bit 19 = .ok (.iconst 0, 1) := by decide +kernel
theorem dX7_bit_20 : decode cX7_bit 20 = .ok (.invokevirtual 77, 3) := by decide +kernel
theorem dX7_bit_23 : decode cX7_bit 23 = .ok (.return_, 1) := by decide +kernel
set_option maxRecDepth 20000 in
theorem ggX7_tell_X7_needPlace : GoodIn wsX7_tell wsX7_needPlace := goodIn_ca (goodIn_r _ [5, 6, 7] (by decide +kernel) (by decide +kernel)) (goodIn_sub (fun _ h => List.mem_cons_of_mem _ (List.mem_append_right _ h)) (by decide +kernel))
set_option maxRecDepth 20000 in
theorem gX7_tell_X7_needPlace : GoodIn wsX7_tell (va_wsS RX7 59 yX7_needPlace wsX7_needPlace) := goodIn_app (goodIn_of _ (by decide +kernel)) ggX7_tell_X7_needPlace
set_option maxRecDepth 20000 in
theorem ggX7_tell_X5_putTold : GoodIn wsX7_tell wsX5_putTold := goodIn_r _ [12, 13, 20, 21] (by decide +kernel) (by decide +kernel)
set_option maxRecDepth 20000 in
theorem gX7_tell_X5_putTold : GoodIn wsX7_tell (wsV RX7 80 RX5 yX5_putTold wsX5_putTold) := goodIn_app (goodIn_of _ (by decide +kernel)) ggX7_tell_X5_putTold
theorem dX7_tell_0 : decode cX7_tell 0 = .ok (.iload_n 1, 1) := by decide +kernel
theorem dX7_tell_1 : decode cX7_tell 1 = .ok (.iconst 3, 1) := by decide +kernel
theorem dX7_tell_2 : decode cX7_tell 2 = .ok (.invokestatic 59, 3) := by decide +kernel
theorem dX7_tell_5 : decode cX7_tell 5 = .ok (.aload_n 0, 1) := by decide +kernel
theorem dX7_tell_6 : decode cX7_tell 6 = .ok (.getfield 10, 3) := by decide +kernel
theorem dX7_tell_9 : decode cX7_tell 9 = .ok (.iload_n 1, 1) := by decide +kernel
theorem dX7_tell_10 : decode cX7_tell 10 = .ok (.iload_n 2, 1) := by decide +kernel
theorem dX7_tell_11 : decode cX7_tell 11 = .ok (.invokevirtual 80, 3) := by decide +kernel
theorem dX7_tell_14 : decode cX7_tell 14 = .ok (.return_, 1) := by decide +kernel
set_option maxRecDepth 20000 in
theorem ggX7_check_X5_remember : GoodIn wsX7_check wsX5_remember := goodIn_r _ [11, 12, 13, 14, 15, 16, 17, 278, 279] (by decide +kernel) (by decide +kernel)
