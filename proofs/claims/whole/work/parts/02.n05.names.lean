theorem dX8_run_38 : decode cX8_run 38 = .ok (.iload 4, 2) := by decide +kernel
theorem dX8_run_40 : decode cX8_run 40 = .ok (.iload 5, 2) := by decide +kernel
theorem dX8_run_42 : decode cX8_run 42 = .ok (.invokevirtual 54, 3) := by decide +kernel
theorem dX8_run_45 : decode cX8_run 45 = .ok (.return_, 1) := by decide +kernel
set_option maxRecDepth 20000 in
theorem ggX8_entry_X8_isIn : GoodIn wsX8_entry wsX8_isIn := goodIn_r _ [4] (by decide +kernel) (by decide +kernel)
set_option maxRecDepth 20000 in
theorem gX8_entry_X8_isIn : GoodIn wsX8_entry (va_wsS RX8 42 yX8_isIn wsX8_isIn) := goodIn_app (goodIn_of _ (by decide +kernel)) ggX8_entry_X8_isIn
set_option maxRecDepth 20000 in
theorem ggX8_entry_X8_may : GoodIn wsX8_entry wsX8_may := goodIn_r _ [8, 9, 18, 19, 20, 21, 22, 23, 24, 25, 26, 27] (by decide +kernel) (by decide +kernel)
set_option maxRecDepth 20000 in
theorem gX8_entry_X8_may : GoodIn wsX8_entry (wsV RX8 46 RX8 yX8_may wsX8_may) := goodIn_app (goodIn_of _ (by decide +kernel)) ggX8_entry_X8_may
set_option maxRecDepth 20000 in
theorem ggX8_entry_X8_entryAt : GoodIn wsX8_entry wsX8_entryAt := goodIn_r _ [12] (by decide +kernel) (by decide +kernel)
set_option maxRecDepth 20000 in
theorem gX8_entry_X8_entryAt : GoodIn wsX8_entry (va_wsS RX8 58 yX8_entryAt wsX8_entryAt) := goodIn_app (goodIn_of _ (by decide +kernel)) ggX8_entry_X8_entryAt
set_option maxRecDepth 20000 in
theorem ggX8_entry_X8_put : GoodIn wsX8_entry wsX8_put := goodIn_r _ [16, 17, 18, 19, 20, 21, 22, 23, 24, 25, 26, 27] (by decide +kernel) (by decide +kernel)
set_option maxRecDepth 20000 in
theorem gX8_entry_X8_put : GoodIn wsX8_entry (wsV RX8 54 RX8 yX8_put wsX8_put) := goodIn_app (goodIn_of _ (by decide +kernel)) ggX8_entry_X8_put
theorem dX8_entry_0 : decode cX8_entry 0 = .ok (.aload_n 0, 1) := by decide +kernel
theorem dX8_entry_1 : decode cX8_entry 1 = .ok (.iload_n 1, 1) := by decide +kernel
theorem dX8_entry_2 : decode cX8_entry 2 = .ok (.iconst 1, 1) := by decide +kernel
theorem dX8_entry_3 : decode cX8_entry 3 = .ok (.bipush 24, 2) := by decide +kernel
theorem dX8_entry_5 : decode cX8_entry 5 = .ok (.invokestatic 42, 3) := by decide +kernel
theorem dX8_entry_8 : decode cX8_entry 8 = .ok (.ifCond .eq 17, 3) := by decide +kernel
theorem dX8_entry_11 : decode cX8_entry 11 = .ok (.iload_n 2, 1) := by decide +kernel
theorem dX8_entry_12 : decode cX8_entry 12 = .ok (.iconst 0, 1) := by decide +kernel
theorem dX8_entry_13 : decode cX8_entry 13 = .ok (.bipush 7, 2) := by decide +kernel
theorem dX8_entry_15 : decode cX8_entry 15 = .ok (.invokestatic 42, 3) := by decide +kernel
theorem dX8_entry_18 : decode cX8_entry 18 = .ok (.ifCond .eq 7, 3) := by decide +kernel
theorem dX8_entry_21 : decode cX8_entry 21 = .ok (.iconst 1, 1) := by decide +kernel
theorem dX8_entry_22 : decode cX8_entry 22 = .ok (.goto 4, 3) := by decide +kernel
theorem dX8_entry_25 : decode cX8_entry 25 = .ok (.iconst 0, 1) := by decide +kernel
theorem dX8_entry_26 : decode cX8_entry 26 = .ok (.invokevirtual 46, 3) := by decide +kernel
theorem dX8_entry_29 : decode cX8_entry 29 = .ok (.ifCond .eq 17, 3) := by decide +kernel
theorem dX8_entry_32 : decode cX8_entry 32 = .ok (.aload_n 0, 1) := by decide +kernel
theorem dX8_entry_33 : decode cX8_entry 33 = .ok (.iload_n 1, 1) := by decide +kernel
theorem dX8_entry_34 : decode cX8_entry 34 = .ok (.iload_n 2, 1) := by decide +kernel
theorem dX8_entry_35 : decode cX8_entry 35 = .ok (.invokestatic 58, 3) := by decide +kernel
theorem dX8_entry_38 : decode cX8_entry 38 = .ok (.iload_n 3, 1) := by decide +kernel
theorem dX8_entry_39 : decode cX8_entry 39 = .ok (.iload 4, 2) := by decide +kernel
theorem dX8_entry_41 : decode cX8_entry 41 = .ok (.iload 5, 2) := by decide +kernel
theorem dX8_entry_43 : decode cX8_entry 43 = .ok (.invokevirtual 54, 3) := by decide +kernel
theorem dX8_entry_46 : decode cX8_entry 46 = .ok (.return_, 1) := by decide +kernel
set_option maxRecDepth 20000 in
theorem ggX8_hold_X8_isIn : GoodIn wsX8_hold wsX8_isIn := goodIn_r _ [5] (by decide +kernel) (by decide +kernel)
set_option maxRecDepth 20000 in
theorem gX8_hold_X8_isIn : GoodIn wsX8_hold (va_wsS RX8 42 yX8_isIn wsX8_isIn) := goodIn_app (goodIn_of _ (by decide +kernel)) ggX8_hold_X8_isIn
set_option maxRecDepth 20000 in
theorem ggX8_hold_X8_may : GoodIn wsX8_hold wsX8_may := goodIn_r _ [9, 10, 11, 12, 13, 14, 15, 16, 17, 18, 19, 20] (by decide +kernel) (by decide +kernel)
set_option maxRecDepth 20000 in
theorem gX8_hold_X8_may : GoodIn wsX8_hold (wsV RX8 46 RX8 yX8_may wsX8_may) := goodIn_app (goodIn_of _ (by decide +kernel)) ggX8_hold_X8_may
theorem dX8_hold_0 : decode cX8_hold 0 = .ok (.aload_n 0, 1) := by decide +kernel
theorem dX8_hold_1 : decode cX8_hold 1 = .ok (.iload_n 1, 1) := by decide +kernel
theorem dX8_hold_2 : decode cX8_hold 2 = .ok (.iconst 1, 1) := by decide +kernel
theorem dX8_hold_3 : decode cX8_hold 3 = .ok (.bipush 24, 2) := by decide +kernel
theorem dX8_hold_5 : decode cX8_hold 5 = .ok (.invokestatic 42, 3) := by decide +kernel
theorem dX8_hold_8 : decode cX8_hold 8 = .ok (.invokevirtual 46, 3) := by decide +kernel
theorem dX8_hold_11 : decode cX8_hold 11 = .ok (.ifCond .eq 10, 3) := by decide +kernel
theorem dX8_hold_14 : decode cX8_hold 14 = .ok (.aload_n 0, 1) := by decide +kernel
theorem dX8_hold_15 : decode cX8_hold 15 = .ok (.getfield 16, 3) := by decide +kernel
theorem dX8_hold_18 : decode cX8_hold 18 = .ok (.iload_n 1, 1) := by decide +kernel
theorem dX8_hold_19 : decode cX8_hold 19 = .ok (.iload_n 2, 1) := by decide +kernel
theorem dX8_hold_20 : decode cX8_hold 20 = .ok (.bastore, 1) := by decide +kernel
theorem dX8_hold_21 : decode cX8_hold 21 = .ok (.return_, 1) := by decide +kernel
set_option maxRecDepth 20000 in
theorem ggX8_isBit_X8_isIn : GoodIn wsX8_isBit wsX8_isIn := goodIn_r _ [4] (by decide +kernel) (by decide +kernel)
set_option maxRecDepth 20000 in
theorem gX8_isBit_X8_isIn : GoodIn wsX8_isBit (va_wsS RX8 42 yX8_isIn wsX8_isIn) := goodIn_app (goodIn_of _ (by decide +kernel)) ggX8_isBit_X8_isIn
theorem dX8_isBit_0 : decode cX8_isBit 0 = .ok (.iload_n 0, 1) := by decide +kernel
theorem dX8_isBit_1 : decode cX8_isBit 1 = .ok (.ifCond .ne 14, 3) := by decide +kernel
theorem dX8_isBit_4 : decode cX8_isBit 4 = .ok (.iload_n 1, 1) := by decide +kernel
theorem dX8_isBit_5 : decode cX8_isBit 5 = .ok (.iconst 1, 1) := by decide +kernel
theorem dX8_isBit_6 : decode cX8_isBit 6 = .ok (.sipush 200, 3) := by decide +kernel
theorem dX8_isBit_9 : decode cX8_isBit 9 = .ok (.invokestatic 42, 3) := by decide +kernel
theorem dX8_isBit_12 : decode cX8_isBit 12 = .ok (.ifCond .ne 18, 3) := by decide +kernel
theorem dX8_isBit_15 : decode cX8_isBit 15 = .ok (.iload_n 0, 1) := by decide +kernel
theorem dX8_isBit_16 : decode cX8_isBit 16 = .ok (.iconst 1, 1) := by decide +kernel
theorem dX8_isBit_17 : decode cX8_isBit 17 = .ok (.if_icmp .ne 17, 3) := by decide +kernel
theorem dX8_isBit_20 : decode cX8_isBit 20 = .ok (.iload_n 1, 1) := by decide +kernel
theorem dX8_isBit_21 : decode cX8_isBit 21 = .ok (.iconst 1, 1) := by decide +kernel
theorem dX8_isBit_22 : decode cX8_isBit 22 = .ok (.bipush 24, 2) := by decide +kernel
theorem dX8_isBit_24 : decode cX8_isBit 24 = .ok (.invokestatic 42, 3) := by decide +kernel
theorem dX8_isBit_27 : decode cX8_isBit 27 = .ok (.ifCond .eq 7, 3) := by decide +kernel
theorem dX8_isBit_30 : decode cX8_isBit 30 = .ok (.iconst 1, 1) := by decide +kernel
theorem dX8_isBit_31 : decode cX8_isBit 31 = .ok (.goto 4, 3) := by decide +kernel
theorem dX8_isBit_34 : decode cX8_isBit 34 = .ok (.iconst 0, 1) := by decide +kernel
theorem dX8_isBit_35 : decode cX8_isBit 35 = .ok (.ireturn, 1) := by decide +kernel
set_option maxRecDepth 20000 in
theorem ggX8_bit_X8_isBit : GoodIn wsX8_bit wsX8_isBit := goodIn_r _ [5, 6, 7, 4, 8] (by decide +kernel) (by decide +kernel)
set_option maxRecDepth 20000 in
theorem gX8_bit_X8_isBit : GoodIn wsX8_bit (va_wsS RX8 61 yX8_isBit wsX8_isBit) := goodIn_app (goodIn_of _ (by decide +kernel)) ggX8_bit_X8_isBit
set_option maxRecDepth 20000 in
theorem ggX8_bit_X8_may : GoodIn wsX8_bit wsX8_may := goodIn_r _ [12, 13, 14, 15, 16, 17, 18, 19, 20, 21, 22, 23] (by decide +kernel) (by decide +kernel)
set_option maxRecDepth 20000 in
theorem gX8_bit_X8_may : GoodIn wsX8_bit (wsV RX8 46 RX8 yX8_may wsX8_may) := goodIn_app (goodIn_of _ (by decide +kernel)) ggX8_bit_X8_may
theorem dX8_bit_0 : decode cX8_bit 0 = .ok (.aload_n 0, 1) := by decide +kernel
theorem dX8_bit_1 : decode cX8_bit 1 = .ok (.iload_n 1, 1) := by decide +kernel
theorem dX8_bit_2 : decode cX8_bit 2 = .ok (.iload_n 2, 1) := by decide +kernel
theorem dX8_bit_3 : decode cX8_bit 3 = .ok (.invokestatic 61, 3) := by decide +kernel
theorem dX8_bit_6 : decode cX8_bit 6 = .ok (.invokevirtual 46, 3) := by decide +kernel
theorem dX8_bit_9 : decode cX8_bit 9 = .ok (.ifCond .eq 32, 3) := by decide +kernel
theorem dX8_bit_12 : decode cX8_bit 12 = .ok (.aload_n 0, 1) := by decide +kernel
theorem dX8_bit_13 : decode cX8_bit 13 = .ok (.getfield 7, 3) := by decide +kernel
theorem dX8_bit_16 : decode cX8_bit 16 = .ok (.iload_n 1, 1) := by decide +kernel
theorem dX8_bit_17 : decode cX8_bit 17 = .ok (.ifCond .ne 9, 3) := by decide +kernel
theorem dX8_bit_20 : decode cX8_bit 20 = .ok (.sipush 1200, 3) := by decide +kernel
theorem dX8_bit_23 : decode cX8_bit 23 = .ok (.goto 6, 3) := by decide +kernel
theorem dX8_bit_26 : decode cX8_bit 26 = .ok (.sipush 1401, 3) := by decide +kernel
theorem dX8_bit_29 : decode cX8_bit 29 = .ok (.iload_n 2, 1) := by decide +kernel
theorem dX8_bit_30 : decode cX8_bit 30 = .ok (.iadd, 1) := by decide +kernel
theorem dX8_bit_31 : decode cX8_bit 31 = .ok (.iload_n 3, 1) := by decide +kernel
theorem dX8_bit_32 : decode cX8_bit 32 = .ok (.ifCond .eq 7, 3) := by decide +kernel
theorem dX8_bit_35 : decode cX8_bit 35 = .ok (.iconst 1, 1) := by decide +kernel
theorem dX8_bit_36 : decode cX8_bit 36 = .ok (.goto 4, 3) := by decide +kernel
theorem dX8_bit_39 : decode cX8_bit 39 = .ok (.iconst 0, 1) := by decide +kernel
theorem dX8_bit_40 : decode cX8_bit 40 = .ok (.iastore, 1) := by decide +kernel
theorem dX8_bit_41 : decode cX8_bit 41 = .ok (.return_, 1) := by decide +kernel
set_option maxRecDepth 20000 in
theorem ggX8_tell_X8_isIn : GoodIn wsX8_tell wsX8_isIn := goodIn_r _ [5] (by decide +kernel) (by decide +kernel)
set_option maxRecDepth 20000 in
theorem gX8_tell_X8_isIn : GoodIn wsX8_tell (va_wsS RX8 42 yX8_isIn wsX8_isIn) := goodIn_app (goodIn_of _ (by decide +kernel)) ggX8_tell_X8_isIn
set_option maxRecDepth 20000 in
theorem ggX8_tell_X8_may : GoodIn wsX8_tell wsX8_may := goodIn_r _ [9, 10, 11, 12, 13, 14, 15, 16, 17, 18, 19, 20] (by decide +kernel) (by decide +kernel)
set_option maxRecDepth 20000 in
theorem gX8_tell_X8_may : GoodIn wsX8_tell (wsV RX8 46 RX8 yX8_may wsX8_may) := goodIn_app (goodIn_of _ (by decide +kernel)) ggX8_tell_X8_may
theorem dX8_tell_0 : decode cX8_tell 0 = .ok (.aload_n 0, 1) := by decide +kernel
theorem dX8_tell_1 : decode cX8_tell 1 = .ok (.iload_n 1, 1) := by decide +kernel
theorem dX8_tell_2 : decode cX8_tell 2 = .ok (.iconst 0, 1) := by decide +kernel
theorem dX8_tell_3 : decode cX8_tell 3 = .ok (.iconst 2, 1) := by decide +kernel
theorem dX8_tell_4 : decode cX8_tell 4 = .ok (.invokestatic 42, 3) := by decide +kernel
theorem dX8_tell_7 : decode cX8_tell 7 = .ok (.invokevirtual 46, 3) := by decide +kernel
theorem dX8_tell_10 : decode cX8_tell 10 = .ok (.ifCond .eq 14, 3) := by decide +kernel
theorem dX8_tell_13 : decode cX8_tell 13 = .ok (.aload_n 0, 1) := by decide +kernel
theorem dX8_tell_14 : decode cX8_tell 14 = .ok (.getfield 7, 3) := by decide +kernel
theorem dX8_tell_17 : decode cX8_tell 17 = .ok (.sipush 1426, 3) := by decide +kernel
theorem dX8_tell_20 : decode cX8_tell 20 = .ok (.iload_n 1, 1) := by decide +kernel
theorem dX8_tell_21 : decode cX8_tell 21 = .ok (.iadd, 1) := by decide +kernel
theorem dX8_tell_22 : decode cX8_tell 22 = .ok (.iload_n 2, 1) := by decide +kernel
theorem dX8_tell_23 : decode cX8_tell 23 = .ok (.iastore, 1) := by decide +kernel
theorem dX8_tell_24 : decode cX8_tell 24 = .ok (.return_, 1) := by decide +kernel
theorem dX8_blank_0 : decode cX8_blank 0 = .ok (.iload_n 1, 1) := by decide +kernel
theorem dX8_blank_1 : decode cX8_blank 1 = .ok (.istore_n 3, 1) := by decide +kernel
theorem dX8_blank_2 : decode cX8_blank 2 = .ok (.iload_n 3, 1) := by decide +kernel
theorem dX8_blank_3 : decode cX8_blank 3 = .ok (.iload_n 2, 1) := by decide +kernel
theorem dX8_blank_4 : decode cX8_blank 4 = .ok (.if_icmp .ge 16, 3) := by decide +kernel
theorem dX8_blank_7 : decode cX8_blank 7 = .ok (.aload_n 0, 1) := by decide +kernel
theorem dX8_blank_8 : decode cX8_blank 8 = .ok (.getfield 7, 3) := by decide +kernel
theorem dX8_blank_11 : decode cX8_blank 11 = .ok (.iload_n 3, 1) := by decide +kernel
theorem dX8_blank_12 : decode cX8_blank 12 = .ok (.iconst 0, 1) := by decide +kernel
theorem dX8_blank_13 : decode cX8_blank 13 = .ok (.iastore, 1) := by decide +kernel
theorem dX8_blank_14 : decode cX8_blank 14 = .ok (.iinc 3 1, 3) := by decide +kernel
theorem dX8_blank_17 : decode cX8_blank 17 = .ok (.goto (-15), 3) := by decide +kernel
theorem dX8_blank_20 : decode cX8_blank 20 = .ok (.return_, 1) := by decide +kernel
set_option maxRecDepth 20000 in
theorem ggX8_dropRecord_X8_blank : GoodIn wsX8_dropRecord wsX8_blank := goodIn_r _ [5, 6, 7, 8, 9, 10, 11, 12, 13, 14, 15, 16] (by decide +kernel) (by decide +kernel)
set_option maxRecDepth 20000 in
theorem gX8_dropRecord_X8_blank : GoodIn wsX8_dropRecord (wsV RX8 65 RX8 yX8_blank wsX8_blank) := goodIn_app (goodIn_of _ (by decide +kernel)) ggX8_dropRecord_X8_blank
theorem dX8_dropRecord_0 : decode cX8_dropRecord 0 = .ok (.aload_n 0, 1) := by decide +kernel
theorem dX8_dropRecord_1 : decode cX8_dropRecord 1 = .ok (.bipush 47, 2) := by decide +kernel
theorem dX8_dropRecord_3 : decode cX8_dropRecord 3 = .ok (.iload_n 1, 1) := by decide +kernel
theorem dX8_dropRecord_4 : decode cX8_dropRecord 4 = .ok (.imul, 1) := by decide +kernel
theorem dX8_dropRecord_5 : decode cX8_dropRecord 5 = .ok (.bipush 47, 2) := by decide +kernel
theorem dX8_dropRecord_7 : decode cX8_dropRecord 7 = .ok (.iload_n 1, 1) := by decide +kernel
theorem dX8_dropRecord_8 : decode cX8_dropRecord 8 = .ok (.imul, 1) := by decide +kernel
theorem dX8_dropRecord_9 : decode cX8_dropRecord 9 = .ok (.bipush 47, 2) := by decide +kernel
theorem dX8_dropRecord_11 : decode cX8_dropRecord 11 = .ok (.iadd, 1) := by decide +kernel
theorem dX8_dropRecord_12 : decode cX8_dropRecord 12 = .ok (.invokevirtual 65, 3) := by decide +kernel
theorem dX8_dropRecord_15 : decode cX8_dropRecord 15 = .ok (.return_, 1) := by decide +kernel
theorem dX8_isRight_0 : decode cX8_isRight 0 = .ok (.iload_n 1, 1) := by decide +kernel
theorem dX8_isRight_1 : decode cX8_isRight 1 = .ok (.iconst 1, 1) := by decide +kernel
theorem dX8_isRight_2 : decode cX8_isRight 2 = .ok (.if_icmp .lt 40, 3) := by decide +kernel
theorem dX8_isRight_5 : decode cX8_isRight 5 = .ok (.iload_n 1, 1) := by decide +kernel
theorem dX8_isRight_6 : decode cX8_isRight 6 = .ok (.bipush 64, 2) := by decide +kernel
theorem dX8_isRight_8 : decode cX8_isRight 8 = .ok (.if_icmp .gt 34, 3) := by decide +kernel
theorem dX8_isRight_11 : decode cX8_isRight 11 = .ok (.iload_n 0, 1) := by decide +kernel
theorem dX8_isRight_12 : decode cX8_isRight 12 = .ok (.ifCond .lt 30, 3) := by decide +kernel
theorem dX8_isRight_15 : decode cX8_isRight 15 = .ok (.iload_n 0, 1) := by decide +kernel
theorem dX8_isRight_16 : decode cX8_isRight 16 = .ok (.bipush 64, 2) := by decide +kernel
theorem dX8_isRight_18 : decode cX8_isRight 18 = .ok (.iload_n 1, 1) := by decide +kernel
theorem dX8_isRight_19 : decode cX8_isRight 19 = .ok (.isub, 1) := by decide +kernel
theorem dX8_isRight_20 : decode cX8_isRight 20 = .ok (.if_icmp .gt 22, 3) := by decide +kernel
theorem dX8_isRight_23 : decode cX8_isRight 23 = .ok (.iload_n 2, 1) := by decide +kernel
theorem dX8_isRight_24 : decode cX8_isRight 24 = .ok (.bipush 9, 2) := by decide +kernel
theorem dX8_isRight_26 : decode cX8_isRight 26 = .ok (.if_icmp .lt 16, 3) := by decide +kernel
theorem dX8_isRight_29 : decode cX8_isRight 29 = .ok (.iload_n 2, 1) := by decide +kernel
theorem dX8_isRight_30 : decode cX8_isRight 30 = .ok (.sipush 201, 3) := by decide +kernel
theorem dX8_isRight_33 : decode cX8_isRight 33 = .ok (.iload_n 1, 1) := by decide +kernel
theorem dX8_isRight_34 : decode cX8_isRight 34 = .ok (.isub, 1) := by decide +kernel
theorem dX8_isRight_35 : decode cX8_isRight 35 = .ok (.if_icmp .gt 7, 3) := by decide +kernel
theorem dX8_isRight_38 : decode cX8_isRight 38 = .ok (.iconst 1, 1) := by decide +kernel
theorem dX8_isRight_39 : decode cX8_isRight 39 = .ok (.goto 4, 3) := by decide +kernel
theorem dX8_isRight_42 : decode cX8_isRight 42 = .ok (.iconst 0, 1) := by decide +kernel
theorem dX8_isRight_43 : decode cX8_isRight 43 = .ok (.ireturn, 1) := by decide +kernel
set_option maxRecDepth 20000 in
theorem ggX8_greatestEnd_X8_runAt : GoodIn wsX8_greatestEnd wsX8_runAt := goodIn_r _ [5] (by decide +kernel) (by decide +kernel)
set_option maxRecDepth 20000 in
theorem gX8_greatestEnd_X8_runAt : GoodIn wsX8_greatestEnd (va_wsS RX8 50 yX8_runAt wsX8_runAt) := goodIn_app (goodIn_of _ (by decide +kernel)) ggX8_greatestEnd_X8_runAt
set_option maxRecDepth 20000 in
theorem ggX8_greatestEnd_X8_isRight : GoodIn wsX8_greatestEnd wsX8_isRight := goodIn_r _ [8] (by decide +kernel) (by decide +kernel)
set_option maxRecDepth 20000 in
theorem gX8_greatestEnd_X8_isRight : GoodIn wsX8_greatestEnd (va_wsS RX8 69 yX8_isRight wsX8_isRight) := goodIn_app (goodIn_of _ (by decide +kernel)) ggX8_greatestEnd_X8_isRight
theorem dX8_greatestEnd_0 : decode cX8_greatestEnd 0 = .ok (.iconst 0, 1) := by decide +kernel
theorem dX8_greatestEnd_1 : decode cX8_greatestEnd 1 = .ok (.istore_n 2, 1) := by decide +kernel
theorem dX8_greatestEnd_2 : decode cX8_greatestEnd 2 = .ok (.iconst 0, 1) := by decide +kernel
theorem dX8_greatestEnd_3 : decode cX8_greatestEnd 3 = .ok (.istore_n 3, 1) := by decide +kernel
theorem dX8_greatestEnd_4 : decode cX8_greatestEnd 4 = .ok (.iload_n 3, 1) := by decide +kernel
theorem dX8_greatestEnd_5 : decode cX8_greatestEnd 5 = .ok (.bipush 6, 2) := by decide +kernel
theorem dX8_greatestEnd_7 : decode cX8_greatestEnd 7 = .ok (.if_icmp .ge 102, 3) := by decide +kernel
theorem dX8_greatestEnd_10 : decode cX8_greatestEnd 10 = .ok (.iload_n 1, 1) := by decide +kernel
theorem dX8_greatestEnd_11 : decode cX8_greatestEnd 11 = .ok (.iload_n 3, 1) := by decide +kernel
theorem dX8_greatestEnd_12 : decode cX8_greatestEnd 12 = .ok (.invokestatic 50, 3) := by decide +kernel
theorem dX8_greatestEnd_15 : decode cX8_greatestEnd 15 = .ok (.istore 4, 2) := by decide +kernel
theorem dX8_greatestEnd_17 : decode cX8_greatestEnd 17 = .ok (.aload_n 0, 1) := by decide +kernel
theorem dX8_greatestEnd_18 : decode cX8_greatestEnd 18 = .ok (.getfield 7, 3) := by decide +kernel
theorem dX8_greatestEnd_21 : decode cX8_greatestEnd 21 = .ok (.iload 4, 2) := by decide +kernel
theorem dX8_greatestEnd_23 : decode cX8_greatestEnd 23 = .ok (.iaload, 1) := by decide +kernel
theorem dX8_greatestEnd_24 : decode cX8_greatestEnd 24 = .ok (.aload_n 0, 1) := by decide +kernel
theorem dX8_greatestEnd_25 : decode cX8_greatestEnd 25 = .ok (.getfield 7, 3) := by decide +kernel
theorem dX8_greatestEnd_28 : decode cX8_greatestEnd 28 = .ok (.iload 4, 2) := by decide +kernel
theorem dX8_greatestEnd_30 : decode cX8_greatestEnd 30 = .ok (.iconst 1, 1) := by decide +kernel
theorem dX8_greatestEnd_31 : decode cX8_greatestEnd 31 = .ok (.iadd, 1) := by decide +kernel
theorem dX8_greatestEnd_32 : decode cX8_greatestEnd 32 = .ok (.iaload, 1) := by decide +kernel
theorem dX8_greatestEnd_33 : decode cX8_greatestEnd 33 = .ok (.aload_n 0, 1) := by decide +kernel
theorem dX8_greatestEnd_34 : decode cX8_greatestEnd 34 = .ok (.getfield 7, 3) := by decide +kernel
theorem dX8_greatestEnd_37 : decode cX8_greatestEnd 37 = .ok (.iload 4, 2) := by decide +kernel
theorem dX8_greatestEnd_39 : decode cX8_greatestEnd 39 = .ok (.iconst 2, 1) := by decide +kernel
theorem dX8_greatestEnd_40 : decode cX8_greatestEnd 40 = .ok (.iadd, 1) := by decide +kernel
theorem dX8_greatestEnd_41 : decode cX8_greatestEnd 41 = .ok (.iaload, 1) := by decide +kernel
theorem dX8_greatestEnd_42 : decode cX8_greatestEnd 42 = .ok (.invokestatic 69, 3) := by decide +kernel
theorem dX8_greatestEnd_45 : decode cX8_greatestEnd 45 = .ok (.ifCond .eq 28, 3) := by decide +kernel
theorem dX8_greatestEnd_48 : decode cX8_greatestEnd 48 = .ok (.aload_n 0, 1) := by decide +kernel
theorem dX8_greatestEnd_49 : decode cX8_greatestEnd 49 = .ok (.getfield 7, 3) := by decide +kernel
theorem dX8_greatestEnd_52 : decode cX8_greatestEnd 52 = .ok (.iload 4, 2) := by decide +kernel
theorem dX8_greatestEnd_54 : decode cX8_greatestEnd 54 = .ok (.iaload, 1) := by decide +kernel
theorem dX8_greatestEnd_55 : decode cX8_greatestEnd 55 = .ok (.aload_n 0, 1) := by decide +kernel
theorem dX8_greatestEnd_56 : decode cX8_greatestEnd 56 = .ok (.getfield 7, 3) := by decide +kernel
theorem dX8_greatestEnd_59 : decode cX8_greatestEnd 59 = .ok (.iload 4, 2) := by decide +kernel
theorem dX8_greatestEnd_61 : decode cX8_greatestEnd 61 = .ok (.iconst 1, 1) := by decide +kernel
theorem dX8_greatestEnd_62 : decode cX8_greatestEnd 62 = .ok (.iadd, 1) := by decide +kernel
theorem dX8_greatestEnd_63 : decode cX8_greatestEnd 63 = .ok (.iaload, 1) := by decide +kernel
theorem dX8_greatestEnd_64 : decode cX8_greatestEnd 64 = .ok (.iadd, 1) := by decide +kernel
theorem dX8_greatestEnd_65 : decode cX8_greatestEnd 65 = .ok (.iload_n 2, 1) := by decide +kernel
theorem dX8_greatestEnd_66 : decode cX8_greatestEnd 66 = .ok (.if_icmp .le 7, 3) := by decide +kernel
theorem dX8_greatestEnd_69 : decode cX8_greatestEnd 69 = .ok (.iconst 1, 1) := by decide +kernel
theorem dX8_greatestEnd_70 : decode cX8_greatestEnd 70 = .ok (.goto 4, 3) := by decide +kernel
theorem dX8_greatestEnd_73 : decode cX8_greatestEnd 73 = .ok (.iconst 0, 1) := by decide +kernel
theorem dX8_greatestEnd_74 : decode cX8_greatestEnd 74 = .ok (.istore 5, 2) := by decide +kernel
theorem dX8_greatestEnd_76 : decode cX8_greatestEnd 76 = .ok (.iload 5, 2) := by decide +kernel
theorem dX8_greatestEnd_78 : decode cX8_greatestEnd 78 = .ok (.ifCond .eq 23, 3) := by decide +kernel
theorem dX8_greatestEnd_81 : decode cX8_greatestEnd 81 = .ok (.aload_n 0, 1) := by decide +kernel
theorem dX8_greatestEnd_82 : decode cX8_greatestEnd 82 = .ok (.getfield 7, 3) := by decide +kernel
theorem dX8_greatestEnd_85 : decode cX8_greatestEnd 85 = .ok (.iload 4, 2) := by decide +kernel
theorem dX8_greatestEnd_87 : decode cX8_greatestEnd 87 = .ok (.iaload, 1) := by decide +kernel
theorem dX8_greatestEnd_88 : decode cX8_greatestEnd 88 = .ok (.aload_n 0, 1) := by decide +kernel
theorem dX8_greatestEnd_89 : decode cX8_greatestEnd 89 = .ok (.getfield 7, 3) := by decide +kernel
theorem dX8_greatestEnd_92 : decode cX8_greatestEnd 92 = .ok (.iload 4, 2) := by decide +kernel
theorem dX8_greatestEnd_94 : decode cX8_greatestEnd 94 = .ok (.iconst 1, 1) := by decide +kernel
theorem dX8_greatestEnd_95 : decode cX8_greatestEnd 95 = .ok (.iadd, 1) := by decide +kernel
theorem dX8_greatestEnd_96 : decode cX8_greatestEnd 96 = .ok (.iaload, 1) := by decide +kernel
theorem dX8_greatestEnd_97 : decode cX8_greatestEnd 97 = .ok (.iadd, 1) := by decide +kernel
theorem dX8_greatestEnd_98 : decode cX8_greatestEnd 98 = .ok (.goto 4, 3) := by decide +kernel
theorem dX8_greatestEnd_101 : decode cX8_greatestEnd 101 = .ok (.iload_n 2, 1) := by decide +kernel
theorem dX8_greatestEnd_102 : decode cX8_greatestEnd 102 = .ok (.istore_n 2, 1) := by decide +kernel
theorem dX8_greatestEnd_103 : decode cX8_greatestEnd 103 = .ok (.iinc 3 1, 3) := by decide +kernel
theorem dX8_greatestEnd_106 : decode cX8_greatestEnd 106 = .ok (.goto (-102), 3) := by decide +kernel
theorem dX8_greatestEnd_109 : decode cX8_greatestEnd 109 = .ok (.iload_n 2, 1) := by decide +kernel
theorem dX8_greatestEnd_110 : decode cX8_greatestEnd 110 = .ok (.ireturn, 1) := by decide +kernel
theorem dX8_isFree_0 : decode cX8_isFree 0 = .ok (.iconst 1, 1) := by decide +kernel
theorem dX8_isFree_1 : decode cX8_isFree 1 = .ok (.istore_n 3, 1) := by decide +kernel
theorem dX8_isFree_2 : decode cX8_isFree 2 = .ok (.iload_n 1, 1) := by decide +kernel
theorem dX8_isFree_3 : decode cX8_isFree 3 = .ok (.istore 4, 2) := by decide +kernel
theorem dX8_isFree_5 : decode cX8_isFree 5 = .ok (.iload 4, 2) := by decide +kernel
theorem dX8_isFree_7 : decode cX8_isFree 7 = .ok (.iload_n 1, 1) := by decide +kernel
theorem dX8_isFree_8 : decode cX8_isFree 8 = .ok (.iload_n 2, 1) := by decide +kernel
theorem dX8_isFree_9 : decode cX8_isFree 9 = .ok (.iadd, 1) := by decide +kernel
theorem dX8_isFree_10 : decode cX8_isFree 10 = .ok (.if_icmp .ge 29, 3) := by decide +kernel
theorem dX8_isFree_13 : decode cX8_isFree 13 = .ok (.iload_n 3, 1) := by decide +kernel
theorem dX8_isFree_14 : decode cX8_isFree 14 = .ok (.ifCond .eq 17, 3) := by decide +kernel
theorem dX8_isFree_17 : decode cX8_isFree 17 = .ok (.aload_n 0, 1) := by decide +kernel
theorem dX8_isFree_18 : decode cX8_isFree 18 = .ok (.getfield 20, 3) := by decide +kernel
theorem dX8_isFree_21 : decode cX8_isFree 21 = .ok (.iload 4, 2) := by decide +kernel
theorem dX8_isFree_23 : decode cX8_isFree 23 = .ok (.iaload, 1) := by decide +kernel
theorem dX8_isFree_24 : decode cX8_isFree 24 = .ok (.ifCond .ne 7, 3) := by decide +kernel
theorem dX8_isFree_27 : decode cX8_isFree 27 = .ok (.iconst 1, 1) := by decide +kernel
theorem dX8_isFree_28 : decode cX8_isFree 28 = .ok (.goto 4, 3) := by decide +kernel
theorem dX8_isFree_31 : decode cX8_isFree 31 = .ok (.iconst 0, 1) := by decide +kernel
theorem dX8_isFree_32 : decode cX8_isFree 32 = .ok (.istore_n 3, 1) := by decide +kernel
theorem dX8_isFree_33 : decode cX8_isFree 33 = .ok (.iinc 4 1, 3) := by decide +kernel
theorem dX8_isFree_36 : decode cX8_isFree 36 = .ok (.goto (-31), 3) := by decide +kernel
theorem dX8_isFree_39 : decode cX8_isFree 39 = .ok (.iload_n 3, 1) := by decide +kernel
theorem dX8_isFree_40 : decode cX8_isFree 40 = .ok (.ireturn, 1) := by decide +kernel
set_option maxRecDepth 20000 in
theorem ggX8_checkRuns_X8_runAt : GoodIn wsX8_checkRuns wsX8_runAt := goodIn_r _ [6] (by decide +kernel) (by decide +kernel)
set_option maxRecDepth 20000 in
theorem gX8_checkRuns_X8_runAt : GoodIn wsX8_checkRuns (va_wsS RX8 50 yX8_runAt wsX8_runAt) := goodIn_app (goodIn_of _ (by decide +kernel)) ggX8_checkRuns_X8_runAt
set_option maxRecDepth 20000 in
theorem ggX8_checkRuns_X8_isRight : GoodIn wsX8_checkRuns wsX8_isRight := goodIn_r _ [9] (by decide +kernel) (by decide +kernel)
set_option maxRecDepth 20000 in
theorem gX8_checkRuns_X8_isRight : GoodIn wsX8_checkRuns (va_wsS RX8 69 yX8_isRight wsX8_isRight) := goodIn_app (goodIn_of _ (by decide +kernel)) ggX8_checkRuns_X8_isRight
set_option maxRecDepth 20000 in
theorem ggX8_checkRuns_X8_isFree : GoodIn wsX8_checkRuns wsX8_isFree := goodIn_r _ [13, 2, 22, 23, 24, 25, 26, 27, 28, 29, 30, 31] (by decide +kernel) (by decide +kernel)
set_option maxRecDepth 20000 in
theorem gX8_checkRuns_X8_isFree : GoodIn wsX8_checkRuns (wsV RX8 72 RX8 yX8_isFree wsX8_isFree) := goodIn_app (goodIn_of _ (by decide +kernel)) ggX8_checkRuns_X8_isFree
set_option maxRecDepth 20000 in
theorem ggX8_checkRuns_X8_put : GoodIn wsX8_checkRuns wsX8_put := goodIn_r _ [17, 1, 22, 23, 24, 25, 26, 27, 28, 29, 30, 31] (by decide +kernel) (by decide +kernel)
set_option maxRecDepth 20000 in
theorem gX8_checkRuns_X8_put : GoodIn wsX8_checkRuns (wsV RX8 54 RX8 yX8_put wsX8_put) := goodIn_app (goodIn_of _ (by decide +kernel)) ggX8_checkRuns_X8_put
set_option maxRecDepth 20000 in
theorem ggX8_checkRuns_X8_blank : GoodIn wsX8_checkRuns wsX8_blank := goodIn_r _ [21, 1, 22, 23, 24, 25, 26, 27, 28, 29, 30, 31] (by decide +kernel) (by decide +kernel)
set_option maxRecDepth 20000 in
theorem gX8_checkRuns_X8_blank : GoodIn wsX8_checkRuns (wsV RX8 65 RX8 yX8_blank wsX8_blank) := goodIn_app (goodIn_of _ (by decide +kernel)) ggX8_checkRuns_X8_blank
theorem dX8_checkRuns_0 : decode cX8_checkRuns 0 = .ok (.aload_n 0, 1) := by decide +kernel
theorem dX8_checkRuns_1 : decode cX8_checkRuns 1 = .ok (.getfield 7, 3) := by decide +kernel
theorem dX8_checkRuns_4 : decode cX8_checkRuns 4 = .ok (.bipush 47, 2) := by decide +kernel
theorem dX8_checkRuns_6 : decode cX8_checkRuns 6 = .ok (.iload_n 1, 1) := by decide +kernel
theorem dX8_checkRuns_7 : decode cX8_checkRuns 7 = .ok (.imul, 1) := by decide +kernel
theorem dX8_checkRuns_8 : decode cX8_checkRuns 8 = .ok (.iconst 1, 1) := by decide +kernel
theorem dX8_checkRuns_9 : decode cX8_checkRuns 9 = .ok (.iadd, 1) := by decide +kernel
theorem dX8_checkRuns_10 : decode cX8_checkRuns 10 = .ok (.iaload, 1) := by decide +kernel
theorem dX8_checkRuns_11 : decode cX8_checkRuns 11 = .ok (.sipush 1023, 3) := by decide +kernel
theorem dX8_checkRuns_14 : decode cX8_checkRuns 14 = .ok (.iadd, 1) := by decide +kernel
theorem dX8_checkRuns_15 : decode cX8_checkRuns 15 = .ok (.sipush 1024, 3) := by decide +kernel
theorem dX8_checkRuns_18 : decode cX8_checkRuns 18 = .ok (.idiv, 1) := by decide +kernel
theorem dX8_checkRuns_19 : decode cX8_checkRuns 19 = .ok (.istore_n 2, 1) := by decide +kernel
theorem dX8_checkRuns_20 : decode cX8_checkRuns 20 = .ok (.iconst 0, 1) := by decide +kernel
theorem dX8_checkRuns_21 : decode cX8_checkRuns 21 = .ok (.istore_n 3, 1) := by decide +kernel
theorem dX8_checkRuns_22 : decode cX8_checkRuns 22 = .ok (.iconst 0, 1) := by decide +kernel
theorem dX8_checkRuns_23 : decode cX8_checkRuns 23 = .ok (.istore 4, 2) := by decide +kernel
theorem dX8_checkRuns_25 : decode cX8_checkRuns 25 = .ok (.iconst 0, 1) := by decide +kernel
theorem dX8_checkRuns_26 : decode cX8_checkRuns 26 = .ok (.istore 5, 2) := by decide +kernel
theorem dX8_checkRuns_28 : decode cX8_checkRuns 28 = .ok (.iload 5, 2) := by decide +kernel
theorem dX8_checkRuns_30 : decode cX8_checkRuns 30 = .ok (.bipush 6, 2) := by decide +kernel
theorem dX8_checkRuns_32 : decode cX8_checkRuns 32 = .ok (.if_icmp .ge 172, 3) := by decide +kernel
theorem dX8_checkRuns_35 : decode cX8_checkRuns 35 = .ok (.iload_n 1, 1) := by decide +kernel
theorem dX8_checkRuns_36 : decode cX8_checkRuns 36 = .ok (.iload 5, 2) := by decide +kernel
theorem dX8_checkRuns_38 : decode cX8_checkRuns 38 = .ok (.invokestatic 50, 3) := by decide +kernel
theorem dX8_checkRuns_41 : decode cX8_checkRuns 41 = .ok (.istore 6, 2) := by decide +kernel
theorem dX8_checkRuns_43 : decode cX8_checkRuns 43 = .ok (.aload_n 0, 1) := by decide +kernel
theorem dX8_checkRuns_44 : decode cX8_checkRuns 44 = .ok (.getfield 7, 3) := by decide +kernel
theorem dX8_checkRuns_47 : decode cX8_checkRuns 47 = .ok (.iload 6, 2) := by decide +kernel
theorem dX8_checkRuns_49 : decode cX8_checkRuns 49 = .ok (.iaload, 1) := by decide +kernel
theorem dX8_checkRuns_50 : decode cX8_checkRuns 50 = .ok (.istore 7, 2) := by decide +kernel
theorem dX8_checkRuns_52 : decode cX8_checkRuns 52 = .ok (.aload_n 0, 1) := by decide +kernel
theorem dX8_checkRuns_53 : decode cX8_checkRuns 53 = .ok (.getfield 7, 3) := by decide +kernel
theorem dX8_checkRuns_56 : decode cX8_checkRuns 56 = .ok (.iload 6, 2) := by decide +kernel
theorem dX8_checkRuns_58 : decode cX8_checkRuns 58 = .ok (.iconst 1, 1) := by decide +kernel
theorem dX8_checkRuns_59 : decode cX8_checkRuns 59 = .ok (.iadd, 1) := by decide +kernel
theorem dX8_checkRuns_60 : decode cX8_checkRuns 60 = .ok (.iaload, 1) := by decide +kernel
theorem dX8_checkRuns_61 : decode cX8_checkRuns 61 = .ok (.istore 8, 2) := by decide +kernel
theorem dX8_checkRuns_63 : decode cX8_checkRuns 63 = .ok (.aload_n 0, 1) := by decide +kernel
theorem dX8_checkRuns_64 : decode cX8_checkRuns 64 = .ok (.getfield 7, 3) := by decide +kernel
theorem dX8_checkRuns_67 : decode cX8_checkRuns 67 = .ok (.iload 6, 2) := by decide +kernel
theorem dX8_checkRuns_69 : decode cX8_checkRuns 69 = .ok (.iconst 2, 1) := by decide +kernel
theorem dX8_checkRuns_70 : decode cX8_checkRuns 70 = .ok (.iadd, 1) := by decide +kernel
theorem dX8_checkRuns_71 : decode cX8_checkRuns 71 = .ok (.iaload, 1) := by decide +kernel
theorem dX8_checkRuns_72 : decode cX8_checkRuns 72 = .ok (.istore 9, 2) := by decide +kernel
theorem dX8_checkRuns_74 : decode cX8_checkRuns 74 = .ok (.iload 7, 2) := by decide +kernel
theorem dX8_checkRuns_76 : decode cX8_checkRuns 76 = .ok (.iload 8, 2) := by decide +kernel
theorem dX8_checkRuns_78 : decode cX8_checkRuns 78 = .ok (.iload 9, 2) := by decide +kernel
theorem dX8_checkRuns_80 : decode cX8_checkRuns 80 = .ok (.invokestatic 69, 3) := by decide +kernel
theorem dX8_checkRuns_83 : decode cX8_checkRuns 83 = .ok (.istore 10, 2) := by decide +kernel
theorem dX8_checkRuns_85 : decode cX8_checkRuns 85 = .ok (.iload 10, 2) := by decide +kernel
theorem dX8_checkRuns_87 : decode cX8_checkRuns 87 = .ok (.ifCond .eq 18, 3) := by decide +kernel
theorem dX8_checkRuns_90 : decode cX8_checkRuns 90 = .ok (.iload 7, 2) := by decide +kernel
theorem dX8_checkRuns_92 : decode cX8_checkRuns 92 = .ok (.iload 8, 2) := by decide +kernel
theorem dX8_checkRuns_94 : decode cX8_checkRuns 94 = .ok (.iadd, 1) := by decide +kernel
theorem dX8_checkRuns_95 : decode cX8_checkRuns 95 = .ok (.iload_n 2, 1) := by decide +kernel
theorem dX8_checkRuns_96 : decode cX8_checkRuns 96 = .ok (.if_icmp .le 9, 3) := by decide +kernel
theorem dX8_checkRuns_99 : decode cX8_checkRuns 99 = .ok (.iload_n 2, 1) := by decide +kernel
theorem dX8_checkRuns_100 : decode cX8_checkRuns 100 = .ok (.iload 7, 2) := by decide +kernel
theorem dX8_checkRuns_102 : decode cX8_checkRuns 102 = .ok (.isub, 1) := by decide +kernel
theorem dX8_checkRuns_103 : decode cX8_checkRuns 103 = .ok (.istore 8, 2) := by decide +kernel
theorem dX8_checkRuns_105 : decode cX8_checkRuns 105 = .ok (.iload 10, 2) := by decide +kernel
theorem dX8_checkRuns_107 : decode cX8_checkRuns 107 = .ok (.ifCond .eq 30, 3) := by decide +kernel
theorem dX8_checkRuns_110 : decode cX8_checkRuns 110 = .ok (.iload 8, 2) := by decide +kernel
theorem dX8_checkRuns_112 : decode cX8_checkRuns 112 = .ok (.ifCond .le 25, 3) := by decide +kernel
theorem dX8_checkRuns_115 : decode cX8_checkRuns 115 = .ok (.iload 7, 2) := by decide +kernel
theorem dX8_checkRuns_117 : decode cX8_checkRuns 117 = .ok (.iload 4, 2) := by decide +kernel
theorem dX8_checkRuns_119 : decode cX8_checkRuns 119 = .ok (.if_icmp .lt 18, 3) := by decide +kernel
theorem dX8_checkRuns_122 : decode cX8_checkRuns 122 = .ok (.aload_n 0, 1) := by decide +kernel
theorem dX8_checkRuns_123 : decode cX8_checkRuns 123 = .ok (.iload 9, 2) := by decide +kernel
theorem dX8_checkRuns_125 : decode cX8_checkRuns 125 = .ok (.iload 8, 2) := by decide +kernel
theorem dX8_checkRuns_127 : decode cX8_checkRuns 127 = .ok (.invokevirtual 72, 3) := by decide +kernel
theorem dX8_checkRuns_130 : decode cX8_checkRuns 130 = .ok (.ifCond .eq 7, 3) := by decide +kernel
theorem dX8_checkRuns_133 : decode cX8_checkRuns 133 = .ok (.iconst 1, 1) := by decide +kernel
theorem dX8_checkRuns_134 : decode cX8_checkRuns 134 = .ok (.goto 4, 3) := by decide +kernel
theorem dX8_checkRuns_137 : decode cX8_checkRuns 137 = .ok (.iconst 0, 1) := by decide +kernel
theorem dX8_checkRuns_138 : decode cX8_checkRuns 138 = .ok (.istore 10, 2) := by decide +kernel
theorem dX8_checkRuns_140 : decode cX8_checkRuns 140 = .ok (.iload 10, 2) := by decide +kernel
theorem dX8_checkRuns_142 : decode cX8_checkRuns 142 = .ok (.ifCond .eq 56, 3) := by decide +kernel
theorem dX8_checkRuns_145 : decode cX8_checkRuns 145 = .ok (.iload 9, 2) := by decide +kernel
theorem dX8_checkRuns_147 : decode cX8_checkRuns 147 = .ok (.istore 11, 2) := by decide +kernel
theorem dX8_checkRuns_149 : decode cX8_checkRuns 149 = .ok (.iload 11, 2) := by decide +kernel
theorem dX8_checkRuns_151 : decode cX8_checkRuns 151 = .ok (.iload 9, 2) := by decide +kernel
theorem dX8_checkRuns_153 : decode cX8_checkRuns 153 = .ok (.iload 8, 2) := by decide +kernel
theorem dX8_checkRuns_155 : decode cX8_checkRuns 155 = .ok (.iadd, 1) := by decide +kernel
theorem dX8_checkRuns_156 : decode cX8_checkRuns 156 = .ok (.if_icmp .ge 17, 3) := by decide +kernel
theorem dX8_checkRuns_159 : decode cX8_checkRuns 159 = .ok (.aload_n 0, 1) := by decide +kernel
theorem dX8_checkRuns_160 : decode cX8_checkRuns 160 = .ok (.getfield 20, 3) := by decide +kernel
theorem dX8_checkRuns_163 : decode cX8_checkRuns 163 = .ok (.iload 11, 2) := by decide +kernel
theorem dX8_checkRuns_165 : decode cX8_checkRuns 165 = .ok (.iload_n 1, 1) := by decide +kernel
theorem dX8_checkRuns_166 : decode cX8_checkRuns 166 = .ok (.iastore, 1) := by decide +kernel
theorem dX8_checkRuns_167 : decode cX8_checkRuns 167 = .ok (.iinc 11 1, 3) := by decide +kernel
theorem dX8_checkRuns_170 : decode cX8_checkRuns 170 = .ok (.goto (-21), 3) := by decide +kernel
theorem dX8_checkRuns_173 : decode cX8_checkRuns 173 = .ok (.aload_n 0, 1) := by decide +kernel
theorem dX8_checkRuns_174 : decode cX8_checkRuns 174 = .ok (.iload_n 1, 1) := by decide +kernel
theorem dX8_checkRuns_175 : decode cX8_checkRuns 175 = .ok (.iload_n 3, 1) := by decide +kernel
theorem dX8_checkRuns_176 : decode cX8_checkRuns 176 = .ok (.invokestatic 50, 3) := by decide +kernel
theorem dX8_checkRuns_179 : decode cX8_checkRuns 179 = .ok (.iload 7, 2) := by decide +kernel
theorem dX8_checkRuns_181 : decode cX8_checkRuns 181 = .ok (.iload 8, 2) := by decide +kernel
theorem dX8_checkRuns_183 : decode cX8_checkRuns 183 = .ok (.iload 9, 2) := by decide +kernel
theorem dX8_checkRuns_185 : decode cX8_checkRuns 185 = .ok (.invokevirtual 54, 3) := by decide +kernel
theorem dX8_checkRuns_188 : decode cX8_checkRuns 188 = .ok (.iinc 3 1, 3) := by decide +kernel
theorem dX8_checkRuns_191 : decode cX8_checkRuns 191 = .ok (.iload 7, 2) := by decide +kernel
theorem dX8_checkRuns_193 : decode cX8_checkRuns 193 = .ok (.iload 8, 2) := by decide +kernel
theorem dX8_checkRuns_195 : decode cX8_checkRuns 195 = .ok (.iadd, 1) := by decide +kernel
theorem dX8_checkRuns_196 : decode cX8_checkRuns 196 = .ok (.istore 4, 2) := by decide +kernel
theorem dX8_checkRuns_198 : decode cX8_checkRuns 198 = .ok (.iinc 5 1, 3) := by decide +kernel
theorem dX8_checkRuns_201 : decode cX8_checkRuns 201 = .ok (.goto (-173), 3) := by decide +kernel
theorem dX8_checkRuns_204 : decode cX8_checkRuns 204 = .ok (.aload_n 0, 1) := by decide +kernel
theorem dX8_checkRuns_205 : decode cX8_checkRuns 205 = .ok (.iload_n 1, 1) := by decide +kernel
theorem dX8_checkRuns_206 : decode cX8_checkRuns 206 = .ok (.iload_n 3, 1) := by decide +kernel
theorem dX8_checkRuns_207 : decode cX8_checkRuns 207 = .ok (.invokestatic 50, 3) := by decide +kernel
theorem dX8_checkRuns_210 : decode cX8_checkRuns 210 = .ok (.iload_n 1, 1) := by decide +kernel
theorem dX8_checkRuns_211 : decode cX8_checkRuns 211 = .ok (.bipush 6, 2) := by decide +kernel
theorem dX8_checkRuns_213 : decode cX8_checkRuns 213 = .ok (.invokestatic 50, 3) := by decide +kernel
theorem dX8_checkRuns_216 : decode cX8_checkRuns 216 = .ok (.invokevirtual 65, 3) := by decide +kernel
theorem dX8_checkRuns_219 : decode cX8_checkRuns 219 = .ok (.return_, 1) := by decide +kernel
set_option maxRecDepth 20000 in
theorem ggX8_checkRecord_X8_blank : GoodIn wsX8_checkRecord wsX8_blank := goodIn_r _ [7, 1, 35, 36, 37, 38, 39, 40, 41, 42, 43, 44] (by decide +kernel) (by decide +kernel)
set_option maxRecDepth 20000 in
theorem gX8_checkRecord_X8_blank : GoodIn wsX8_checkRecord (wsV RX8 65 RX8 yX8_blank wsX8_blank) := goodIn_app (goodIn_of _ (by decide +kernel)) ggX8_checkRecord_X8_blank
set_option maxRecDepth 20000 in
theorem ggX8_checkRecord_X8_dropRecord : GoodIn wsX8_checkRecord wsX8_dropRecord := goodIn_r _ [11, 3, 4, 5, 6, 7, 1, 35, 36, 37, 38, 39, 40, 41, 42, 43, 44] (by decide +kernel) (by decide +kernel)
set_option maxRecDepth 20000 in
theorem gX8_checkRecord_X8_dropRecord : GoodIn wsX8_checkRecord (wsV RX8 75 RX8 yX8_dropRecord wsX8_dropRecord) := goodIn_app (goodIn_of _ (by decide +kernel)) ggX8_checkRecord_X8_dropRecord
set_option maxRecDepth 20000 in
theorem ggX8_checkRecord_X8_greatestEnd : GoodIn wsX8_checkRecord wsX8_greatestEnd := goodIn_r _ [15, 1, 16, 17, 6, 18, 19, 20, 21, 35, 36, 37, 38, 39, 40, 41, 42, 43, 44] (by decide +kernel) (by decide +kernel)
set_option maxRecDepth 20000 in
theorem gX8_checkRecord_X8_greatestEnd : GoodIn wsX8_checkRecord (wsV RX8 80 RX8 yX8_greatestEnd wsX8_greatestEnd) := goodIn_app (goodIn_of _ (by decide +kernel)) ggX8_checkRecord_X8_greatestEnd
set_option maxRecDepth 20000 in
theorem ggX8_checkRecord_X8_checkRuns : GoodIn wsX8_checkRecord wsX8_checkRuns := goodIn_r _ [25, 1, 26, 16, 17, 6, 18, 19, 20, 21, 27, 28, 29, 30, 31, 32, 33, 34, 3, 4, 5, 7, 35, 36, 37, 38, 39, 40, 41, 42, 43, 44] (by decide +kernel) (by decide +kernel)
set_option maxRecDepth 20000 in
theorem gX8_checkRecord_X8_checkRuns : GoodIn wsX8_checkRecord (wsV RX8 84 RX8 yX8_checkRuns wsX8_checkRuns) := goodIn_app (goodIn_of _ (by decide +kernel)) ggX8_checkRecord_X8_checkRuns
theorem dX8_checkRecord_0 : decode cX8_checkRecord 0 = .ok (.bipush 47, 2) := by decide +kernel
theorem dX8_checkRecord_2 : decode cX8_checkRecord 2 = .ok (.iload_n 1, 1) := by decide +kernel
theorem dX8_checkRecord_3 : decode cX8_checkRecord 3 = .ok (.imul, 1) := by decide +kernel
theorem dX8_checkRecord_4 : decode cX8_checkRecord 4 = .ok (.istore_n 2, 1) := by decide +kernel
theorem dX8_checkRecord_5 : decode cX8_checkRecord 5 = .ok (.iload_n 1, 1) := by decide +kernel
theorem dX8_checkRecord_6 : decode cX8_checkRecord 6 = .ok (.iconst 1, 1) := by decide +kernel
theorem dX8_checkRecord_7 : decode cX8_checkRecord 7 = .ok (.if_icmp .ne 40, 3) := by decide +kernel
theorem dX8_checkRecord_10 : decode cX8_checkRecord 10 = .ok (.aload_n 0, 1) := by decide +kernel
theorem dX8_checkRecord_11 : decode cX8_checkRecord 11 = .ok (.getfield 7, 3) := by decide +kernel
theorem dX8_checkRecord_14 : decode cX8_checkRecord 14 = .ok (.iload_n 2, 1) := by decide +kernel
theorem dX8_checkRecord_15 : decode cX8_checkRecord 15 = .ok (.iaload, 1) := by decide +kernel
theorem dX8_checkRecord_16 : decode cX8_checkRecord 16 = .ok (.iconst 2, 1) := by decide +kernel
theorem dX8_checkRecord_17 : decode cX8_checkRecord 17 = .ok (.if_icmp .eq 30, 3) := by decide +kernel
theorem dX8_checkRecord_20 : decode cX8_checkRecord 20 = .ok (.aload_n 0, 1) := by decide +kernel
theorem dX8_checkRecord_21 : decode cX8_checkRecord 21 = .ok (.getfield 7, 3) := by decide +kernel
theorem dX8_checkRecord_24 : decode cX8_checkRecord 24 = .ok (.iload_n 2, 1) := by decide +kernel
theorem dX8_checkRecord_25 : decode cX8_checkRecord 25 = .ok (.iconst 2, 1) := by decide +kernel
theorem dX8_checkRecord_26 : decode cX8_checkRecord 26 = .ok (.iastore, 1) := by decide +kernel
theorem dX8_checkRecord_27 : decode cX8_checkRecord 27 = .ok (.aload_n 0, 1) := by decide +kernel
theorem dX8_checkRecord_28 : decode cX8_checkRecord 28 = .ok (.getfield 7, 3) := by decide +kernel
theorem dX8_checkRecord_31 : decode cX8_checkRecord 31 = .ok (.iload_n 2, 1) := by decide +kernel
theorem dX8_checkRecord_32 : decode cX8_checkRecord 32 = .ok (.iconst 1, 1) := by decide +kernel
theorem dX8_checkRecord_33 : decode cX8_checkRecord 33 = .ok (.iadd, 1) := by decide +kernel
theorem dX8_checkRecord_34 : decode cX8_checkRecord 34 = .ok (.iconst 0, 1) := by decide +kernel
theorem dX8_checkRecord_35 : decode cX8_checkRecord 35 = .ok (.iastore, 1) := by decide +kernel
theorem dX8_checkRecord_36 : decode cX8_checkRecord 36 = .ok (.aload_n 0, 1) := by decide +kernel
theorem dX8_checkRecord_37 : decode cX8_checkRecord 37 = .ok (.iload_n 2, 1) := by decide +kernel
theorem dX8_checkRecord_38 : decode cX8_checkRecord 38 = .ok (.iconst 5, 1) := by decide +kernel
theorem dX8_checkRecord_39 : decode cX8_checkRecord 39 = .ok (.iadd, 1) := by decide +kernel
theorem dX8_checkRecord_40 : decode cX8_checkRecord 40 = .ok (.iload_n 2, 1) := by decide +kernel
theorem dX8_checkRecord_41 : decode cX8_checkRecord 41 = .ok (.bipush 47, 2) := by decide +kernel
theorem dX8_checkRecord_43 : decode cX8_checkRecord 43 = .ok (.iadd, 1) := by decide +kernel
theorem dX8_checkRecord_44 : decode cX8_checkRecord 44 = .ok (.invokevirtual 65, 3) := by decide +kernel
theorem dX8_checkRecord_47 : decode cX8_checkRecord 47 = .ok (.aload_n 0, 1) := by decide +kernel
theorem dX8_checkRecord_48 : decode cX8_checkRecord 48 = .ok (.getfield 7, 3) := by decide +kernel
theorem dX8_checkRecord_51 : decode cX8_checkRecord 51 = .ok (.iload_n 2, 1) := by decide +kernel
theorem dX8_checkRecord_52 : decode cX8_checkRecord 52 = .ok (.iaload, 1) := by decide +kernel
theorem dX8_checkRecord_53 : decode cX8_checkRecord 53 = .ok (.iconst 1, 1) := by decide +kernel
theorem dX8_checkRecord_54 : decode cX8_checkRecord 54 = .ok (.if_icmp .lt 13, 3) := by decide +kernel
theorem dX8_checkRecord_57 : decode cX8_checkRecord 57 = .ok (.aload_n 0, 1) := by decide +kernel
theorem dX8_checkRecord_58 : decode cX8_checkRecord 58 = .ok (.getfield 7, 3) := by decide +kernel
theorem dX8_checkRecord_61 : decode cX8_checkRecord 61 = .ok (.iload_n 2, 1) := by decide +kernel
theorem dX8_checkRecord_62 : decode cX8_checkRecord 62 = .ok (.iaload, 1) := by decide +kernel
theorem dX8_checkRecord_63 : decode cX8_checkRecord 63 = .ok (.iconst 3, 1) := by decide +kernel
theorem dX8_checkRecord_64 : decode cX8_checkRecord 64 = .ok (.if_icmp .le 9, 3) := by decide +kernel
theorem dX8_checkRecord_67 : decode cX8_checkRecord 67 = .ok (.aload_n 0, 1) := by decide +kernel
theorem dX8_checkRecord_68 : decode cX8_checkRecord 68 = .ok (.iload_n 1, 1) := by decide +kernel
theorem dX8_checkRecord_69 : decode cX8_checkRecord 69 = .ok (.invokevirtual 75, 3) := by decide +kernel
theorem dX8_checkRecord_72 : decode cX8_checkRecord 72 = .ok (.return_, 1) := by decide +kernel
theorem dX8_checkRecord_73 : decode cX8_checkRecord 73 = .ok (.aload_n 0, 1) := by decide +kernel
theorem dX8_checkRecord_74 : decode cX8_checkRecord 74 = .ok (.getfield 7, 3) := by decide +kernel
theorem dX8_checkRecord_77 : decode cX8_checkRecord 77 = .ok (.iload_n 2, 1) := by decide +kernel
theorem dX8_checkRecord_78 : decode cX8_checkRecord 78 = .ok (.iconst 1, 1) := by decide +kernel
theorem dX8_checkRecord_79 : decode cX8_checkRecord 79 = .ok (.iadd, 1) := by decide +kernel
theorem dX8_checkRecord_80 : decode cX8_checkRecord 80 = .ok (.iaload, 1) := by decide +kernel
theorem dX8_checkRecord_81 : decode cX8_checkRecord 81 = .ok (.ifCond .lt 16, 3) := by decide +kernel
theorem dX8_checkRecord_84 : decode cX8_checkRecord 84 = .ok (.aload_n 0, 1) := by decide +kernel
theorem dX8_checkRecord_85 : decode cX8_checkRecord 85 = .ok (.getfield 7, 3) := by decide +kernel
theorem dX8_checkRecord_88 : decode cX8_checkRecord 88 = .ok (.iload_n 2, 1) := by decide +kernel
theorem dX8_checkRecord_89 : decode cX8_checkRecord 89 = .ok (.iconst 1, 1) := by decide +kernel
theorem dX8_checkRecord_90 : decode cX8_checkRecord 90 = .ok (.iadd, 1) := by decide +kernel
theorem dX8_checkRecord_91 : decode cX8_checkRecord 91 = .ok (.iaload, 1) := by decide +kernel
theorem dX8_checkRecord_92 : decode cX8_checkRecord 92 = .ok (.ldc 79, 2) := by decide +kernel
theorem dX8_checkRecord_94 : decode cX8_checkRecord 94 = .ok (.if_icmp .le 20, 3) := by decide +kernel
theorem dX8_checkRecord_97 : decode cX8_checkRecord 97 = .ok (.aload_n 0, 1) := by decide +kernel
theorem dX8_checkRecord_98 : decode cX8_checkRecord 98 = .ok (.getfield 7, 3) := by decide +kernel
theorem dX8_checkRecord_101 : decode cX8_checkRecord 101 = .ok (.iload_n 2, 1) := by decide +kernel
theorem dX8_checkRecord_102 : decode cX8_checkRecord 102 = .ok (.iconst 1, 1) := by decide +kernel
theorem dX8_checkRecord_103 : decode cX8_checkRecord 103 = .ok (.iadd, 1) := by decide +kernel
theorem dX8_checkRecord_104 : decode cX8_checkRecord 104 = .ok (.sipush 1024, 3) := by decide +kernel
theorem dX8_checkRecord_107 : decode cX8_checkRecord 107 = .ok (.aload_n 0, 1) := by decide +kernel
theorem dX8_checkRecord_108 : decode cX8_checkRecord 108 = .ok (.iload_n 1, 1) := by decide +kernel
theorem dX8_checkRecord_109 : decode cX8_checkRecord 109 = .ok (.invokevirtual 80, 3) := by decide +kernel
theorem dX8_checkRecord_112 : decode cX8_checkRecord 112 = .ok (.imul, 1) := by decide +kernel
theorem dX8_checkRecord_113 : decode cX8_checkRecord 113 = .ok (.iastore, 1) := by decide +kernel
theorem dX8_checkRecord_114 : decode cX8_checkRecord 114 = .ok (.aload_n 0, 1) := by decide +kernel
theorem dX8_checkRecord_115 : decode cX8_checkRecord 115 = .ok (.iload_n 1, 1) := by decide +kernel
theorem dX8_checkRecord_116 : decode cX8_checkRecord 116 = .ok (.invokevirtual 84, 3) := by decide +kernel
theorem dX8_checkRecord_119 : decode cX8_checkRecord 119 = .ok (.aload_n 0, 1) := by decide +kernel
theorem dX8_checkRecord_120 : decode cX8_checkRecord 120 = .ok (.getfield 7, 3) := by decide +kernel
theorem dX8_checkRecord_123 : decode cX8_checkRecord 123 = .ok (.iload_n 2, 1) := by decide +kernel
theorem dX8_checkRecord_124 : decode cX8_checkRecord 124 = .ok (.iaload, 1) := by decide +kernel
theorem dX8_checkRecord_125 : decode cX8_checkRecord 125 = .ok (.iconst 2, 1) := by decide +kernel
theorem dX8_checkRecord_126 : decode cX8_checkRecord 126 = .ok (.if_icmp .eq 15, 3) := by decide +kernel
theorem dX8_checkRecord_129 : decode cX8_checkRecord 129 = .ok (.aload_n 0, 1) := by decide +kernel
theorem dX8_checkRecord_130 : decode cX8_checkRecord 130 = .ok (.iload_n 2, 1) := by decide +kernel
theorem dX8_checkRecord_131 : decode cX8_checkRecord 131 = .ok (.bipush 23, 2) := by decide +kernel
theorem dX8_checkRecord_133 : decode cX8_checkRecord 133 = .ok (.iadd, 1) := by decide +kernel
theorem dX8_checkRecord_134 : decode cX8_checkRecord 134 = .ok (.iload_n 2, 1) := by decide +kernel
theorem dX8_checkRecord_135 : decode cX8_checkRecord 135 = .ok (.bipush 47, 2) := by decide +kernel
theorem dX8_checkRecord_137 : decode cX8_checkRecord 137 = .ok (.iadd, 1) := by decide +kernel
theorem dX8_checkRecord_138 : decode cX8_checkRecord 138 = .ok (.invokevirtual 65, 3) := by decide +kernel
theorem dX8_checkRecord_141 : decode cX8_checkRecord 141 = .ok (.return_, 1) := by decide +kernel
set_option maxRecDepth 20000 in
theorem ggX8_checkRecords_X8_checkRecord : GoodIn wsX8_checkRecords wsX8_checkRecord := goodIn_r _ [6, 7, 8, 9, 10, 11, 5, 12, 13, 14, 15, 16, 17, 18, 19, 20, 21, 22, 23, 24, 25, 26, 27, 28, 29, 30, 1, 31, 32, 33, 34, 35, 36, 37, 38, 39, 40, 41, 42, 43, 44, 45, 46, 47, 48] (by decide +kernel) (by decide +kernel)
set_option maxRecDepth 20000 in
theorem gX8_checkRecords_X8_checkRecord : GoodIn wsX8_checkRecords (wsV RX8 87 RX8 yX8_checkRecord wsX8_checkRecord) := goodIn_app (goodIn_of _ (by decide +kernel)) ggX8_checkRecords_X8_checkRecord
theorem dX8_checkRecords_0 : decode cX8_checkRecords 0 = .ok (.iconst 0, 1) := by decide +kernel
theorem dX8_checkRecords_1 : decode cX8_checkRecords 1 = .ok (.istore_n 1, 1) := by decide +kernel
theorem dX8_checkRecords_2 : decode cX8_checkRecords 2 = .ok (.iload_n 1, 1) := by decide +kernel
theorem dX8_checkRecords_3 : decode cX8_checkRecords 3 = .ok (.sipush 200, 3) := by decide +kernel
theorem dX8_checkRecords_6 : decode cX8_checkRecords 6 = .ok (.if_icmp .gt 16, 3) := by decide +kernel
theorem dX8_checkRecords_9 : decode cX8_checkRecords 9 = .ok (.aload_n 0, 1) := by decide +kernel
theorem dX8_checkRecords_10 : decode cX8_checkRecords 10 = .ok (.getfield 20, 3) := by decide +kernel
theorem dX8_checkRecords_13 : decode cX8_checkRecords 13 = .ok (.iload_n 1, 1) := by decide +kernel
theorem dX8_checkRecords_14 : decode cX8_checkRecords 14 = .ok (.iconst 0, 1) := by decide +kernel
theorem dX8_checkRecords_15 : decode cX8_checkRecords 15 = .ok (.iastore, 1) := by decide +kernel
theorem dX8_checkRecords_16 : decode cX8_checkRecords 16 = .ok (.iinc 1 1, 3) := by decide +kernel
theorem dX8_checkRecords_19 : decode cX8_checkRecords 19 = .ok (.goto (-17), 3) := by decide +kernel
theorem dX8_checkRecords_22 : decode cX8_checkRecords 22 = .ok (.iconst 1, 1) := by decide +kernel
theorem dX8_checkRecords_23 : decode cX8_checkRecords 23 = .ok (.istore_n 1, 1) := by decide +kernel
theorem dX8_checkRecords_24 : decode cX8_checkRecords 24 = .ok (.iload_n 1, 1) := by decide +kernel
theorem dX8_checkRecords_25 : decode cX8_checkRecords 25 = .ok (.bipush 24, 2) := by decide +kernel
theorem dX8_checkRecords_27 : decode cX8_checkRecords 27 = .ok (.if_icmp .gt 14, 3) := by decide +kernel
theorem dX8_checkRecords_30 : decode cX8_checkRecords 30 = .ok (.aload_n 0, 1) := by decide +kernel
theorem dX8_checkRecords_31 : decode cX8_checkRecords 31 = .ok (.iload_n 1, 1) := by decide +kernel
theorem dX8_checkRecords_32 : decode cX8_checkRecords 32 = .ok (.invokevirtual 87, 3) := by decide +kernel
theorem dX8_checkRecords_35 : decode cX8_checkRecords 35 = .ok (.iinc 1 1, 3) := by decide +kernel
theorem dX8_checkRecords_38 : decode cX8_checkRecords 38 = .ok (.goto (-14), 3) := by decide +kernel
theorem dX8_checkRecords_41 : decode cX8_checkRecords 41 = .ok (.return_, 1) := by decide +kernel
theorem dX8_kindOf_0 : decode cX8_kindOf 0 = .ok (.aload_n 0, 1) := by decide +kernel
theorem dX8_kindOf_1 : decode cX8_kindOf 1 = .ok (.getfield 7, 3) := by decide +kernel
theorem dX8_kindOf_4 : decode cX8_kindOf 4 = .ok (.bipush 47, 2) := by decide +kernel
theorem dX8_kindOf_6 : decode cX8_kindOf 6 = .ok (.iload_n 1, 1) := by decide +kernel
theorem dX8_kindOf_7 : decode cX8_kindOf 7 = .ok (.imul, 1) := by decide +kernel
theorem dX8_kindOf_8 : decode cX8_kindOf 8 = .ok (.iaload, 1) := by decide +kernel
theorem dX8_kindOf_9 : decode cX8_kindOf 9 = .ok (.ireturn, 1) := by decide +kernel
set_option maxRecDepth 20000 in
theorem ggX8_hasName_X8_entryAt : GoodIn wsX8_hasName wsX8_entryAt := goodIn_r _ [5] (by decide +kernel) (by decide +kernel)
set_option maxRecDepth 20000 in
theorem gX8_hasName_X8_entryAt : GoodIn wsX8_hasName (va_wsS RX8 58 yX8_entryAt wsX8_entryAt) := goodIn_app (goodIn_of _ (by decide +kernel)) ggX8_hasName_X8_entryAt
theorem dX8_hasName_0 : decode cX8_hasName 0 = .ok (.iconst 0, 1) := by decide +kernel
theorem dX8_hasName_1 : decode cX8_hasName 1 = .ok (.istore 4, 2) := by decide +kernel
theorem dX8_hasName_3 : decode cX8_hasName 3 = .ok (.iconst 0, 1) := by decide +kernel
theorem dX8_hasName_4 : decode cX8_hasName 4 = .ok (.istore 5, 2) := by decide +kernel
theorem dX8_hasName_6 : decode cX8_hasName 6 = .ok (.iload 5, 2) := by decide +kernel
theorem dX8_hasName_8 : decode cX8_hasName 8 = .ok (.iload_n 2, 1) := by decide +kernel
theorem dX8_hasName_9 : decode cX8_hasName 9 = .ok (.if_icmp .ge 36, 3) := by decide +kernel
theorem dX8_hasName_12 : decode cX8_hasName 12 = .ok (.iload 4, 2) := by decide +kernel
theorem dX8_hasName_14 : decode cX8_hasName 14 = .ok (.ifCond .ne 18, 3) := by decide +kernel
theorem dX8_hasName_17 : decode cX8_hasName 17 = .ok (.aload_n 0, 1) := by decide +kernel
theorem dX8_hasName_18 : decode cX8_hasName 18 = .ok (.getfield 7, 3) := by decide +kernel
theorem dX8_hasName_21 : decode cX8_hasName 21 = .ok (.iload_n 1, 1) := by decide +kernel
theorem dX8_hasName_22 : decode cX8_hasName 22 = .ok (.iload 5, 2) := by decide +kernel
theorem dX8_hasName_24 : decode cX8_hasName 24 = .ok (.invokestatic 58, 3) := by decide +kernel
theorem dX8_hasName_27 : decode cX8_hasName 27 = .ok (.iaload, 1) := by decide +kernel
theorem dX8_hasName_28 : decode cX8_hasName 28 = .ok (.iload_n 3, 1) := by decide +kernel
theorem dX8_hasName_29 : decode cX8_hasName 29 = .ok (.if_icmp .ne 7, 3) := by decide +kernel
theorem dX8_hasName_32 : decode cX8_hasName 32 = .ok (.iconst 1, 1) := by decide +kernel
theorem dX8_hasName_33 : decode cX8_hasName 33 = .ok (.goto 4, 3) := by decide +kernel
theorem dX8_hasName_36 : decode cX8_hasName 36 = .ok (.iconst 0, 1) := by decide +kernel
theorem dX8_hasName_37 : decode cX8_hasName 37 = .ok (.istore 4, 2) := by decide +kernel
theorem dX8_hasName_39 : decode cX8_hasName 39 = .ok (.iinc 5 1, 3) := by decide +kernel
theorem dX8_hasName_42 : decode cX8_hasName 42 = .ok (.goto (-36), 3) := by decide +kernel
theorem dX8_hasName_45 : decode cX8_hasName 45 = .ok (.iload 4, 2) := by decide +kernel
theorem dX8_hasName_47 : decode cX8_hasName 47 = .ok (.ireturn, 1) := by decide +kernel
set_option maxRecDepth 20000 in
theorem ggX8_checkFolders_X8_kindOf : GoodIn wsX8_checkFolders wsX8_kindOf := goodIn_r _ [7, 2, 26, 27, 28, 29, 30, 31, 32, 33, 34, 35] (by decide +kernel) (by decide +kernel)
set_option maxRecDepth 20000 in
theorem gX8_checkFolders_X8_kindOf : GoodIn wsX8_checkFolders (wsV RX8 90 RX8 yX8_kindOf wsX8_kindOf) := goodIn_app (goodIn_of _ (by decide +kernel)) ggX8_checkFolders_X8_kindOf
set_option maxRecDepth 20000 in
theorem ggX8_checkFolders_X8_entryAt : GoodIn wsX8_checkFolders wsX8_entryAt := goodIn_r _ [10] (by decide +kernel) (by decide +kernel)
set_option maxRecDepth 20000 in
theorem gX8_checkFolders_X8_entryAt : GoodIn wsX8_checkFolders (va_wsS RX8 58 yX8_entryAt wsX8_entryAt) := goodIn_app (goodIn_of _ (by decide +kernel)) ggX8_checkFolders_X8_entryAt
set_option maxRecDepth 20000 in
theorem ggX8_checkFolders_X8_isIn : GoodIn wsX8_checkFolders wsX8_isIn := goodIn_r _ [13] (by decide +kernel) (by decide +kernel)
set_option maxRecDepth 20000 in
theorem gX8_checkFolders_X8_isIn : GoodIn wsX8_checkFolders (va_wsS RX8 42 yX8_isIn wsX8_isIn) := goodIn_app (goodIn_of _ (by decide +kernel)) ggX8_checkFolders_X8_isIn
set_option maxRecDepth 20000 in
theorem ggX8_checkFolders_X8_hasName : GoodIn wsX8_checkFolders wsX8_hasName := goodIn_r _ [17, 2, 8, 9, 6, 10, 26, 27, 28, 29, 30, 31, 32, 33, 34, 35] (by decide +kernel) (by decide +kernel)
set_option maxRecDepth 20000 in
theorem gX8_checkFolders_X8_hasName : GoodIn wsX8_checkFolders (wsV RX8 93 RX8 yX8_hasName wsX8_hasName) := goodIn_app (goodIn_of _ (by decide +kernel)) ggX8_checkFolders_X8_hasName
set_option maxRecDepth 20000 in
theorem ggX8_checkFolders_X8_put : GoodIn wsX8_checkFolders wsX8_put := goodIn_r _ [21, 2, 26, 27, 28, 29, 30, 31, 32, 33, 34, 35] (by decide +kernel) (by decide +kernel)
set_option maxRecDepth 20000 in
theorem gX8_checkFolders_X8_put : GoodIn wsX8_checkFolders (wsV RX8 54 RX8 yX8_put wsX8_put) := goodIn_app (goodIn_of _ (by decide +kernel)) ggX8_checkFolders_X8_put
set_option maxRecDepth 20000 in
theorem ggX8_checkFolders_X8_blank : GoodIn wsX8_checkFolders wsX8_blank := goodIn_r _ [25, 2, 26, 27, 28, 29, 30, 31, 32, 33, 34, 35] (by decide +kernel) (by decide +kernel)
set_option maxRecDepth 20000 in
theorem gX8_checkFolders_X8_blank : GoodIn wsX8_checkFolders (wsV RX8 65 RX8 yX8_blank wsX8_blank) := goodIn_app (goodIn_of _ (by decide +kernel)) ggX8_checkFolders_X8_blank
theorem dX8_checkFolders_0 : decode cX8_checkFolders 0 = .ok (.iconst 0, 1) := by decide +kernel
theorem dX8_checkFolders_1 : decode cX8_checkFolders 1 = .ok (.istore_n 1, 1) := by decide +kernel
theorem dX8_checkFolders_2 : decode cX8_checkFolders 2 = .ok (.iload_n 1, 1) := by decide +kernel
theorem dX8_checkFolders_3 : decode cX8_checkFolders 3 = .ok (.bipush 24, 2) := by decide +kernel
theorem dX8_checkFolders_5 : decode cX8_checkFolders 5 = .ok (.if_icmp .gt 16, 3) := by decide +kernel
theorem dX8_checkFolders_8 : decode cX8_checkFolders 8 = .ok (.aload_n 0, 1) := by decide +kernel
theorem dX8_checkFolders_9 : decode cX8_checkFolders 9 = .ok (.getfield 23, 3) := by decide +kernel
theorem dX8_checkFolders_12 : decode cX8_checkFolders 12 = .ok (.iload_n 1, 1) := by decide +kernel
theorem dX8_checkFolders_13 : decode cX8_checkFolders 13 = .ok (.iconst 0, 1) := by decide +kernel
theorem dX8_checkFolders_14 : decode cX8_checkFolders 14 = .ok (.bastore, 1) := by decide +kernel
theorem dX8_checkFolders_15 : decode cX8_checkFolders 15 = .ok (.iinc 1 1, 3) := by decide +kernel
theorem dX8_checkFolders_18 : decode cX8_checkFolders 18 = .ok (.goto (-16), 3) := by decide +kernel
theorem dX8_checkFolders_21 : decode cX8_checkFolders 21 = .ok (.iconst 1, 1) := by decide +kernel
theorem dX8_checkFolders_22 : decode cX8_checkFolders 22 = .ok (.istore_n 1, 1) := by decide +kernel
theorem dX8_checkFolders_23 : decode cX8_checkFolders 23 = .ok (.iload_n 1, 1) := by decide +kernel
theorem dX8_checkFolders_24 : decode cX8_checkFolders 24 = .ok (.bipush 24, 2) := by decide +kernel
theorem dX8_checkFolders_26 : decode cX8_checkFolders 26 = .ok (.if_icmp .gt 184, 3) := by decide +kernel
theorem dX8_checkFolders_29 : decode cX8_checkFolders 29 = .ok (.aload_n 0, 1) := by decide +kernel
theorem dX8_checkFolders_30 : decode cX8_checkFolders 30 = .ok (.iload_n 1, 1) := by decide +kernel
theorem dX8_checkFolders_31 : decode cX8_checkFolders 31 = .ok (.invokevirtual 90, 3) := by decide +kernel
theorem dX8_checkFolders_34 : decode cX8_checkFolders 34 = .ok (.iconst 2, 1) := by decide +kernel
theorem dX8_checkFolders_35 : decode cX8_checkFolders 35 = .ok (.if_icmp .eq 6, 3) := by decide +kernel
theorem dX8_checkFolders_38 : decode cX8_checkFolders 38 = .ok (.goto 166, 3) := by decide +kernel
theorem dX8_checkFolders_41 : decode cX8_checkFolders 41 = .ok (.iconst 0, 1) := by decide +kernel
