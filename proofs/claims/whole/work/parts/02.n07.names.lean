theorem dX8_parentOf_82 : decode cX8_parentOf 82 = .ok (.goto 4, 3) := by decide +kernel
theorem dX8_parentOf_85 : decode cX8_parentOf 85 = .ok (.iload_n 2, 1) := by decide +kernel
theorem dX8_parentOf_86 : decode cX8_parentOf 86 = .ok (.istore_n 2, 1) := by decide +kernel
theorem dX8_parentOf_87 : decode cX8_parentOf 87 = .ok (.iinc 4 1, 3) := by decide +kernel
theorem dX8_parentOf_90 : decode cX8_parentOf 90 = .ok (.goto (-59), 3) := by decide +kernel
theorem dX8_parentOf_93 : decode cX8_parentOf 93 = .ok (.iinc 3 1, 3) := by decide +kernel
theorem dX8_parentOf_96 : decode cX8_parentOf 96 = .ok (.goto (-83), 3) := by decide +kernel
theorem dX8_parentOf_99 : decode cX8_parentOf 99 = .ok (.iload_n 2, 1) := by decide +kernel
theorem dX8_parentOf_100 : decode cX8_parentOf 100 = .ok (.ireturn, 1) := by decide +kernel
set_option maxRecDepth 20000 in
theorem ggX8_checkLinks_X8_kindOf : GoodIn wsX8_checkLinks wsX8_kindOf := goodIn_r _ [9, 1, 25, 26, 27, 28, 29, 30, 31, 32, 33, 34] (by decide +kernel) (by decide +kernel)
set_option maxRecDepth 20000 in
theorem gX8_checkLinks_X8_kindOf : GoodIn wsX8_checkLinks (wsV RX8 90 RX8 yX8_kindOf wsX8_kindOf) := goodIn_app (goodIn_of _ (by decide +kernel)) ggX8_checkLinks_X8_kindOf
set_option maxRecDepth 20000 in
theorem ggX8_checkLinks_X8_foldersIn : GoodIn wsX8_checkLinks wsX8_foldersIn := goodIn_r _ [13, 1, 14, 15, 8, 16, 5, 6, 7, 9, 25, 26, 27, 28, 29, 30, 31, 32, 33, 34] (by decide +kernel) (by decide +kernel)
set_option maxRecDepth 20000 in
theorem gX8_checkLinks_X8_foldersIn : GoodIn wsX8_checkLinks (wsV RX8 114 RX8 yX8_foldersIn wsX8_foldersIn) := goodIn_app (goodIn_of _ (by decide +kernel)) ggX8_checkLinks_X8_foldersIn
set_option maxRecDepth 20000 in
theorem ggX8_checkLinks_X8_leading : GoodIn wsX8_checkLinks wsX8_leading := goodIn_r _ [20, 1, 5, 6, 7, 8, 9, 14, 15, 16, 25, 26, 27, 28, 29, 30, 31, 32, 33, 34] (by decide +kernel) (by decide +kernel)
set_option maxRecDepth 20000 in
theorem gX8_checkLinks_X8_leading : GoodIn wsX8_checkLinks (wsV RX8 99 RX8 yX8_leading wsX8_leading) := goodIn_app (goodIn_of _ (by decide +kernel)) ggX8_checkLinks_X8_leading
set_option maxRecDepth 20000 in
theorem ggX8_checkLinks_X8_parentOf : GoodIn wsX8_checkLinks wsX8_parentOf := goodIn_r _ [24, 1, 5, 6, 7, 8, 9, 14, 15, 16, 25, 26, 27, 28, 29, 30, 31, 32, 33, 34] (by decide +kernel) (by decide +kernel)
set_option maxRecDepth 20000 in
theorem gX8_checkLinks_X8_parentOf : GoodIn wsX8_checkLinks (wsV RX8 117 RX8 yX8_parentOf wsX8_parentOf) := goodIn_app (goodIn_of _ (by decide +kernel)) ggX8_checkLinks_X8_parentOf
theorem dX8_checkLinks_0 : decode cX8_checkLinks 0 = .ok (.iconst 1, 1) := by decide +kernel
theorem dX8_checkLinks_1 : decode cX8_checkLinks 1 = .ok (.istore_n 1, 1) := by decide +kernel
theorem dX8_checkLinks_2 : decode cX8_checkLinks 2 = .ok (.iload_n 1, 1) := by decide +kernel
theorem dX8_checkLinks_3 : decode cX8_checkLinks 3 = .ok (.bipush 24, 2) := by decide +kernel
theorem dX8_checkLinks_5 : decode cX8_checkLinks 5 = .ok (.if_icmp .gt 68, 3) := by decide +kernel
theorem dX8_checkLinks_8 : decode cX8_checkLinks 8 = .ok (.bipush 47, 2) := by decide +kernel
theorem dX8_checkLinks_10 : decode cX8_checkLinks 10 = .ok (.iload_n 1, 1) := by decide +kernel
theorem dX8_checkLinks_11 : decode cX8_checkLinks 11 = .ok (.imul, 1) := by decide +kernel
theorem dX8_checkLinks_12 : decode cX8_checkLinks 12 = .ok (.istore_n 2, 1) := by decide +kernel
theorem dX8_checkLinks_13 : decode cX8_checkLinks 13 = .ok (.aload_n 0, 1) := by decide +kernel
theorem dX8_checkLinks_14 : decode cX8_checkLinks 14 = .ok (.getfield 7, 3) := by decide +kernel
theorem dX8_checkLinks_17 : decode cX8_checkLinks 17 = .ok (.iload_n 2, 1) := by decide +kernel
theorem dX8_checkLinks_18 : decode cX8_checkLinks 18 = .ok (.iconst 2, 1) := by decide +kernel
theorem dX8_checkLinks_19 : decode cX8_checkLinks 19 = .ok (.iadd, 1) := by decide +kernel
theorem dX8_checkLinks_20 : decode cX8_checkLinks 20 = .ok (.aload_n 0, 1) := by decide +kernel
theorem dX8_checkLinks_21 : decode cX8_checkLinks 21 = .ok (.iload_n 1, 1) := by decide +kernel
theorem dX8_checkLinks_22 : decode cX8_checkLinks 22 = .ok (.invokevirtual 90, 3) := by decide +kernel
theorem dX8_checkLinks_25 : decode cX8_checkLinks 25 = .ok (.iconst 2, 1) := by decide +kernel
theorem dX8_checkLinks_26 : decode cX8_checkLinks 26 = .ok (.if_icmp .ne 13, 3) := by decide +kernel
theorem dX8_checkLinks_29 : decode cX8_checkLinks 29 = .ok (.iconst 2, 1) := by decide +kernel
theorem dX8_checkLinks_30 : decode cX8_checkLinks 30 = .ok (.aload_n 0, 1) := by decide +kernel
theorem dX8_checkLinks_31 : decode cX8_checkLinks 31 = .ok (.iload_n 1, 1) := by decide +kernel
theorem dX8_checkLinks_32 : decode cX8_checkLinks 32 = .ok (.invokevirtual 114, 3) := by decide +kernel
theorem dX8_checkLinks_35 : decode cX8_checkLinks 35 = .ok (.iadd, 1) := by decide +kernel
theorem dX8_checkLinks_36 : decode cX8_checkLinks 36 = .ok (.goto 8, 3) := by decide +kernel
theorem dX8_checkLinks_39 : decode cX8_checkLinks 39 = .ok (.aload_n 0, 1) := by decide +kernel
theorem dX8_checkLinks_40 : decode cX8_checkLinks 40 = .ok (.iload_n 1, 1) := by decide +kernel
theorem dX8_checkLinks_41 : decode cX8_checkLinks 41 = .ok (.invokevirtual 99, 3) := by decide +kernel
theorem dX8_checkLinks_44 : decode cX8_checkLinks 44 = .ok (.iastore, 1) := by decide +kernel
theorem dX8_checkLinks_45 : decode cX8_checkLinks 45 = .ok (.aload_n 0, 1) := by decide +kernel
theorem dX8_checkLinks_46 : decode cX8_checkLinks 46 = .ok (.getfield 7, 3) := by decide +kernel
theorem dX8_checkLinks_49 : decode cX8_checkLinks 49 = .ok (.iload_n 2, 1) := by decide +kernel
theorem dX8_checkLinks_50 : decode cX8_checkLinks 50 = .ok (.iconst 3, 1) := by decide +kernel
theorem dX8_checkLinks_51 : decode cX8_checkLinks 51 = .ok (.iadd, 1) := by decide +kernel
theorem dX8_checkLinks_52 : decode cX8_checkLinks 52 = .ok (.iconst 0, 1) := by decide +kernel
theorem dX8_checkLinks_53 : decode cX8_checkLinks 53 = .ok (.iastore, 1) := by decide +kernel
theorem dX8_checkLinks_54 : decode cX8_checkLinks 54 = .ok (.aload_n 0, 1) := by decide +kernel
theorem dX8_checkLinks_55 : decode cX8_checkLinks 55 = .ok (.getfield 7, 3) := by decide +kernel
theorem dX8_checkLinks_58 : decode cX8_checkLinks 58 = .ok (.iload_n 2, 1) := by decide +kernel
theorem dX8_checkLinks_59 : decode cX8_checkLinks 59 = .ok (.iconst 4, 1) := by decide +kernel
theorem dX8_checkLinks_60 : decode cX8_checkLinks 60 = .ok (.iadd, 1) := by decide +kernel
theorem dX8_checkLinks_61 : decode cX8_checkLinks 61 = .ok (.aload_n 0, 1) := by decide +kernel
theorem dX8_checkLinks_62 : decode cX8_checkLinks 62 = .ok (.iload_n 1, 1) := by decide +kernel
theorem dX8_checkLinks_63 : decode cX8_checkLinks 63 = .ok (.invokevirtual 117, 3) := by decide +kernel
theorem dX8_checkLinks_66 : decode cX8_checkLinks 66 = .ok (.iastore, 1) := by decide +kernel
theorem dX8_checkLinks_67 : decode cX8_checkLinks 67 = .ok (.iinc 1 1, 3) := by decide +kernel
theorem dX8_checkLinks_70 : decode cX8_checkLinks 70 = .ok (.goto (-68), 3) := by decide +kernel
theorem dX8_checkLinks_73 : decode cX8_checkLinks 73 = .ok (.iconst 0, 1) := by decide +kernel
theorem dX8_checkLinks_74 : decode cX8_checkLinks 74 = .ok (.istore_n 1, 1) := by decide +kernel
theorem dX8_checkLinks_75 : decode cX8_checkLinks 75 = .ok (.aload_n 0, 1) := by decide +kernel
theorem dX8_checkLinks_76 : decode cX8_checkLinks 76 = .ok (.getfield 96, 3) := by decide +kernel
theorem dX8_checkLinks_79 : decode cX8_checkLinks 79 = .ok (.iconst 1, 1) := by decide +kernel
theorem dX8_checkLinks_80 : decode cX8_checkLinks 80 = .ok (.isub, 1) := by decide +kernel
theorem dX8_checkLinks_81 : decode cX8_checkLinks 81 = .ok (.istore_n 2, 1) := by decide +kernel
theorem dX8_checkLinks_82 : decode cX8_checkLinks 82 = .ok (.iload_n 2, 1) := by decide +kernel
theorem dX8_checkLinks_83 : decode cX8_checkLinks 83 = .ok (.ifCond .lt 47, 3) := by decide +kernel
theorem dX8_checkLinks_86 : decode cX8_checkLinks 86 = .ok (.aload_n 0, 1) := by decide +kernel
theorem dX8_checkLinks_87 : decode cX8_checkLinks 87 = .ok (.getfield 32, 3) := by decide +kernel
theorem dX8_checkLinks_90 : decode cX8_checkLinks 90 = .ok (.aload_n 0, 1) := by decide +kernel
theorem dX8_checkLinks_91 : decode cX8_checkLinks 91 = .ok (.getfield 29, 3) := by decide +kernel
theorem dX8_checkLinks_94 : decode cX8_checkLinks 94 = .ok (.iload_n 2, 1) := by decide +kernel
theorem dX8_checkLinks_95 : decode cX8_checkLinks 95 = .ok (.iaload, 1) := by decide +kernel
theorem dX8_checkLinks_96 : decode cX8_checkLinks 96 = .ok (.baload, 1) := by decide +kernel
theorem dX8_checkLinks_97 : decode cX8_checkLinks 97 = .ok (.ifCond .eq 27, 3) := by decide +kernel
theorem dX8_checkLinks_100 : decode cX8_checkLinks 100 = .ok (.aload_n 0, 1) := by decide +kernel
theorem dX8_checkLinks_101 : decode cX8_checkLinks 101 = .ok (.getfield 7, 3) := by decide +kernel
theorem dX8_checkLinks_104 : decode cX8_checkLinks 104 = .ok (.bipush 47, 2) := by decide +kernel
theorem dX8_checkLinks_106 : decode cX8_checkLinks 106 = .ok (.aload_n 0, 1) := by decide +kernel
theorem dX8_checkLinks_107 : decode cX8_checkLinks 107 = .ok (.getfield 29, 3) := by decide +kernel
theorem dX8_checkLinks_110 : decode cX8_checkLinks 110 = .ok (.iload_n 2, 1) := by decide +kernel
theorem dX8_checkLinks_111 : decode cX8_checkLinks 111 = .ok (.iaload, 1) := by decide +kernel
theorem dX8_checkLinks_112 : decode cX8_checkLinks 112 = .ok (.imul, 1) := by decide +kernel
theorem dX8_checkLinks_113 : decode cX8_checkLinks 113 = .ok (.iconst 3, 1) := by decide +kernel
theorem dX8_checkLinks_114 : decode cX8_checkLinks 114 = .ok (.iadd, 1) := by decide +kernel
theorem dX8_checkLinks_115 : decode cX8_checkLinks 115 = .ok (.iload_n 1, 1) := by decide +kernel
theorem dX8_checkLinks_116 : decode cX8_checkLinks 116 = .ok (.iastore, 1) := by decide +kernel
theorem dX8_checkLinks_117 : decode cX8_checkLinks 117 = .ok (.aload_n 0, 1) := by decide +kernel
theorem dX8_checkLinks_118 : decode cX8_checkLinks 118 = .ok (.getfield 29, 3) := by decide +kernel
theorem dX8_checkLinks_121 : decode cX8_checkLinks 121 = .ok (.iload_n 2, 1) := by decide +kernel
theorem dX8_checkLinks_122 : decode cX8_checkLinks 122 = .ok (.iaload, 1) := by decide +kernel
theorem dX8_checkLinks_123 : decode cX8_checkLinks 123 = .ok (.istore_n 1, 1) := by decide +kernel
theorem dX8_checkLinks_124 : decode cX8_checkLinks 124 = .ok (.iinc 2 (-1), 3) := by decide +kernel
theorem dX8_checkLinks_127 : decode cX8_checkLinks 127 = .ok (.goto (-45), 3) := by decide +kernel
theorem dX8_checkLinks_130 : decode cX8_checkLinks 130 = .ok (.aload_n 0, 1) := by decide +kernel
theorem dX8_checkLinks_131 : decode cX8_checkLinks 131 = .ok (.getfield 7, 3) := by decide +kernel
theorem dX8_checkLinks_134 : decode cX8_checkLinks 134 = .ok (.sipush 1428, 3) := by decide +kernel
theorem dX8_checkLinks_137 : decode cX8_checkLinks 137 = .ok (.iload_n 1, 1) := by decide +kernel
theorem dX8_checkLinks_138 : decode cX8_checkLinks 138 = .ok (.iastore, 1) := by decide +kernel
theorem dX8_checkLinks_139 : decode cX8_checkLinks 139 = .ok (.return_, 1) := by decide +kernel
set_option maxRecDepth 20000 in
theorem ggX8_checkBits_X8_kindOf : GoodIn wsX8_checkBits wsX8_kindOf := goodIn_r _ [6, 1, 10, 11, 12, 13, 14, 15, 16, 17, 18, 19] (by decide +kernel) (by decide +kernel)
set_option maxRecDepth 20000 in
theorem gX8_checkBits_X8_kindOf : GoodIn wsX8_checkBits (wsV RX8 90 RX8 yX8_kindOf wsX8_kindOf) := goodIn_app (goodIn_of _ (by decide +kernel)) ggX8_checkBits_X8_kindOf
set_option maxRecDepth 20000 in
theorem ggX8_checkBits_X8_runAt : GoodIn wsX8_checkBits wsX8_runAt := goodIn_r _ [9] (by decide +kernel) (by decide +kernel)
set_option maxRecDepth 20000 in
theorem gX8_checkBits_X8_runAt : GoodIn wsX8_checkBits (va_wsS RX8 50 yX8_runAt wsX8_runAt) := goodIn_app (goodIn_of _ (by decide +kernel)) ggX8_checkBits_X8_runAt
theorem dX8_checkBits_0 : decode cX8_checkBits 0 = .ok (.iconst 1, 1) := by decide +kernel
theorem dX8_checkBits_1 : decode cX8_checkBits 1 = .ok (.istore_n 1, 1) := by decide +kernel
theorem dX8_checkBits_2 : decode cX8_checkBits 2 = .ok (.iload_n 1, 1) := by decide +kernel
theorem dX8_checkBits_3 : decode cX8_checkBits 3 = .ok (.sipush 200, 3) := by decide +kernel
theorem dX8_checkBits_6 : decode cX8_checkBits 6 = .ok (.if_icmp .gt 30, 3) := by decide +kernel
theorem dX8_checkBits_9 : decode cX8_checkBits 9 = .ok (.aload_n 0, 1) := by decide +kernel
theorem dX8_checkBits_10 : decode cX8_checkBits 10 = .ok (.getfield 7, 3) := by decide +kernel
theorem dX8_checkBits_13 : decode cX8_checkBits 13 = .ok (.sipush 1200, 3) := by decide +kernel
theorem dX8_checkBits_16 : decode cX8_checkBits 16 = .ok (.iload_n 1, 1) := by decide +kernel
theorem dX8_checkBits_17 : decode cX8_checkBits 17 = .ok (.iadd, 1) := by decide +kernel
theorem dX8_checkBits_18 : decode cX8_checkBits 18 = .ok (.iload_n 1, 1) := by decide +kernel
theorem dX8_checkBits_19 : decode cX8_checkBits 19 = .ok (.bipush 9, 2) := by decide +kernel
theorem dX8_checkBits_21 : decode cX8_checkBits 21 = .ok (.if_icmp .ge 7, 3) := by decide +kernel
theorem dX8_checkBits_24 : decode cX8_checkBits 24 = .ok (.iconst 1, 1) := by decide +kernel
theorem dX8_checkBits_25 : decode cX8_checkBits 25 = .ok (.goto 4, 3) := by decide +kernel
theorem dX8_checkBits_28 : decode cX8_checkBits 28 = .ok (.iconst 0, 1) := by decide +kernel
theorem dX8_checkBits_29 : decode cX8_checkBits 29 = .ok (.iastore, 1) := by decide +kernel
theorem dX8_checkBits_30 : decode cX8_checkBits 30 = .ok (.iinc 1 1, 3) := by decide +kernel
theorem dX8_checkBits_33 : decode cX8_checkBits 33 = .ok (.goto (-31), 3) := by decide +kernel
theorem dX8_checkBits_36 : decode cX8_checkBits 36 = .ok (.iconst 1, 1) := by decide +kernel
theorem dX8_checkBits_37 : decode cX8_checkBits 37 = .ok (.istore_n 1, 1) := by decide +kernel
theorem dX8_checkBits_38 : decode cX8_checkBits 38 = .ok (.iload_n 1, 1) := by decide +kernel
theorem dX8_checkBits_39 : decode cX8_checkBits 39 = .ok (.bipush 24, 2) := by decide +kernel
theorem dX8_checkBits_41 : decode cX8_checkBits 41 = .ok (.if_icmp .gt 102, 3) := by decide +kernel
theorem dX8_checkBits_44 : decode cX8_checkBits 44 = .ok (.aload_n 0, 1) := by decide +kernel
theorem dX8_checkBits_45 : decode cX8_checkBits 45 = .ok (.getfield 7, 3) := by decide +kernel
theorem dX8_checkBits_48 : decode cX8_checkBits 48 = .ok (.sipush 1401, 3) := by decide +kernel
theorem dX8_checkBits_51 : decode cX8_checkBits 51 = .ok (.iload_n 1, 1) := by decide +kernel
theorem dX8_checkBits_52 : decode cX8_checkBits 52 = .ok (.iadd, 1) := by decide +kernel
theorem dX8_checkBits_53 : decode cX8_checkBits 53 = .ok (.aload_n 0, 1) := by decide +kernel
theorem dX8_checkBits_54 : decode cX8_checkBits 54 = .ok (.iload_n 1, 1) := by decide +kernel
theorem dX8_checkBits_55 : decode cX8_checkBits 55 = .ok (.invokevirtual 90, 3) := by decide +kernel
theorem dX8_checkBits_58 : decode cX8_checkBits 58 = .ok (.ifCond .ne 7, 3) := by decide +kernel
theorem dX8_checkBits_61 : decode cX8_checkBits 61 = .ok (.iconst 0, 1) := by decide +kernel
theorem dX8_checkBits_62 : decode cX8_checkBits 62 = .ok (.goto 4, 3) := by decide +kernel
theorem dX8_checkBits_65 : decode cX8_checkBits 65 = .ok (.iconst 1, 1) := by decide +kernel
theorem dX8_checkBits_66 : decode cX8_checkBits 66 = .ok (.iastore, 1) := by decide +kernel
theorem dX8_checkBits_67 : decode cX8_checkBits 67 = .ok (.iconst 0, 1) := by decide +kernel
theorem dX8_checkBits_68 : decode cX8_checkBits 68 = .ok (.istore_n 2, 1) := by decide +kernel
theorem dX8_checkBits_69 : decode cX8_checkBits 69 = .ok (.iload_n 2, 1) := by decide +kernel
theorem dX8_checkBits_70 : decode cX8_checkBits 70 = .ok (.bipush 6, 2) := by decide +kernel
theorem dX8_checkBits_72 : decode cX8_checkBits 72 = .ok (.if_icmp .ge 65, 3) := by decide +kernel
theorem dX8_checkBits_75 : decode cX8_checkBits 75 = .ok (.iload_n 1, 1) := by decide +kernel
theorem dX8_checkBits_76 : decode cX8_checkBits 76 = .ok (.iload_n 2, 1) := by decide +kernel
theorem dX8_checkBits_77 : decode cX8_checkBits 77 = .ok (.invokestatic 50, 3) := by decide +kernel
theorem dX8_checkBits_80 : decode cX8_checkBits 80 = .ok (.istore_n 3, 1) := by decide +kernel
theorem dX8_checkBits_81 : decode cX8_checkBits 81 = .ok (.aload_n 0, 1) := by decide +kernel
theorem dX8_checkBits_82 : decode cX8_checkBits 82 = .ok (.getfield 7, 3) := by decide +kernel
theorem dX8_checkBits_85 : decode cX8_checkBits 85 = .ok (.iload_n 3, 1) := by decide +kernel
theorem dX8_checkBits_86 : decode cX8_checkBits 86 = .ok (.iconst 2, 1) := by decide +kernel
theorem dX8_checkBits_87 : decode cX8_checkBits 87 = .ok (.iadd, 1) := by decide +kernel
theorem dX8_checkBits_88 : decode cX8_checkBits 88 = .ok (.iaload, 1) := by decide +kernel
theorem dX8_checkBits_89 : decode cX8_checkBits 89 = .ok (.istore 4, 2) := by decide +kernel
theorem dX8_checkBits_91 : decode cX8_checkBits 91 = .ok (.iload 4, 2) := by decide +kernel
theorem dX8_checkBits_93 : decode cX8_checkBits 93 = .ok (.aload_n 0, 1) := by decide +kernel
theorem dX8_checkBits_94 : decode cX8_checkBits 94 = .ok (.getfield 7, 3) := by decide +kernel
theorem dX8_checkBits_97 : decode cX8_checkBits 97 = .ok (.iload_n 3, 1) := by decide +kernel
theorem dX8_checkBits_98 : decode cX8_checkBits 98 = .ok (.iconst 2, 1) := by decide +kernel
theorem dX8_checkBits_99 : decode cX8_checkBits 99 = .ok (.iadd, 1) := by decide +kernel
theorem dX8_checkBits_100 : decode cX8_checkBits 100 = .ok (.iaload, 1) := by decide +kernel
theorem dX8_checkBits_101 : decode cX8_checkBits 101 = .ok (.aload_n 0, 1) := by decide +kernel
theorem dX8_checkBits_102 : decode cX8_checkBits 102 = .ok (.getfield 7, 3) := by decide +kernel
theorem dX8_checkBits_105 : decode cX8_checkBits 105 = .ok (.iload_n 3, 1) := by decide +kernel
theorem dX8_checkBits_106 : decode cX8_checkBits 106 = .ok (.iconst 1, 1) := by decide +kernel
theorem dX8_checkBits_107 : decode cX8_checkBits 107 = .ok (.iadd, 1) := by decide +kernel
theorem dX8_checkBits_108 : decode cX8_checkBits 108 = .ok (.iaload, 1) := by decide +kernel
theorem dX8_checkBits_109 : decode cX8_checkBits 109 = .ok (.iadd, 1) := by decide +kernel
theorem dX8_checkBits_110 : decode cX8_checkBits 110 = .ok (.if_icmp .ge 21, 3) := by decide +kernel
theorem dX8_checkBits_113 : decode cX8_checkBits 113 = .ok (.aload_n 0, 1) := by decide +kernel
theorem dX8_checkBits_114 : decode cX8_checkBits 114 = .ok (.getfield 7, 3) := by decide +kernel
theorem dX8_checkBits_117 : decode cX8_checkBits 117 = .ok (.sipush 1200, 3) := by decide +kernel
theorem dX8_checkBits_120 : decode cX8_checkBits 120 = .ok (.iload 4, 2) := by decide +kernel
theorem dX8_checkBits_122 : decode cX8_checkBits 122 = .ok (.iadd, 1) := by decide +kernel
theorem dX8_checkBits_123 : decode cX8_checkBits 123 = .ok (.iconst 1, 1) := by decide +kernel
theorem dX8_checkBits_124 : decode cX8_checkBits 124 = .ok (.iastore, 1) := by decide +kernel
theorem dX8_checkBits_125 : decode cX8_checkBits 125 = .ok (.iinc 4 1, 3) := by decide +kernel
theorem dX8_checkBits_128 : decode cX8_checkBits 128 = .ok (.goto (-37), 3) := by decide +kernel
theorem dX8_checkBits_131 : decode cX8_checkBits 131 = .ok (.iinc 2 1, 3) := by decide +kernel
theorem dX8_checkBits_134 : decode cX8_checkBits 134 = .ok (.goto (-65), 3) := by decide +kernel
theorem dX8_checkBits_137 : decode cX8_checkBits 137 = .ok (.iinc 1 1, 3) := by decide +kernel
theorem dX8_checkBits_140 : decode cX8_checkBits 140 = .ok (.goto (-102), 3) := by decide +kernel
theorem dX8_checkBits_143 : decode cX8_checkBits 143 = .ok (.iconst 0, 1) := by decide +kernel
theorem dX8_checkBits_144 : decode cX8_checkBits 144 = .ok (.istore_n 1, 1) := by decide +kernel
theorem dX8_checkBits_145 : decode cX8_checkBits 145 = .ok (.iconst 0, 1) := by decide +kernel
theorem dX8_checkBits_146 : decode cX8_checkBits 146 = .ok (.istore_n 2, 1) := by decide +kernel
theorem dX8_checkBits_147 : decode cX8_checkBits 147 = .ok (.iconst 1, 1) := by decide +kernel
theorem dX8_checkBits_148 : decode cX8_checkBits 148 = .ok (.istore_n 3, 1) := by decide +kernel
theorem dX8_checkBits_149 : decode cX8_checkBits 149 = .ok (.iload_n 3, 1) := by decide +kernel
theorem dX8_checkBits_150 : decode cX8_checkBits 150 = .ok (.sipush 200, 3) := by decide +kernel
theorem dX8_checkBits_153 : decode cX8_checkBits 153 = .ok (.if_icmp .gt 24, 3) := by decide +kernel
theorem dX8_checkBits_156 : decode cX8_checkBits 156 = .ok (.iload_n 1, 1) := by decide +kernel
theorem dX8_checkBits_157 : decode cX8_checkBits 157 = .ok (.iconst 1, 1) := by decide +kernel
theorem dX8_checkBits_158 : decode cX8_checkBits 158 = .ok (.aload_n 0, 1) := by decide +kernel
theorem dX8_checkBits_159 : decode cX8_checkBits 159 = .ok (.getfield 7, 3) := by decide +kernel
theorem dX8_checkBits_162 : decode cX8_checkBits 162 = .ok (.sipush 1200, 3) := by decide +kernel
theorem dX8_checkBits_165 : decode cX8_checkBits 165 = .ok (.iload_n 3, 1) := by decide +kernel
theorem dX8_checkBits_166 : decode cX8_checkBits 166 = .ok (.iadd, 1) := by decide +kernel
theorem dX8_checkBits_167 : decode cX8_checkBits 167 = .ok (.iaload, 1) := by decide +kernel
theorem dX8_checkBits_168 : decode cX8_checkBits 168 = .ok (.isub, 1) := by decide +kernel
theorem dX8_checkBits_169 : decode cX8_checkBits 169 = .ok (.iadd, 1) := by decide +kernel
theorem dX8_checkBits_170 : decode cX8_checkBits 170 = .ok (.istore_n 1, 1) := by decide +kernel
theorem dX8_checkBits_171 : decode cX8_checkBits 171 = .ok (.iinc 3 1, 3) := by decide +kernel
theorem dX8_checkBits_174 : decode cX8_checkBits 174 = .ok (.goto (-25), 3) := by decide +kernel
theorem dX8_checkBits_177 : decode cX8_checkBits 177 = .ok (.iconst 1, 1) := by decide +kernel
theorem dX8_checkBits_178 : decode cX8_checkBits 178 = .ok (.istore_n 3, 1) := by decide +kernel
theorem dX8_checkBits_179 : decode cX8_checkBits 179 = .ok (.iload_n 3, 1) := by decide +kernel
theorem dX8_checkBits_180 : decode cX8_checkBits 180 = .ok (.bipush 24, 2) := by decide +kernel
theorem dX8_checkBits_182 : decode cX8_checkBits 182 = .ok (.if_icmp .gt 24, 3) := by decide +kernel
theorem dX8_checkBits_185 : decode cX8_checkBits 185 = .ok (.iload_n 2, 1) := by decide +kernel
theorem dX8_checkBits_186 : decode cX8_checkBits 186 = .ok (.iconst 1, 1) := by decide +kernel
theorem dX8_checkBits_187 : decode cX8_checkBits 187 = .ok (.aload_n 0, 1) := by decide +kernel
theorem dX8_checkBits_188 : decode cX8_checkBits 188 = .ok (.getfield 7, 3) := by decide +kernel
theorem dX8_checkBits_191 : decode cX8_checkBits 191 = .ok (.sipush 1401, 3) := by decide +kernel
theorem dX8_checkBits_194 : decode cX8_checkBits 194 = .ok (.iload_n 3, 1) := by decide +kernel
theorem dX8_checkBits_195 : decode cX8_checkBits 195 = .ok (.iadd, 1) := by decide +kernel
theorem dX8_checkBits_196 : decode cX8_checkBits 196 = .ok (.iaload, 1) := by decide +kernel
theorem dX8_checkBits_197 : decode cX8_checkBits 197 = .ok (.isub, 1) := by decide +kernel
theorem dX8_checkBits_198 : decode cX8_checkBits 198 = .ok (.iadd, 1) := by decide +kernel
theorem dX8_checkBits_199 : decode cX8_checkBits 199 = .ok (.istore_n 2, 1) := by decide +kernel
theorem dX8_checkBits_200 : decode cX8_checkBits 200 = .ok (.iinc 3 1, 3) := by decide +kernel
theorem dX8_checkBits_203 : decode cX8_checkBits 203 = .ok (.goto (-24), 3) := by decide +kernel
theorem dX8_checkBits_206 : decode cX8_checkBits 206 = .ok (.aload_n 0, 1) := by decide +kernel
theorem dX8_checkBits_207 : decode cX8_checkBits 207 = .ok (.getfield 7, 3) := by decide +kernel
theorem dX8_checkBits_210 : decode cX8_checkBits 210 = .ok (.sipush 1426, 3) := by decide +kernel
theorem dX8_checkBits_213 : decode cX8_checkBits 213 = .ok (.iload_n 1, 1) := by decide +kernel
theorem dX8_checkBits_214 : decode cX8_checkBits 214 = .ok (.iastore, 1) := by decide +kernel
theorem dX8_checkBits_215 : decode cX8_checkBits 215 = .ok (.aload_n 0, 1) := by decide +kernel
theorem dX8_checkBits_216 : decode cX8_checkBits 216 = .ok (.getfield 7, 3) := by decide +kernel
theorem dX8_checkBits_219 : decode cX8_checkBits 219 = .ok (.sipush 1427, 3) := by decide +kernel
theorem dX8_checkBits_222 : decode cX8_checkBits 222 = .ok (.iload_n 2, 1) := by decide +kernel
theorem dX8_checkBits_223 : decode cX8_checkBits 223 = .ok (.iastore, 1) := by decide +kernel
theorem dX8_checkBits_224 : decode cX8_checkBits 224 = .ok (.return_, 1) := by decide +kernel
set_option maxRecDepth 20000 in
theorem ggX8_pass_X8_checkRecords : GoodIn wsX8_pass wsX8_checkRecords := goodIn_r _ [5, 6, 7, 8, 9, 4, 10, 11, 12, 13, 14, 15, 16, 17, 18, 19, 20, 21, 22, 23, 24, 25, 26, 27, 28, 29, 30, 31, 32, 33, 34, 35, 36, 37, 38, 39, 40, 41, 42, 107, 108, 109, 110, 111, 112, 113, 114, 115, 116] (by decide +kernel) (by decide +kernel)
set_option maxRecDepth 20000 in
theorem gX8_pass_X8_checkRecords : GoodIn wsX8_pass (wsV RX8 120 RX8 yX8_checkRecords wsX8_checkRecords) := goodIn_app (goodIn_of _ (by decide +kernel)) ggX8_pass_X8_checkRecords
set_option maxRecDepth 20000 in
theorem ggX8_pass_X8_checkFolders : GoodIn wsX8_pass wsX8_checkFolders := goodIn_r _ [46, 47, 11, 48, 49, 50, 4, 51, 52, 53, 54, 55, 56, 57, 58, 59, 60, 61, 39, 40, 41, 42, 13, 14, 15, 16, 107, 108, 109, 110, 111, 112, 113, 114, 115, 116] (by decide +kernel) (by decide +kernel)
set_option maxRecDepth 20000 in
theorem gX8_pass_X8_checkFolders : GoodIn wsX8_pass (wsV RX8 123 RX8 yX8_checkFolders wsX8_checkFolders) := goodIn_app (goodIn_of _ (by decide +kernel)) ggX8_pass_X8_checkFolders
set_option maxRecDepth 20000 in
theorem ggX8_pass_X8_checkHanging : GoodIn wsX8_pass wsX8_checkHanging := goodIn_r _ [65, 47, 66, 67, 68, 69, 70, 71, 4, 72, 73, 11, 74, 55, 56, 57, 48, 49, 50, 51, 75, 76, 77, 78, 52, 53, 54, 79, 80, 81, 82, 83, 84, 85, 86, 87, 88, 89, 90, 39, 40, 41, 42, 13, 14, 15, 16, 17, 18, 19, 20, 58, 59, 60, 61, 107, 108, 109, 110, 111, 112, 113, 114, 115, 116] (by decide +kernel) (by decide +kernel)
set_option maxRecDepth 20000 in
theorem gX8_pass_X8_checkHanging : GoodIn wsX8_pass (wsV RX8 126 RX8 yX8_checkHanging wsX8_checkHanging) := goodIn_app (goodIn_of _ (by decide +kernel)) ggX8_pass_X8_checkHanging
set_option maxRecDepth 20000 in
theorem ggX8_pass_X8_checkLinks : GoodIn wsX8_pass wsX8_checkLinks := goodIn_r _ [94, 11, 73, 68, 74, 48, 49, 50, 4, 51, 95, 96, 97, 98, 52, 53, 54, 75, 76, 77, 78, 99, 100, 101, 102, 107, 108, 109, 110, 111, 112, 113, 114, 115, 116] (by decide +kernel) (by decide +kernel)
set_option maxRecDepth 20000 in
theorem gX8_pass_X8_checkLinks : GoodIn wsX8_pass (wsV RX8 129 RX8 yX8_checkLinks wsX8_checkLinks) := goodIn_app (goodIn_of _ (by decide +kernel)) ggX8_pass_X8_checkLinks
set_option maxRecDepth 20000 in
theorem ggX8_pass_X8_checkBits : GoodIn wsX8_pass wsX8_checkBits := goodIn_r _ [106, 11, 48, 49, 50, 4, 51, 25, 26, 27, 107, 108, 109, 110, 111, 112, 113, 114, 115, 116] (by decide +kernel) (by decide +kernel)
set_option maxRecDepth 20000 in
theorem gX8_pass_X8_checkBits : GoodIn wsX8_pass (wsV RX8 132 RX8 yX8_checkBits wsX8_checkBits) := goodIn_app (goodIn_of _ (by decide +kernel)) ggX8_pass_X8_checkBits
theorem dX8_pass_0 : decode cX8_pass 0 = .ok (.iload_n 1, 1) := by decide +kernel
theorem dX8_pass_1 : decode cX8_pass 1 = .ok (.tableswitch 59 0 3 #[31, 38, 45, 52], 31) := by decide +kernel
theorem dX8_pass_32 : decode cX8_pass 32 = .ok (.aload_n 0, 1) := by decide +kernel
theorem dX8_pass_33 : decode cX8_pass 33 = .ok (.invokevirtual 120, 3) := by decide +kernel
theorem dX8_pass_36 : decode cX8_pass 36 = .ok (.goto 28, 3) := by decide +kernel
theorem dX8_pass_39 : decode cX8_pass 39 = .ok (.aload_n 0, 1) := by decide +kernel
theorem dX8_pass_40 : decode cX8_pass 40 = .ok (.invokevirtual 123, 3) := by decide +kernel
theorem dX8_pass_43 : decode cX8_pass 43 = .ok (.goto 21, 3) := by decide +kernel
theorem dX8_pass_46 : decode cX8_pass 46 = .ok (.aload_n 0, 1) := by decide +kernel
theorem dX8_pass_47 : decode cX8_pass 47 = .ok (.invokevirtual 126, 3) := by decide +kernel
theorem dX8_pass_50 : decode cX8_pass 50 = .ok (.goto 14, 3) := by decide +kernel
theorem dX8_pass_53 : decode cX8_pass 53 = .ok (.aload_n 0, 1) := by decide +kernel
theorem dX8_pass_54 : decode cX8_pass 54 = .ok (.invokevirtual 129, 3) := by decide +kernel
theorem dX8_pass_57 : decode cX8_pass 57 = .ok (.goto 7, 3) := by decide +kernel
theorem dX8_pass_60 : decode cX8_pass 60 = .ok (.aload_n 0, 1) := by decide +kernel
theorem dX8_pass_61 : decode cX8_pass 61 = .ok (.invokevirtual 132, 3) := by decide +kernel
theorem dX8_pass_64 : decode cX8_pass 64 = .ok (.return_, 1) := by decide +kernel
set_option maxRecDepth 20000 in
theorem ggX8_check_X8_pass : GoodIn wsX8_check wsX8_pass := goodIn_r _ [8, 9, 10, 11, 7, 12, 13, 14, 15, 16, 17, 3, 18, 19, 20, 21, 22, 23, 24, 25, 26, 27, 28, 29, 30, 31, 32, 33, 34, 35, 36, 37, 38, 39, 40, 41, 42, 43, 44, 45, 46, 47, 48, 49, 50, 51, 52, 53, 54, 55, 56, 57, 58, 59, 60, 61, 62, 63, 64, 65, 66, 67, 68, 69, 70, 71, 72, 73, 74, 75, 76, 77, 78, 79, 80, 81, 82, 83, 84, 85, 86, 87, 88, 89, 90, 91, 92, 93, 94, 95, 96, 97, 98, 99, 100, 101, 102, 103, 104, 105, 106, 107, 108, 109, 110, 111, 112, 113, 114, 115, 116, 117, 118, 119, 120, 121, 122] (by decide +kernel) (by decide +kernel)
set_option maxRecDepth 20000 in
theorem gX8_check_X8_pass : GoodIn wsX8_check (wsV RX8 135 RX8 yX8_pass wsX8_pass) := goodIn_app (goodIn_of _ (by decide +kernel)) ggX8_check_X8_pass
theorem dX8_check_0 : decode cX8_check 0 = .ok (.aload_n 0, 1) := by decide +kernel
theorem dX8_check_1 : decode cX8_check 1 = .ok (.iconst 0, 1) := by decide +kernel
theorem dX8_check_2 : decode cX8_check 2 = .ok (.putfield 38, 3) := by decide +kernel
theorem dX8_check_5 : decode cX8_check 5 = .ok (.iconst 0, 1) := by decide +kernel
theorem dX8_check_6 : decode cX8_check 6 = .ok (.istore_n 1, 1) := by decide +kernel
theorem dX8_check_7 : decode cX8_check 7 = .ok (.iconst 0, 1) := by decide +kernel
theorem dX8_check_8 : decode cX8_check 8 = .ok (.istore_n 2, 1) := by decide +kernel
theorem dX8_check_9 : decode cX8_check 9 = .ok (.iload_n 2, 1) := by decide +kernel
theorem dX8_check_10 : decode cX8_check 10 = .ok (.iconst 5, 1) := by decide +kernel
theorem dX8_check_11 : decode cX8_check 11 = .ok (.if_icmp .ge 101, 3) := by decide +kernel
theorem dX8_check_14 : decode cX8_check 14 = .ok (.iconst 0, 1) := by decide +kernel
theorem dX8_check_15 : decode cX8_check 15 = .ok (.istore_n 3, 1) := by decide +kernel
theorem dX8_check_16 : decode cX8_check 16 = .ok (.iload_n 3, 1) := by decide +kernel
theorem dX8_check_17 : decode cX8_check 17 = .ok (.sipush 1429, 3) := by decide +kernel
theorem dX8_check_20 : decode cX8_check 20 = .ok (.if_icmp .ge 21, 3) := by decide +kernel
theorem dX8_check_23 : decode cX8_check 23 = .ok (.aload_n 0, 1) := by decide +kernel
theorem dX8_check_24 : decode cX8_check 24 = .ok (.getfield 13, 3) := by decide +kernel
theorem dX8_check_27 : decode cX8_check 27 = .ok (.iload_n 3, 1) := by decide +kernel
theorem dX8_check_28 : decode cX8_check 28 = .ok (.aload_n 0, 1) := by decide +kernel
theorem dX8_check_29 : decode cX8_check 29 = .ok (.getfield 7, 3) := by decide +kernel
theorem dX8_check_32 : decode cX8_check 32 = .ok (.iload_n 3, 1) := by decide +kernel
theorem dX8_check_33 : decode cX8_check 33 = .ok (.iaload, 1) := by decide +kernel
theorem dX8_check_34 : decode cX8_check 34 = .ok (.iastore, 1) := by decide +kernel
theorem dX8_check_35 : decode cX8_check 35 = .ok (.iinc 3 1, 3) := by decide +kernel
theorem dX8_check_38 : decode cX8_check 38 = .ok (.goto (-22), 3) := by decide +kernel
theorem dX8_check_41 : decode cX8_check 41 = .ok (.aload_n 0, 1) := by decide +kernel
theorem dX8_check_42 : decode cX8_check 42 = .ok (.iload_n 2, 1) := by decide +kernel
theorem dX8_check_43 : decode cX8_check 43 = .ok (.invokevirtual 135, 3) := by decide +kernel
theorem dX8_check_46 : decode cX8_check 46 = .ok (.iconst 0, 1) := by decide +kernel
theorem dX8_check_47 : decode cX8_check 47 = .ok (.istore_n 3, 1) := by decide +kernel
theorem dX8_check_48 : decode cX8_check 48 = .ok (.iconst 0, 1) := by decide +kernel
theorem dX8_check_49 : decode cX8_check 49 = .ok (.istore 4, 2) := by decide +kernel
theorem dX8_check_51 : decode cX8_check 51 = .ok (.iload 4, 2) := by decide +kernel
theorem dX8_check_53 : decode cX8_check 53 = .ok (.sipush 1429, 3) := by decide +kernel
theorem dX8_check_56 : decode cX8_check 56 = .ok (.if_icmp .ge 36, 3) := by decide +kernel
theorem dX8_check_59 : decode cX8_check 59 = .ok (.iload_n 3, 1) := by decide +kernel
theorem dX8_check_60 : decode cX8_check 60 = .ok (.ifCond .ne 20, 3) := by decide +kernel
theorem dX8_check_63 : decode cX8_check 63 = .ok (.aload_n 0, 1) := by decide +kernel
theorem dX8_check_64 : decode cX8_check 64 = .ok (.getfield 13, 3) := by decide +kernel
theorem dX8_check_67 : decode cX8_check 67 = .ok (.iload 4, 2) := by decide +kernel
theorem dX8_check_69 : decode cX8_check 69 = .ok (.iaload, 1) := by decide +kernel
theorem dX8_check_70 : decode cX8_check 70 = .ok (.aload_n 0, 1) := by decide +kernel
theorem dX8_check_71 : decode cX8_check 71 = .ok (.getfield 7, 3) := by decide +kernel
theorem dX8_check_74 : decode cX8_check 74 = .ok (.iload 4, 2) := by decide +kernel
theorem dX8_check_76 : decode cX8_check 76 = .ok (.iaload, 1) := by decide +kernel
theorem dX8_check_77 : decode cX8_check 77 = .ok (.if_icmp .eq 7, 3) := by decide +kernel
theorem dX8_check_80 : decode cX8_check 80 = .ok (.iconst 1, 1) := by decide +kernel
theorem dX8_check_81 : decode cX8_check 81 = .ok (.goto 4, 3) := by decide +kernel
theorem dX8_check_84 : decode cX8_check 84 = .ok (.iconst 0, 1) := by decide +kernel
theorem dX8_check_85 : decode cX8_check 85 = .ok (.istore_n 3, 1) := by decide +kernel
theorem dX8_check_86 : decode cX8_check 86 = .ok (.iinc 4 1, 3) := by decide +kernel
theorem dX8_check_89 : decode cX8_check 89 = .ok (.goto (-38), 3) := by decide +kernel
theorem dX8_check_92 : decode cX8_check 92 = .ok (.iload_n 1, 1) := by decide +kernel
theorem dX8_check_93 : decode cX8_check 93 = .ok (.iload_n 3, 1) := by decide +kernel
theorem dX8_check_94 : decode cX8_check 94 = .ok (.ifCond .eq 9, 3) := by decide +kernel
theorem dX8_check_97 : decode cX8_check 97 = .ok (.iconst 1, 1) := by decide +kernel
theorem dX8_check_98 : decode cX8_check 98 = .ok (.iload_n 2, 1) := by decide +kernel
theorem dX8_check_99 : decode cX8_check 99 = .ok (.ishl, 1) := by decide +kernel
theorem dX8_check_100 : decode cX8_check 100 = .ok (.goto 4, 3) := by decide +kernel
theorem dX8_check_103 : decode cX8_check 103 = .ok (.iconst 0, 1) := by decide +kernel
theorem dX8_check_104 : decode cX8_check 104 = .ok (.iadd, 1) := by decide +kernel
theorem dX8_check_105 : decode cX8_check 105 = .ok (.istore_n 1, 1) := by decide +kernel
theorem dX8_check_106 : decode cX8_check 106 = .ok (.iinc 2 1, 3) := by decide +kernel
theorem dX8_check_109 : decode cX8_check 109 = .ok (.goto (-100), 3) := by decide +kernel
theorem dX8_check_112 : decode cX8_check 112 = .ok (.iload_n 1, 1) := by decide +kernel
theorem dX8_check_113 : decode cX8_check 113 = .ok (.ireturn, 1) := by decide +kernel
set_option maxRecDepth 20000 in
theorem ggX8_about_X8_isIn : GoodIn wsX8_about wsX8_isIn := goodIn_r _ [5] (by decide +kernel) (by decide +kernel)
set_option maxRecDepth 20000 in
theorem gX8_about_X8_isIn : GoodIn wsX8_about (va_wsS RX8 42 yX8_isIn wsX8_isIn) := goodIn_app (goodIn_of _ (by decide +kernel)) ggX8_about_X8_isIn
set_option maxRecDepth 20000 in
theorem ggX8_about_X8_may : GoodIn wsX8_about wsX8_may := goodIn_r _ [9, 10, 11, 12, 13, 14, 15, 16, 17, 18, 19, 20] (by decide +kernel) (by decide +kernel)
set_option maxRecDepth 20000 in
theorem gX8_about_X8_may : GoodIn wsX8_about (wsV RX8 46 RX8 yX8_may wsX8_may) := goodIn_app (goodIn_of _ (by decide +kernel)) ggX8_about_X8_may
theorem dX8_about_0 : decode cX8_about 0 = .ok (.aload_n 0, 1) := by decide +kernel
theorem dX8_about_1 : decode cX8_about 1 = .ok (.iload_n 1, 1) := by decide +kernel
theorem dX8_about_2 : decode cX8_about 2 = .ok (.iconst 1, 1) := by decide +kernel
theorem dX8_about_3 : decode cX8_about 3 = .ok (.bipush 24, 2) := by decide +kernel
theorem dX8_about_5 : decode cX8_about 5 = .ok (.invokestatic 42, 3) := by decide +kernel
theorem dX8_about_8 : decode cX8_about 8 = .ok (.ifCond .eq 16, 3) := by decide +kernel
theorem dX8_about_11 : decode cX8_about 11 = .ok (.iload_n 2, 1) := by decide +kernel
theorem dX8_about_12 : decode cX8_about 12 = .ok (.iconst 0, 1) := by decide +kernel
theorem dX8_about_13 : decode cX8_about 13 = .ok (.iconst 4, 1) := by decide +kernel
theorem dX8_about_14 : decode cX8_about 14 = .ok (.invokestatic 42, 3) := by decide +kernel
theorem dX8_about_17 : decode cX8_about 17 = .ok (.ifCond .eq 7, 3) := by decide +kernel
theorem dX8_about_20 : decode cX8_about 20 = .ok (.iconst 1, 1) := by decide +kernel
theorem dX8_about_21 : decode cX8_about 21 = .ok (.goto 4, 3) := by decide +kernel
theorem dX8_about_24 : decode cX8_about 24 = .ok (.iconst 0, 1) := by decide +kernel
theorem dX8_about_25 : decode cX8_about 25 = .ok (.invokevirtual 46, 3) := by decide +kernel
theorem dX8_about_28 : decode cX8_about 28 = .ok (.ifCond .eq 17, 3) := by decide +kernel
theorem dX8_about_31 : decode cX8_about 31 = .ok (.aload_n 0, 1) := by decide +kernel
theorem dX8_about_32 : decode cX8_about 32 = .ok (.getfield 7, 3) := by decide +kernel
theorem dX8_about_35 : decode cX8_about 35 = .ok (.bipush 47, 2) := by decide +kernel
theorem dX8_about_37 : decode cX8_about 37 = .ok (.iload_n 1, 1) := by decide +kernel
theorem dX8_about_38 : decode cX8_about 38 = .ok (.imul, 1) := by decide +kernel
theorem dX8_about_39 : decode cX8_about 39 = .ok (.iload_n 2, 1) := by decide +kernel
theorem dX8_about_40 : decode cX8_about 40 = .ok (.iadd, 1) := by decide +kernel
theorem dX8_about_41 : decode cX8_about 41 = .ok (.iaload, 1) := by decide +kernel
theorem dX8_about_42 : decode cX8_about 42 = .ok (.goto 4, 3) := by decide +kernel
theorem dX8_about_45 : decode cX8_about 45 = .ok (.iconst 0, 1) := by decide +kernel
theorem dX8_about_46 : decode cX8_about 46 = .ok (.ireturn, 1) := by decide +kernel
set_option maxRecDepth 20000 in
theorem ggX8_runOf_X8_isIn : GoodIn wsX8_runOf wsX8_isIn := goodIn_r _ [5] (by decide +kernel) (by decide +kernel)
set_option maxRecDepth 20000 in
theorem gX8_runOf_X8_isIn : GoodIn wsX8_runOf (va_wsS RX8 42 yX8_isIn wsX8_isIn) := goodIn_app (goodIn_of _ (by decide +kernel)) ggX8_runOf_X8_isIn
set_option maxRecDepth 20000 in
theorem ggX8_runOf_X8_may : GoodIn wsX8_runOf wsX8_may := goodIn_r _ [9, 10, 14, 15, 16, 17, 18, 19, 20, 21, 22, 23] (by decide +kernel) (by decide +kernel)
set_option maxRecDepth 20000 in
theorem gX8_runOf_X8_may : GoodIn wsX8_runOf (wsV RX8 46 RX8 yX8_may wsX8_may) := goodIn_app (goodIn_of _ (by decide +kernel)) ggX8_runOf_X8_may
set_option maxRecDepth 20000 in
theorem ggX8_runOf_X8_runAt : GoodIn wsX8_runOf wsX8_runAt := goodIn_r _ [13] (by decide +kernel) (by decide +kernel)
set_option maxRecDepth 20000 in
theorem gX8_runOf_X8_runAt : GoodIn wsX8_runOf (va_wsS RX8 50 yX8_runAt wsX8_runAt) := goodIn_app (goodIn_of _ (by decide +kernel)) ggX8_runOf_X8_runAt
theorem dX8_runOf_0 : decode cX8_runOf 0 = .ok (.aload_n 0, 1) := by decide +kernel
theorem dX8_runOf_1 : decode cX8_runOf 1 = .ok (.iload_n 1, 1) := by decide +kernel
theorem dX8_runOf_2 : decode cX8_runOf 2 = .ok (.iconst 1, 1) := by decide +kernel
theorem dX8_runOf_3 : decode cX8_runOf 3 = .ok (.bipush 24, 2) := by decide +kernel
theorem dX8_runOf_5 : decode cX8_runOf 5 = .ok (.invokestatic 42, 3) := by decide +kernel
theorem dX8_runOf_8 : decode cX8_runOf 8 = .ok (.ifCond .eq 25, 3) := by decide +kernel
theorem dX8_runOf_11 : decode cX8_runOf 11 = .ok (.iload_n 2, 1) := by decide +kernel
theorem dX8_runOf_12 : decode cX8_runOf 12 = .ok (.iconst 0, 1) := by decide +kernel
theorem dX8_runOf_13 : decode cX8_runOf 13 = .ok (.iconst 5, 1) := by decide +kernel
theorem dX8_runOf_14 : decode cX8_runOf 14 = .ok (.invokestatic 42, 3) := by decide +kernel
theorem dX8_runOf_17 : decode cX8_runOf 17 = .ok (.ifCond .eq 16, 3) := by decide +kernel
theorem dX8_runOf_20 : decode cX8_runOf 20 = .ok (.iload_n 3, 1) := by decide +kernel
theorem dX8_runOf_21 : decode cX8_runOf 21 = .ok (.iconst 0, 1) := by decide +kernel
theorem dX8_runOf_22 : decode cX8_runOf 22 = .ok (.iconst 2, 1) := by decide +kernel
theorem dX8_runOf_23 : decode cX8_runOf 23 = .ok (.invokestatic 42, 3) := by decide +kernel
theorem dX8_runOf_26 : decode cX8_runOf 26 = .ok (.ifCond .eq 7, 3) := by decide +kernel
theorem dX8_runOf_29 : decode cX8_runOf 29 = .ok (.iconst 1, 1) := by decide +kernel
theorem dX8_runOf_30 : decode cX8_runOf 30 = .ok (.goto 4, 3) := by decide +kernel
theorem dX8_runOf_33 : decode cX8_runOf 33 = .ok (.iconst 0, 1) := by decide +kernel
theorem dX8_runOf_34 : decode cX8_runOf 34 = .ok (.invokevirtual 46, 3) := by decide +kernel
theorem dX8_runOf_37 : decode cX8_runOf 37 = .ok (.ifCond .eq 18, 3) := by decide +kernel
theorem dX8_runOf_40 : decode cX8_runOf 40 = .ok (.aload_n 0, 1) := by decide +kernel
theorem dX8_runOf_41 : decode cX8_runOf 41 = .ok (.getfield 7, 3) := by decide +kernel
theorem dX8_runOf_44 : decode cX8_runOf 44 = .ok (.iload_n 1, 1) := by decide +kernel
theorem dX8_runOf_45 : decode cX8_runOf 45 = .ok (.iload_n 2, 1) := by decide +kernel
theorem dX8_runOf_46 : decode cX8_runOf 46 = .ok (.invokestatic 50, 3) := by decide +kernel
theorem dX8_runOf_49 : decode cX8_runOf 49 = .ok (.iload_n 3, 1) := by decide +kernel
theorem dX8_runOf_50 : decode cX8_runOf 50 = .ok (.iadd, 1) := by decide +kernel
theorem dX8_runOf_51 : decode cX8_runOf 51 = .ok (.iaload, 1) := by decide +kernel
theorem dX8_runOf_52 : decode cX8_runOf 52 = .ok (.goto 4, 3) := by decide +kernel
theorem dX8_runOf_55 : decode cX8_runOf 55 = .ok (.iconst 0, 1) := by decide +kernel
theorem dX8_runOf_56 : decode cX8_runOf 56 = .ok (.ireturn, 1) := by decide +kernel
set_option maxRecDepth 20000 in
theorem ggX8_entryOf_X8_isIn : GoodIn wsX8_entryOf wsX8_isIn := goodIn_r _ [5] (by decide +kernel) (by decide +kernel)
set_option maxRecDepth 20000 in
theorem gX8_entryOf_X8_isIn : GoodIn wsX8_entryOf (va_wsS RX8 42 yX8_isIn wsX8_isIn) := goodIn_app (goodIn_of _ (by decide +kernel)) ggX8_entryOf_X8_isIn
set_option maxRecDepth 20000 in
theorem ggX8_entryOf_X8_may : GoodIn wsX8_entryOf wsX8_may := goodIn_r _ [9, 10, 14, 15, 16, 17, 18, 19, 20, 21, 22, 23] (by decide +kernel) (by decide +kernel)
set_option maxRecDepth 20000 in
theorem gX8_entryOf_X8_may : GoodIn wsX8_entryOf (wsV RX8 46 RX8 yX8_may wsX8_may) := goodIn_app (goodIn_of _ (by decide +kernel)) ggX8_entryOf_X8_may
set_option maxRecDepth 20000 in
theorem ggX8_entryOf_X8_entryAt : GoodIn wsX8_entryOf wsX8_entryAt := goodIn_r _ [13] (by decide +kernel) (by decide +kernel)
set_option maxRecDepth 20000 in
theorem gX8_entryOf_X8_entryAt : GoodIn wsX8_entryOf (va_wsS RX8 58 yX8_entryAt wsX8_entryAt) := goodIn_app (goodIn_of _ (by decide +kernel)) ggX8_entryOf_X8_entryAt
theorem dX8_entryOf_0 : decode cX8_entryOf 0 = .ok (.aload_n 0, 1) := by decide +kernel
theorem dX8_entryOf_1 : decode cX8_entryOf 1 = .ok (.iload_n 1, 1) := by decide +kernel
theorem dX8_entryOf_2 : decode cX8_entryOf 2 = .ok (.iconst 1, 1) := by decide +kernel
theorem dX8_entryOf_3 : decode cX8_entryOf 3 = .ok (.bipush 24, 2) := by decide +kernel
theorem dX8_entryOf_5 : decode cX8_entryOf 5 = .ok (.invokestatic 42, 3) := by decide +kernel
theorem dX8_entryOf_8 : decode cX8_entryOf 8 = .ok (.ifCond .eq 26, 3) := by decide +kernel
theorem dX8_entryOf_11 : decode cX8_entryOf 11 = .ok (.iload_n 2, 1) := by decide +kernel
theorem dX8_entryOf_12 : decode cX8_entryOf 12 = .ok (.iconst 0, 1) := by decide +kernel
theorem dX8_entryOf_13 : decode cX8_entryOf 13 = .ok (.bipush 7, 2) := by decide +kernel
theorem dX8_entryOf_15 : decode cX8_entryOf 15 = .ok (.invokestatic 42, 3) := by decide +kernel
theorem dX8_entryOf_18 : decode cX8_entryOf 18 = .ok (.ifCond .eq 16, 3) := by decide +kernel
theorem dX8_entryOf_21 : decode cX8_entryOf 21 = .ok (.iload_n 3, 1) := by decide +kernel
theorem dX8_entryOf_22 : decode cX8_entryOf 22 = .ok (.iconst 0, 1) := by decide +kernel
theorem dX8_entryOf_23 : decode cX8_entryOf 23 = .ok (.iconst 2, 1) := by decide +kernel
theorem dX8_entryOf_24 : decode cX8_entryOf 24 = .ok (.invokestatic 42, 3) := by decide +kernel
theorem dX8_entryOf_27 : decode cX8_entryOf 27 = .ok (.ifCond .eq 7, 3) := by decide +kernel
theorem dX8_entryOf_30 : decode cX8_entryOf 30 = .ok (.iconst 1, 1) := by decide +kernel
theorem dX8_entryOf_31 : decode cX8_entryOf 31 = .ok (.goto 4, 3) := by decide +kernel
theorem dX8_entryOf_34 : decode cX8_entryOf 34 = .ok (.iconst 0, 1) := by decide +kernel
theorem dX8_entryOf_35 : decode cX8_entryOf 35 = .ok (.invokevirtual 46, 3) := by decide +kernel
theorem dX8_entryOf_38 : decode cX8_entryOf 38 = .ok (.ifCond .eq 18, 3) := by decide +kernel
theorem dX8_entryOf_41 : decode cX8_entryOf 41 = .ok (.aload_n 0, 1) := by decide +kernel
theorem dX8_entryOf_42 : decode cX8_entryOf 42 = .ok (.getfield 7, 3) := by decide +kernel
theorem dX8_entryOf_45 : decode cX8_entryOf 45 = .ok (.iload_n 1, 1) := by decide +kernel
theorem dX8_entryOf_46 : decode cX8_entryOf 46 = .ok (.iload_n 2, 1) := by decide +kernel
theorem dX8_entryOf_47 : decode cX8_entryOf 47 = .ok (.invokestatic 58, 3) := by decide +kernel
theorem dX8_entryOf_50 : decode cX8_entryOf 50 = .ok (.iload_n 3, 1) := by decide +kernel
theorem dX8_entryOf_51 : decode cX8_entryOf 51 = .ok (.iadd, 1) := by decide +kernel
theorem dX8_entryOf_52 : decode cX8_entryOf 52 = .ok (.iaload, 1) := by decide +kernel
theorem dX8_entryOf_53 : decode cX8_entryOf 53 = .ok (.goto 4, 3) := by decide +kernel
theorem dX8_entryOf_56 : decode cX8_entryOf 56 = .ok (.iconst 0, 1) := by decide +kernel
theorem dX8_entryOf_57 : decode cX8_entryOf 57 = .ok (.ireturn, 1) := by decide +kernel
set_option maxRecDepth 20000 in
theorem ggX8_isTaken_X8_isBit : GoodIn wsX8_isTaken wsX8_isBit := goodIn_r _ [5, 6, 7, 4, 8] (by decide +kernel) (by decide +kernel)
set_option maxRecDepth 20000 in
theorem gX8_isTaken_X8_isBit : GoodIn wsX8_isTaken (va_wsS RX8 61 yX8_isBit wsX8_isBit) := goodIn_app (goodIn_of _ (by decide +kernel)) ggX8_isTaken_X8_isBit
set_option maxRecDepth 20000 in
theorem ggX8_isTaken_X8_may : GoodIn wsX8_isTaken wsX8_may := goodIn_r _ [12, 13, 14, 15, 16, 17, 18, 19, 20, 21, 22, 23] (by decide +kernel) (by decide +kernel)
set_option maxRecDepth 20000 in
theorem gX8_isTaken_X8_may : GoodIn wsX8_isTaken (wsV RX8 46 RX8 yX8_may wsX8_may) := goodIn_app (goodIn_of _ (by decide +kernel)) ggX8_isTaken_X8_may
theorem dX8_isTaken_0 : decode cX8_isTaken 0 = .ok (.aload_n 0, 1) := by decide +kernel
theorem dX8_isTaken_1 : decode cX8_isTaken 1 = .ok (.iload_n 1, 1) := by decide +kernel
theorem dX8_isTaken_2 : decode cX8_isTaken 2 = .ok (.iload_n 2, 1) := by decide +kernel
theorem dX8_isTaken_3 : decode cX8_isTaken 3 = .ok (.invokestatic 61, 3) := by decide +kernel
theorem dX8_isTaken_6 : decode cX8_isTaken 6 = .ok (.invokevirtual 46, 3) := by decide +kernel
theorem dX8_isTaken_9 : decode cX8_isTaken 9 = .ok (.ifCond .eq 31, 3) := by decide +kernel
theorem dX8_isTaken_12 : decode cX8_isTaken 12 = .ok (.aload_n 0, 1) := by decide +kernel
theorem dX8_isTaken_13 : decode cX8_isTaken 13 = .ok (.getfield 7, 3) := by decide +kernel
theorem dX8_isTaken_16 : decode cX8_isTaken 16 = .ok (.iload_n 1, 1) := by decide +kernel
theorem dX8_isTaken_17 : decode cX8_isTaken 17 = .ok (.ifCond .ne 9, 3) := by decide +kernel
theorem dX8_isTaken_20 : decode cX8_isTaken 20 = .ok (.sipush 1200, 3) := by decide +kernel
theorem dX8_isTaken_23 : decode cX8_isTaken 23 = .ok (.goto 6, 3) := by decide +kernel
theorem dX8_isTaken_26 : decode cX8_isTaken 26 = .ok (.sipush 1401, 3) := by decide +kernel
theorem dX8_isTaken_29 : decode cX8_isTaken 29 = .ok (.iload_n 2, 1) := by decide +kernel
theorem dX8_isTaken_30 : decode cX8_isTaken 30 = .ok (.iadd, 1) := by decide +kernel
theorem dX8_isTaken_31 : decode cX8_isTaken 31 = .ok (.iaload, 1) := by decide +kernel
theorem dX8_isTaken_32 : decode cX8_isTaken 32 = .ok (.iconst 1, 1) := by decide +kernel
theorem dX8_isTaken_33 : decode cX8_isTaken 33 = .ok (.if_icmp .ne 7, 3) := by decide +kernel
theorem dX8_isTaken_36 : decode cX8_isTaken 36 = .ok (.iconst 1, 1) := by decide +kernel
theorem dX8_isTaken_37 : decode cX8_isTaken 37 = .ok (.goto 4, 3) := by decide +kernel
theorem dX8_isTaken_40 : decode cX8_isTaken 40 = .ok (.iconst 0, 1) := by decide +kernel
theorem dX8_isTaken_41 : decode cX8_isTaken 41 = .ok (.ireturn, 1) := by decide +kernel
set_option maxRecDepth 20000 in
theorem ggX8_told_X8_isIn : GoodIn wsX8_told wsX8_isIn := goodIn_r _ [5] (by decide +kernel) (by decide +kernel)
set_option maxRecDepth 20000 in
theorem gX8_told_X8_isIn : GoodIn wsX8_told (va_wsS RX8 42 yX8_isIn wsX8_isIn) := goodIn_app (goodIn_of _ (by decide +kernel)) ggX8_told_X8_isIn
set_option maxRecDepth 20000 in
theorem ggX8_told_X8_may : GoodIn wsX8_told wsX8_may := goodIn_r _ [9, 10, 11, 12, 13, 14, 15, 16, 17, 18, 19, 20] (by decide +kernel) (by decide +kernel)
set_option maxRecDepth 20000 in
theorem gX8_told_X8_may : GoodIn wsX8_told (wsV RX8 46 RX8 yX8_may wsX8_may) := goodIn_app (goodIn_of _ (by decide +kernel)) ggX8_told_X8_may
theorem dX8_told_0 : decode cX8_told 0 = .ok (.aload_n 0, 1) := by decide +kernel
theorem dX8_told_1 : decode cX8_told 1 = .ok (.iload_n 1, 1) := by decide +kernel
theorem dX8_told_2 : decode cX8_told 2 = .ok (.iconst 0, 1) := by decide +kernel
theorem dX8_told_3 : decode cX8_told 3 = .ok (.iconst 2, 1) := by decide +kernel
theorem dX8_told_4 : decode cX8_told 4 = .ok (.invokestatic 42, 3) := by decide +kernel
theorem dX8_told_7 : decode cX8_told 7 = .ok (.invokevirtual 46, 3) := by decide +kernel
theorem dX8_told_10 : decode cX8_told 10 = .ok (.ifCond .eq 16, 3) := by decide +kernel
theorem dX8_told_13 : decode cX8_told 13 = .ok (.aload_n 0, 1) := by decide +kernel
theorem dX8_told_14 : decode cX8_told 14 = .ok (.getfield 7, 3) := by decide +kernel
theorem dX8_told_17 : decode cX8_told 17 = .ok (.sipush 1426, 3) := by decide +kernel
theorem dX8_told_20 : decode cX8_told 20 = .ok (.iload_n 1, 1) := by decide +kernel
theorem dX8_told_21 : decode cX8_told 21 = .ok (.iadd, 1) := by decide +kernel
theorem dX8_told_22 : decode cX8_told 22 = .ok (.iaload, 1) := by decide +kernel
theorem dX8_told_23 : decode cX8_told 23 = .ok (.goto 4, 3) := by decide +kernel
theorem dX8_told_26 : decode cX8_told 26 = .ok (.iconst 0, 1) := by decide +kernel
theorem dX8_told_27 : decode cX8_told 27 = .ok (.ireturn, 1) := by decide +kernel
set_option maxRecDepth 20000 in
theorem ggX8_entryNamed_X8_entryAt : GoodIn wsX8_entryNamed wsX8_entryAt := goodIn_r _ [5] (by decide +kernel) (by decide +kernel)
set_option maxRecDepth 20000 in
theorem gX8_entryNamed_X8_entryAt : GoodIn wsX8_entryNamed (va_wsS RX8 58 yX8_entryAt wsX8_entryAt) := goodIn_app (goodIn_of _ (by decide +kernel)) ggX8_entryNamed_X8_entryAt
theorem dX8_entryNamed_0 : decode cX8_entryNamed 0 = .ok (.iconst 0, 1) := by decide +kernel
theorem dX8_entryNamed_1 : decode cX8_entryNamed 1 = .ok (.istore_n 3, 1) := by decide +kernel
theorem dX8_entryNamed_2 : decode cX8_entryNamed 2 = .ok (.iload_n 3, 1) := by decide +kernel
theorem dX8_entryNamed_3 : decode cX8_entryNamed 3 = .ok (.bipush 8, 2) := by decide +kernel
theorem dX8_entryNamed_5 : decode cX8_entryNamed 5 = .ok (.if_icmp .ge 36, 3) := by decide +kernel
theorem dX8_entryNamed_8 : decode cX8_entryNamed 8 = .ok (.aload_n 0, 1) := by decide +kernel
theorem dX8_entryNamed_9 : decode cX8_entryNamed 9 = .ok (.getfield 7, 3) := by decide +kernel
theorem dX8_entryNamed_12 : decode cX8_entryNamed 12 = .ok (.iload_n 1, 1) := by decide +kernel
theorem dX8_entryNamed_13 : decode cX8_entryNamed 13 = .ok (.iload_n 3, 1) := by decide +kernel
theorem dX8_entryNamed_14 : decode cX8_entryNamed 14 = .ok (.invokestatic 58, 3) := by decide +kernel
theorem dX8_entryNamed_17 : decode cX8_entryNamed 17 = .ok (.iaload, 1) := by decide +kernel
theorem dX8_entryNamed_18 : decode cX8_entryNamed 18 = .ok (.iload_n 2, 1) := by decide +kernel
theorem dX8_entryNamed_19 : decode cX8_entryNamed 19 = .ok (.if_icmp .ne 16, 3) := by decide +kernel
theorem dX8_entryNamed_22 : decode cX8_entryNamed 22 = .ok (.aload_n 0, 1) := by decide +kernel
theorem dX8_entryNamed_23 : decode cX8_entryNamed 23 = .ok (.getfield 7, 3) := by decide +kernel
theorem dX8_entryNamed_26 : decode cX8_entryNamed 26 = .ok (.iload_n 1, 1) := by decide +kernel
theorem dX8_entryNamed_27 : decode cX8_entryNamed 27 = .ok (.iload_n 3, 1) := by decide +kernel
theorem dX8_entryNamed_28 : decode cX8_entryNamed 28 = .ok (.invokestatic 58, 3) := by decide +kernel
theorem dX8_entryNamed_31 : decode cX8_entryNamed 31 = .ok (.iconst 1, 1) := by decide +kernel
theorem dX8_entryNamed_32 : decode cX8_entryNamed 32 = .ok (.iadd, 1) := by decide +kernel
theorem dX8_entryNamed_33 : decode cX8_entryNamed 33 = .ok (.iaload, 1) := by decide +kernel
theorem dX8_entryNamed_34 : decode cX8_entryNamed 34 = .ok (.ireturn, 1) := by decide +kernel
theorem dX8_entryNamed_35 : decode cX8_entryNamed 35 = .ok (.iinc 3 1, 3) := by decide +kernel
theorem dX8_entryNamed_38 : decode cX8_entryNamed 38 = .ok (.goto (-36), 3) := by decide +kernel
theorem dX8_entryNamed_41 : decode cX8_entryNamed 41 = .ok (.iconst 0, 1) := by decide +kernel
theorem dX8_entryNamed_42 : decode cX8_entryNamed 42 = .ok (.ireturn, 1) := by decide +kernel
set_option maxRecDepth 20000 in
theorem ggX8_find_X8_kindOf : GoodIn wsX8_find wsX8_kindOf := goodIn_r _ [7, 8, 19, 20, 21, 22, 23, 24, 25, 26, 27, 28] (by decide +kernel) (by decide +kernel)
set_option maxRecDepth 20000 in
theorem gX8_find_X8_kindOf : GoodIn wsX8_find (wsV RX8 90 RX8 yX8_kindOf wsX8_kindOf) := goodIn_app (goodIn_of _ (by decide +kernel)) ggX8_find_X8_kindOf
set_option maxRecDepth 20000 in
theorem ggX8_find_X8_entryNamed : GoodIn wsX8_find wsX8_entryNamed := goodIn_r _ [12, 8, 13, 14, 6, 15, 19, 20, 21, 22, 23, 24, 25, 26, 27, 28] (by decide +kernel) (by decide +kernel)
set_option maxRecDepth 20000 in
theorem gX8_find_X8_entryNamed : GoodIn wsX8_find (wsV RX8 140 RX8 yX8_entryNamed wsX8_entryNamed) := goodIn_app (goodIn_of _ (by decide +kernel)) ggX8_find_X8_entryNamed
set_option maxRecDepth 20000 in
theorem ggX8_find_X8_isIn : GoodIn wsX8_find wsX8_isIn := goodIn_r _ [18] (by decide +kernel) (by decide +kernel)
set_option maxRecDepth 20000 in
theorem gX8_find_X8_isIn : GoodIn wsX8_find (va_wsS RX8 42 yX8_isIn wsX8_isIn) := goodIn_app (goodIn_of _ (by decide +kernel)) ggX8_find_X8_isIn
theorem dX8_find_0 : decode cX8_find 0 = .ok (.aload_n 0, 1) := by decide +kernel
theorem dX8_find_1 : decode cX8_find 1 = .ok (.iconst 0, 1) := by decide +kernel
theorem dX8_find_2 : decode cX8_find 2 = .ok (.putfield 38, 3) := by decide +kernel
theorem dX8_find_5 : decode cX8_find 5 = .ok (.iconst 1, 1) := by decide +kernel
theorem dX8_find_6 : decode cX8_find 6 = .ok (.istore_n 3, 1) := by decide +kernel
theorem dX8_find_7 : decode cX8_find 7 = .ok (.iconst 0, 1) := by decide +kernel
theorem dX8_find_8 : decode cX8_find 8 = .ok (.istore 4, 2) := by decide +kernel
theorem dX8_find_10 : decode cX8_find 10 = .ok (.iload 4, 2) := by decide +kernel
theorem dX8_find_12 : decode cX8_find 12 = .ok (.bipush 8, 2) := by decide +kernel
theorem dX8_find_14 : decode cX8_find 14 = .ok (.if_icmp .ge 63, 3) := by decide +kernel
theorem dX8_find_17 : decode cX8_find 17 = .ok (.lload_n 1, 1) := by decide +kernel
theorem dX8_find_18 : decode cX8_find 18 = .ok (.bipush 8, 2) := by decide +kernel
theorem dX8_find_20 : decode cX8_find 20 = .ok (.iload 4, 2) := by decide +kernel
theorem dX8_find_22 : decode cX8_find 22 = .ok (.imul, 1) := by decide +kernel
theorem dX8_find_23 : decode cX8_find 23 = .ok (.lshr, 1) := by decide +kernel
theorem dX8_find_24 : decode cX8_find 24 = .ok (.ldc2_w 138, 3) := by decide +kernel
theorem dX8_find_27 : decode cX8_find 27 = .ok (.land, 1) := by decide +kernel
theorem dX8_find_28 : decode cX8_find 28 = .ok (.l2i, 1) := by decide +kernel
theorem dX8_find_29 : decode cX8_find 29 = .ok (.istore 5, 2) := by decide +kernel
theorem dX8_find_31 : decode cX8_find 31 = .ok (.iload 5, 2) := by decide +kernel
theorem dX8_find_33 : decode cX8_find 33 = .ok (.ifCond .ne 5, 3) := by decide +kernel
theorem dX8_find_36 : decode cX8_find 36 = .ok (.iload_n 3, 1) := by decide +kernel
theorem dX8_find_37 : decode cX8_find 37 = .ok (.ireturn, 1) := by decide +kernel
theorem dX8_find_38 : decode cX8_find 38 = .ok (.aload_n 0, 1) := by decide +kernel
theorem dX8_find_39 : decode cX8_find 39 = .ok (.iload_n 3, 1) := by decide +kernel
theorem dX8_find_40 : decode cX8_find 40 = .ok (.invokevirtual 90, 3) := by decide +kernel
theorem dX8_find_43 : decode cX8_find 43 = .ok (.iconst 2, 1) := by decide +kernel
theorem dX8_find_44 : decode cX8_find 44 = .ok (.if_icmp .ne 13, 3) := by decide +kernel
theorem dX8_find_47 : decode cX8_find 47 = .ok (.aload_n 0, 1) := by decide +kernel
theorem dX8_find_48 : decode cX8_find 48 = .ok (.iload_n 3, 1) := by decide +kernel
theorem dX8_find_49 : decode cX8_find 49 = .ok (.iload 5, 2) := by decide +kernel
theorem dX8_find_51 : decode cX8_find 51 = .ok (.invokevirtual 140, 3) := by decide +kernel
theorem dX8_find_54 : decode cX8_find 54 = .ok (.goto 4, 3) := by decide +kernel
theorem dX8_find_57 : decode cX8_find 57 = .ok (.iconst 0, 1) := by decide +kernel
theorem dX8_find_58 : decode cX8_find 58 = .ok (.istore_n 3, 1) := by decide +kernel
theorem dX8_find_59 : decode cX8_find 59 = .ok (.iload_n 3, 1) := by decide +kernel
theorem dX8_find_60 : decode cX8_find 60 = .ok (.iconst 1, 1) := by decide +kernel
theorem dX8_find_61 : decode cX8_find 61 = .ok (.bipush 24, 2) := by decide +kernel
theorem dX8_find_63 : decode cX8_find 63 = .ok (.invokestatic 42, 3) := by decide +kernel
theorem dX8_find_66 : decode cX8_find 66 = .ok (.ifCond .ne 5, 3) := by decide +kernel
theorem dX8_find_69 : decode cX8_find 69 = .ok (.iconst 0, 1) := by decide +kernel
theorem dX8_find_70 : decode cX8_find 70 = .ok (.ireturn, 1) := by decide +kernel
theorem dX8_find_71 : decode cX8_find 71 = .ok (.iinc 4 1, 3) := by decide +kernel
theorem dX8_find_74 : decode cX8_find 74 = .ok (.goto (-64), 3) := by decide +kernel
theorem dX8_find_77 : decode cX8_find 77 = .ok (.iload_n 3, 1) := by decide +kernel
theorem dX8_find_78 : decode cX8_find 78 = .ok (.ireturn, 1) := by decide +kernel
theorem dJ9_max_7cf53_0 : decode cJ9_max_7cf53 0 = .ok (.iload_n 0, 1) := by decide +kernel
theorem dJ9_max_7cf53_1 : decode cJ9_max_7cf53 1 = .ok (.iload_n 1, 1) := by decide +kernel
theorem dJ9_max_7cf53_2 : decode cJ9_max_7cf53 2 = .ok (.if_icmp .lt 7, 3) := by decide +kernel
theorem dJ9_max_7cf53_5 : decode cJ9_max_7cf53 5 = .ok (.iload_n 0, 1) := by decide +kernel
theorem dJ9_max_7cf53_6 : decode cJ9_max_7cf53 6 = .ok (.goto 4, 3) := by decide +kernel
theorem dJ9_max_7cf53_9 : decode cJ9_max_7cf53 9 = .ok (.iload_n 1, 1) := by decide +kernel
theorem dJ9_max_7cf53_10 : decode cJ9_max_7cf53 10 = .ok (.ireturn, 1) := by decide +kernel
theorem dJ9_min_7cf53_0 : decode cJ9_min_7cf53 0 = .ok (.iload_n 0, 1) := by decide +kernel
theorem dJ9_min_7cf53_1 : decode cJ9_min_7cf53 1 = .ok (.iload_n 1, 1) := by decide +kernel
theorem dJ9_min_7cf53_2 : decode cJ9_min_7cf53 2 = .ok (.if_icmp .gt 7, 3) := by decide +kernel
theorem dJ9_min_7cf53_5 : decode cJ9_min_7cf53 5 = .ok (.iload_n 0, 1) := by decide +kernel
theorem dJ9_min_7cf53_6 : decode cJ9_min_7cf53 6 = .ok (.goto 4, 3) := by decide +kernel
theorem dJ9_min_7cf53_9 : decode cJ9_min_7cf53 9 = .ok (.iload_n 1, 1) := by decide +kernel
theorem dJ9_min_7cf53_10 : decode cJ9_min_7cf53 10 = .ok (.ireturn, 1) := by decide +kernel
abbrev vwCl : List vw_C := [(RX1, TX1, 1), (RX2, TX2, 3), (RX4, TX4, 1), (RX5, TX5, 2), (RX6, TX6, 4), (RX7, TX7, 6), (RX8, TX8, 10)]
