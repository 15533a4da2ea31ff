theorem dX8_checkFolders_42 : decode cX8_checkFolders 42 = .ok (.istore_n 2, 1) := by decide +kernel
theorem dX8_checkFolders_43 : decode cX8_checkFolders 43 = .ok (.iconst 0, 1) := by decide +kernel
theorem dX8_checkFolders_44 : decode cX8_checkFolders 44 = .ok (.istore_n 3, 1) := by decide +kernel
theorem dX8_checkFolders_45 : decode cX8_checkFolders 45 = .ok (.iload_n 3, 1) := by decide +kernel
theorem dX8_checkFolders_46 : decode cX8_checkFolders 46 = .ok (.bipush 8, 2) := by decide +kernel
theorem dX8_checkFolders_48 : decode cX8_checkFolders 48 = .ok (.if_icmp .ge 141, 3) := by decide +kernel
theorem dX8_checkFolders_51 : decode cX8_checkFolders 51 = .ok (.iload_n 1, 1) := by decide +kernel
theorem dX8_checkFolders_52 : decode cX8_checkFolders 52 = .ok (.iload_n 3, 1) := by decide +kernel
theorem dX8_checkFolders_53 : decode cX8_checkFolders 53 = .ok (.invokestatic 58, 3) := by decide +kernel
theorem dX8_checkFolders_56 : decode cX8_checkFolders 56 = .ok (.istore 4, 2) := by decide +kernel
theorem dX8_checkFolders_58 : decode cX8_checkFolders 58 = .ok (.aload_n 0, 1) := by decide +kernel
theorem dX8_checkFolders_59 : decode cX8_checkFolders 59 = .ok (.getfield 7, 3) := by decide +kernel
theorem dX8_checkFolders_62 : decode cX8_checkFolders 62 = .ok (.iload 4, 2) := by decide +kernel
theorem dX8_checkFolders_64 : decode cX8_checkFolders 64 = .ok (.iaload, 1) := by decide +kernel
theorem dX8_checkFolders_65 : decode cX8_checkFolders 65 = .ok (.istore 5, 2) := by decide +kernel
theorem dX8_checkFolders_67 : decode cX8_checkFolders 67 = .ok (.aload_n 0, 1) := by decide +kernel
theorem dX8_checkFolders_68 : decode cX8_checkFolders 68 = .ok (.getfield 7, 3) := by decide +kernel
theorem dX8_checkFolders_71 : decode cX8_checkFolders 71 = .ok (.iload 4, 2) := by decide +kernel
theorem dX8_checkFolders_73 : decode cX8_checkFolders 73 = .ok (.iconst 1, 1) := by decide +kernel
theorem dX8_checkFolders_74 : decode cX8_checkFolders 74 = .ok (.iadd, 1) := by decide +kernel
theorem dX8_checkFolders_75 : decode cX8_checkFolders 75 = .ok (.iaload, 1) := by decide +kernel
theorem dX8_checkFolders_76 : decode cX8_checkFolders 76 = .ok (.istore 6, 2) := by decide +kernel
theorem dX8_checkFolders_78 : decode cX8_checkFolders 78 = .ok (.iload 5, 2) := by decide +kernel
theorem dX8_checkFolders_80 : decode cX8_checkFolders 80 = .ok (.iconst 1, 1) := by decide +kernel
theorem dX8_checkFolders_81 : decode cX8_checkFolders 81 = .ok (.sipush 255, 3) := by decide +kernel
theorem dX8_checkFolders_84 : decode cX8_checkFolders 84 = .ok (.invokestatic 42, 3) := by decide +kernel
theorem dX8_checkFolders_87 : decode cX8_checkFolders 87 = .ok (.ifCond .eq 58, 3) := by decide +kernel
theorem dX8_checkFolders_90 : decode cX8_checkFolders 90 = .ok (.aload_n 0, 1) := by decide +kernel
theorem dX8_checkFolders_91 : decode cX8_checkFolders 91 = .ok (.iload_n 1, 1) := by decide +kernel
theorem dX8_checkFolders_92 : decode cX8_checkFolders 92 = .ok (.iload_n 2, 1) := by decide +kernel
theorem dX8_checkFolders_93 : decode cX8_checkFolders 93 = .ok (.iload 5, 2) := by decide +kernel
theorem dX8_checkFolders_95 : decode cX8_checkFolders 95 = .ok (.invokevirtual 93, 3) := by decide +kernel
theorem dX8_checkFolders_98 : decode cX8_checkFolders 98 = .ok (.ifCond .ne 47, 3) := by decide +kernel
theorem dX8_checkFolders_101 : decode cX8_checkFolders 101 = .ok (.iload 6, 2) := by decide +kernel
theorem dX8_checkFolders_103 : decode cX8_checkFolders 103 = .ok (.iconst 2, 1) := by decide +kernel
theorem dX8_checkFolders_104 : decode cX8_checkFolders 104 = .ok (.bipush 24, 2) := by decide +kernel
theorem dX8_checkFolders_106 : decode cX8_checkFolders 106 = .ok (.invokestatic 42, 3) := by decide +kernel
theorem dX8_checkFolders_109 : decode cX8_checkFolders 109 = .ok (.ifCond .eq 36, 3) := by decide +kernel
theorem dX8_checkFolders_112 : decode cX8_checkFolders 112 = .ok (.aload_n 0, 1) := by decide +kernel
theorem dX8_checkFolders_113 : decode cX8_checkFolders 113 = .ok (.iload 6, 2) := by decide +kernel
theorem dX8_checkFolders_115 : decode cX8_checkFolders 115 = .ok (.invokevirtual 90, 3) := by decide +kernel
theorem dX8_checkFolders_118 : decode cX8_checkFolders 118 = .ok (.ifCond .eq 27, 3) := by decide +kernel
theorem dX8_checkFolders_121 : decode cX8_checkFolders 121 = .ok (.aload_n 0, 1) := by decide +kernel
theorem dX8_checkFolders_122 : decode cX8_checkFolders 122 = .ok (.iload 6, 2) := by decide +kernel
theorem dX8_checkFolders_124 : decode cX8_checkFolders 124 = .ok (.invokevirtual 90, 3) := by decide +kernel
theorem dX8_checkFolders_127 : decode cX8_checkFolders 127 = .ok (.iconst 2, 1) := by decide +kernel
theorem dX8_checkFolders_128 : decode cX8_checkFolders 128 = .ok (.if_icmp .ne 13, 3) := by decide +kernel
theorem dX8_checkFolders_131 : decode cX8_checkFolders 131 = .ok (.aload_n 0, 1) := by decide +kernel
theorem dX8_checkFolders_132 : decode cX8_checkFolders 132 = .ok (.getfield 23, 3) := by decide +kernel
theorem dX8_checkFolders_135 : decode cX8_checkFolders 135 = .ok (.iload 6, 2) := by decide +kernel
theorem dX8_checkFolders_137 : decode cX8_checkFolders 137 = .ok (.baload, 1) := by decide +kernel
theorem dX8_checkFolders_138 : decode cX8_checkFolders 138 = .ok (.ifCond .ne 7, 3) := by decide +kernel
theorem dX8_checkFolders_141 : decode cX8_checkFolders 141 = .ok (.iconst 1, 1) := by decide +kernel
theorem dX8_checkFolders_142 : decode cX8_checkFolders 142 = .ok (.goto 4, 3) := by decide +kernel
theorem dX8_checkFolders_145 : decode cX8_checkFolders 145 = .ok (.iconst 0, 1) := by decide +kernel
theorem dX8_checkFolders_146 : decode cX8_checkFolders 146 = .ok (.istore 7, 2) := by decide +kernel
theorem dX8_checkFolders_148 : decode cX8_checkFolders 148 = .ok (.iload 7, 2) := by decide +kernel
theorem dX8_checkFolders_150 : decode cX8_checkFolders 150 = .ok (.ifCond .eq 33, 3) := by decide +kernel
theorem dX8_checkFolders_153 : decode cX8_checkFolders 153 = .ok (.aload_n 0, 1) := by decide +kernel
theorem dX8_checkFolders_154 : decode cX8_checkFolders 154 = .ok (.getfield 23, 3) := by decide +kernel
theorem dX8_checkFolders_157 : decode cX8_checkFolders 157 = .ok (.iload 6, 2) := by decide +kernel
theorem dX8_checkFolders_159 : decode cX8_checkFolders 159 = .ok (.iconst 1, 1) := by decide +kernel
theorem dX8_checkFolders_160 : decode cX8_checkFolders 160 = .ok (.bastore, 1) := by decide +kernel
theorem dX8_checkFolders_161 : decode cX8_checkFolders 161 = .ok (.aload_n 0, 1) := by decide +kernel
theorem dX8_checkFolders_162 : decode cX8_checkFolders 162 = .ok (.iload_n 1, 1) := by decide +kernel
theorem dX8_checkFolders_163 : decode cX8_checkFolders 163 = .ok (.iload_n 2, 1) := by decide +kernel
theorem dX8_checkFolders_164 : decode cX8_checkFolders 164 = .ok (.invokestatic 58, 3) := by decide +kernel
theorem dX8_checkFolders_167 : decode cX8_checkFolders 167 = .ok (.iload 5, 2) := by decide +kernel
theorem dX8_checkFolders_169 : decode cX8_checkFolders 169 = .ok (.iload 6, 2) := by decide +kernel
theorem dX8_checkFolders_171 : decode cX8_checkFolders 171 = .ok (.aload_n 0, 1) := by decide +kernel
theorem dX8_checkFolders_172 : decode cX8_checkFolders 172 = .ok (.iload 6, 2) := by decide +kernel
theorem dX8_checkFolders_174 : decode cX8_checkFolders 174 = .ok (.invokevirtual 90, 3) := by decide +kernel
theorem dX8_checkFolders_177 : decode cX8_checkFolders 177 = .ok (.invokevirtual 54, 3) := by decide +kernel
theorem dX8_checkFolders_180 : decode cX8_checkFolders 180 = .ok (.iinc 2 1, 3) := by decide +kernel
theorem dX8_checkFolders_183 : decode cX8_checkFolders 183 = .ok (.iinc 3 1, 3) := by decide +kernel
theorem dX8_checkFolders_186 : decode cX8_checkFolders 186 = .ok (.goto (-141), 3) := by decide +kernel
theorem dX8_checkFolders_189 : decode cX8_checkFolders 189 = .ok (.aload_n 0, 1) := by decide +kernel
theorem dX8_checkFolders_190 : decode cX8_checkFolders 190 = .ok (.iload_n 1, 1) := by decide +kernel
theorem dX8_checkFolders_191 : decode cX8_checkFolders 191 = .ok (.iload_n 2, 1) := by decide +kernel
theorem dX8_checkFolders_192 : decode cX8_checkFolders 192 = .ok (.invokestatic 58, 3) := by decide +kernel
theorem dX8_checkFolders_195 : decode cX8_checkFolders 195 = .ok (.iload_n 1, 1) := by decide +kernel
theorem dX8_checkFolders_196 : decode cX8_checkFolders 196 = .ok (.bipush 8, 2) := by decide +kernel
theorem dX8_checkFolders_198 : decode cX8_checkFolders 198 = .ok (.invokestatic 58, 3) := by decide +kernel
theorem dX8_checkFolders_201 : decode cX8_checkFolders 201 = .ok (.invokevirtual 65, 3) := by decide +kernel
theorem dX8_checkFolders_204 : decode cX8_checkFolders 204 = .ok (.iinc 1 1, 3) := by decide +kernel
theorem dX8_checkFolders_207 : decode cX8_checkFolders 207 = .ok (.goto (-184), 3) := by decide +kernel
theorem dX8_checkFolders_210 : decode cX8_checkFolders 210 = .ok (.return_, 1) := by decide +kernel
set_option maxRecDepth 20000 in
theorem ggX8_findReached_X8_kindOf : GoodIn wsX8_findReached wsX8_kindOf := goodIn_r _ [7, 2, 11, 12, 13, 14, 15, 16, 17, 18, 19, 20] (by decide +kernel) (by decide +kernel)
set_option maxRecDepth 20000 in
theorem gX8_findReached_X8_kindOf : GoodIn wsX8_findReached (wsV RX8 90 RX8 yX8_kindOf wsX8_kindOf) := goodIn_app (goodIn_of _ (by decide +kernel)) ggX8_findReached_X8_kindOf
set_option maxRecDepth 20000 in
theorem ggX8_findReached_X8_entryAt : GoodIn wsX8_findReached wsX8_entryAt := goodIn_r _ [10] (by decide +kernel) (by decide +kernel)
set_option maxRecDepth 20000 in
theorem gX8_findReached_X8_entryAt : GoodIn wsX8_findReached (va_wsS RX8 58 yX8_entryAt wsX8_entryAt) := goodIn_app (goodIn_of _ (by decide +kernel)) ggX8_findReached_X8_entryAt
theorem dX8_findReached_0 : decode cX8_findReached 0 = .ok (.iconst 0, 1) := by decide +kernel
theorem dX8_findReached_1 : decode cX8_findReached 1 = .ok (.istore_n 1, 1) := by decide +kernel
theorem dX8_findReached_2 : decode cX8_findReached 2 = .ok (.iload_n 1, 1) := by decide +kernel
theorem dX8_findReached_3 : decode cX8_findReached 3 = .ok (.bipush 24, 2) := by decide +kernel
theorem dX8_findReached_5 : decode cX8_findReached 5 = .ok (.if_icmp .gt 25, 3) := by decide +kernel
theorem dX8_findReached_8 : decode cX8_findReached 8 = .ok (.aload_n 0, 1) := by decide +kernel
theorem dX8_findReached_9 : decode cX8_findReached 9 = .ok (.getfield 23, 3) := by decide +kernel
theorem dX8_findReached_12 : decode cX8_findReached 12 = .ok (.iload_n 1, 1) := by decide +kernel
theorem dX8_findReached_13 : decode cX8_findReached 13 = .ok (.iload_n 1, 1) := by decide +kernel
theorem dX8_findReached_14 : decode cX8_findReached 14 = .ok (.iconst 1, 1) := by decide +kernel
theorem dX8_findReached_15 : decode cX8_findReached 15 = .ok (.if_icmp .ne 7, 3) := by decide +kernel
theorem dX8_findReached_18 : decode cX8_findReached 18 = .ok (.iconst 1, 1) := by decide +kernel
theorem dX8_findReached_19 : decode cX8_findReached 19 = .ok (.goto 4, 3) := by decide +kernel
theorem dX8_findReached_22 : decode cX8_findReached 22 = .ok (.iconst 0, 1) := by decide +kernel
theorem dX8_findReached_23 : decode cX8_findReached 23 = .ok (.bastore, 1) := by decide +kernel
theorem dX8_findReached_24 : decode cX8_findReached 24 = .ok (.iinc 1 1, 3) := by decide +kernel
theorem dX8_findReached_27 : decode cX8_findReached 27 = .ok (.goto (-25), 3) := by decide +kernel
theorem dX8_findReached_30 : decode cX8_findReached 30 = .ok (.iconst 0, 1) := by decide +kernel
theorem dX8_findReached_31 : decode cX8_findReached 31 = .ok (.istore_n 1, 1) := by decide +kernel
theorem dX8_findReached_32 : decode cX8_findReached 32 = .ok (.iload_n 1, 1) := by decide +kernel
theorem dX8_findReached_33 : decode cX8_findReached 33 = .ok (.bipush 24, 2) := by decide +kernel
theorem dX8_findReached_35 : decode cX8_findReached 35 = .ok (.if_icmp .ge 87, 3) := by decide +kernel
theorem dX8_findReached_38 : decode cX8_findReached 38 = .ok (.iconst 1, 1) := by decide +kernel
theorem dX8_findReached_39 : decode cX8_findReached 39 = .ok (.istore_n 2, 1) := by decide +kernel
theorem dX8_findReached_40 : decode cX8_findReached 40 = .ok (.iload_n 2, 1) := by decide +kernel
theorem dX8_findReached_41 : decode cX8_findReached 41 = .ok (.bipush 24, 2) := by decide +kernel
theorem dX8_findReached_43 : decode cX8_findReached 43 = .ok (.if_icmp .gt 73, 3) := by decide +kernel
theorem dX8_findReached_46 : decode cX8_findReached 46 = .ok (.iconst 0, 1) := by decide +kernel
theorem dX8_findReached_47 : decode cX8_findReached 47 = .ok (.istore_n 3, 1) := by decide +kernel
theorem dX8_findReached_48 : decode cX8_findReached 48 = .ok (.iload_n 3, 1) := by decide +kernel
theorem dX8_findReached_49 : decode cX8_findReached 49 = .ok (.bipush 8, 2) := by decide +kernel
theorem dX8_findReached_51 : decode cX8_findReached 51 = .ok (.if_icmp .ge 59, 3) := by decide +kernel
theorem dX8_findReached_54 : decode cX8_findReached 54 = .ok (.aload_n 0, 1) := by decide +kernel
theorem dX8_findReached_55 : decode cX8_findReached 55 = .ok (.getfield 23, 3) := by decide +kernel
theorem dX8_findReached_58 : decode cX8_findReached 58 = .ok (.iload_n 2, 1) := by decide +kernel
theorem dX8_findReached_59 : decode cX8_findReached 59 = .ok (.baload, 1) := by decide +kernel
theorem dX8_findReached_60 : decode cX8_findReached 60 = .ok (.ifCond .eq 50, 3) := by decide +kernel
theorem dX8_findReached_63 : decode cX8_findReached 63 = .ok (.aload_n 0, 1) := by decide +kernel
theorem dX8_findReached_64 : decode cX8_findReached 64 = .ok (.iload_n 2, 1) := by decide +kernel
theorem dX8_findReached_65 : decode cX8_findReached 65 = .ok (.invokevirtual 90, 3) := by decide +kernel
theorem dX8_findReached_68 : decode cX8_findReached 68 = .ok (.iconst 2, 1) := by decide +kernel
theorem dX8_findReached_69 : decode cX8_findReached 69 = .ok (.if_icmp .ne 41, 3) := by decide +kernel
theorem dX8_findReached_72 : decode cX8_findReached 72 = .ok (.iload_n 2, 1) := by decide +kernel
theorem dX8_findReached_73 : decode cX8_findReached 73 = .ok (.iload_n 3, 1) := by decide +kernel
theorem dX8_findReached_74 : decode cX8_findReached 74 = .ok (.invokestatic 58, 3) := by decide +kernel
theorem dX8_findReached_77 : decode cX8_findReached 77 = .ok (.istore 4, 2) := by decide +kernel
theorem dX8_findReached_79 : decode cX8_findReached 79 = .ok (.aload_n 0, 1) := by decide +kernel
theorem dX8_findReached_80 : decode cX8_findReached 80 = .ok (.getfield 7, 3) := by decide +kernel
theorem dX8_findReached_83 : decode cX8_findReached 83 = .ok (.iload 4, 2) := by decide +kernel
theorem dX8_findReached_85 : decode cX8_findReached 85 = .ok (.iaload, 1) := by decide +kernel
theorem dX8_findReached_86 : decode cX8_findReached 86 = .ok (.ifCond .eq 18, 3) := by decide +kernel
theorem dX8_findReached_89 : decode cX8_findReached 89 = .ok (.aload_n 0, 1) := by decide +kernel
theorem dX8_findReached_90 : decode cX8_findReached 90 = .ok (.getfield 23, 3) := by decide +kernel
theorem dX8_findReached_93 : decode cX8_findReached 93 = .ok (.aload_n 0, 1) := by decide +kernel
theorem dX8_findReached_94 : decode cX8_findReached 94 = .ok (.getfield 7, 3) := by decide +kernel
theorem dX8_findReached_97 : decode cX8_findReached 97 = .ok (.iload 4, 2) := by decide +kernel
theorem dX8_findReached_99 : decode cX8_findReached 99 = .ok (.iconst 1, 1) := by decide +kernel
theorem dX8_findReached_100 : decode cX8_findReached 100 = .ok (.iadd, 1) := by decide +kernel
theorem dX8_findReached_101 : decode cX8_findReached 101 = .ok (.iaload, 1) := by decide +kernel
theorem dX8_findReached_102 : decode cX8_findReached 102 = .ok (.iconst 1, 1) := by decide +kernel
theorem dX8_findReached_103 : decode cX8_findReached 103 = .ok (.bastore, 1) := by decide +kernel
theorem dX8_findReached_104 : decode cX8_findReached 104 = .ok (.iinc 3 1, 3) := by decide +kernel
theorem dX8_findReached_107 : decode cX8_findReached 107 = .ok (.goto (-59), 3) := by decide +kernel
theorem dX8_findReached_110 : decode cX8_findReached 110 = .ok (.iinc 2 1, 3) := by decide +kernel
theorem dX8_findReached_113 : decode cX8_findReached 113 = .ok (.goto (-73), 3) := by decide +kernel
theorem dX8_findReached_116 : decode cX8_findReached 116 = .ok (.iinc 1 1, 3) := by decide +kernel
theorem dX8_findReached_119 : decode cX8_findReached 119 = .ok (.goto (-87), 3) := by decide +kernel
theorem dX8_findReached_122 : decode cX8_findReached 122 = .ok (.return_, 1) := by decide +kernel
set_option maxRecDepth 20000 in
theorem ggX8_leading_X8_kindOf : GoodIn wsX8_leading wsX8_kindOf := goodIn_r _ [6, 1, 10, 11, 12, 13, 14, 15, 16, 17, 18, 19] (by decide +kernel) (by decide +kernel)
set_option maxRecDepth 20000 in
theorem gX8_leading_X8_kindOf : GoodIn wsX8_leading (wsV RX8 90 RX8 yX8_kindOf wsX8_kindOf) := goodIn_app (goodIn_of _ (by decide +kernel)) ggX8_leading_X8_kindOf
set_option maxRecDepth 20000 in
theorem ggX8_leading_X8_entryAt : GoodIn wsX8_leading wsX8_entryAt := goodIn_r _ [9] (by decide +kernel) (by decide +kernel)
set_option maxRecDepth 20000 in
theorem gX8_leading_X8_entryAt : GoodIn wsX8_leading (va_wsS RX8 58 yX8_entryAt wsX8_entryAt) := goodIn_app (goodIn_of _ (by decide +kernel)) ggX8_leading_X8_entryAt
theorem dX8_leading_0 : decode cX8_leading 0 = .ok (.iconst 0, 1) := by decide +kernel
theorem dX8_leading_1 : decode cX8_leading 1 = .ok (.istore_n 2, 1) := by decide +kernel
theorem dX8_leading_2 : decode cX8_leading 2 = .ok (.iconst 1, 1) := by decide +kernel
theorem dX8_leading_3 : decode cX8_leading 3 = .ok (.istore_n 3, 1) := by decide +kernel
theorem dX8_leading_4 : decode cX8_leading 4 = .ok (.iload_n 3, 1) := by decide +kernel
theorem dX8_leading_5 : decode cX8_leading 5 = .ok (.bipush 24, 2) := by decide +kernel
theorem dX8_leading_7 : decode cX8_leading 7 = .ok (.if_icmp .gt 73, 3) := by decide +kernel
theorem dX8_leading_10 : decode cX8_leading 10 = .ok (.iconst 0, 1) := by decide +kernel
theorem dX8_leading_11 : decode cX8_leading 11 = .ok (.istore 4, 2) := by decide +kernel
theorem dX8_leading_13 : decode cX8_leading 13 = .ok (.iload 4, 2) := by decide +kernel
theorem dX8_leading_15 : decode cX8_leading 15 = .ok (.bipush 8, 2) := by decide +kernel
theorem dX8_leading_17 : decode cX8_leading 17 = .ok (.if_icmp .ge 57, 3) := by decide +kernel
theorem dX8_leading_20 : decode cX8_leading 20 = .ok (.aload_n 0, 1) := by decide +kernel
theorem dX8_leading_21 : decode cX8_leading 21 = .ok (.iload_n 3, 1) := by decide +kernel
theorem dX8_leading_22 : decode cX8_leading 22 = .ok (.invokevirtual 90, 3) := by decide +kernel
theorem dX8_leading_25 : decode cX8_leading 25 = .ok (.iconst 2, 1) := by decide +kernel
theorem dX8_leading_26 : decode cX8_leading 26 = .ok (.if_icmp .ne 48, 3) := by decide +kernel
theorem dX8_leading_29 : decode cX8_leading 29 = .ok (.iload_n 2, 1) := by decide +kernel
theorem dX8_leading_30 : decode cX8_leading 30 = .ok (.aload_n 0, 1) := by decide +kernel
theorem dX8_leading_31 : decode cX8_leading 31 = .ok (.getfield 7, 3) := by decide +kernel
theorem dX8_leading_34 : decode cX8_leading 34 = .ok (.iload_n 3, 1) := by decide +kernel
theorem dX8_leading_35 : decode cX8_leading 35 = .ok (.iload 4, 2) := by decide +kernel
theorem dX8_leading_37 : decode cX8_leading 37 = .ok (.invokestatic 58, 3) := by decide +kernel
theorem dX8_leading_40 : decode cX8_leading 40 = .ok (.iaload, 1) := by decide +kernel
theorem dX8_leading_41 : decode cX8_leading 41 = .ok (.ifCond .eq 24, 3) := by decide +kernel
theorem dX8_leading_44 : decode cX8_leading 44 = .ok (.aload_n 0, 1) := by decide +kernel
theorem dX8_leading_45 : decode cX8_leading 45 = .ok (.getfield 7, 3) := by decide +kernel
theorem dX8_leading_48 : decode cX8_leading 48 = .ok (.iload_n 3, 1) := by decide +kernel
theorem dX8_leading_49 : decode cX8_leading 49 = .ok (.iload 4, 2) := by decide +kernel
theorem dX8_leading_51 : decode cX8_leading 51 = .ok (.invokestatic 58, 3) := by decide +kernel
theorem dX8_leading_54 : decode cX8_leading 54 = .ok (.iconst 1, 1) := by decide +kernel
theorem dX8_leading_55 : decode cX8_leading 55 = .ok (.iadd, 1) := by decide +kernel
theorem dX8_leading_56 : decode cX8_leading 56 = .ok (.iaload, 1) := by decide +kernel
theorem dX8_leading_57 : decode cX8_leading 57 = .ok (.iload_n 1, 1) := by decide +kernel
theorem dX8_leading_58 : decode cX8_leading 58 = .ok (.if_icmp .ne 7, 3) := by decide +kernel
theorem dX8_leading_61 : decode cX8_leading 61 = .ok (.iconst 1, 1) := by decide +kernel
theorem dX8_leading_62 : decode cX8_leading 62 = .ok (.goto 4, 3) := by decide +kernel
theorem dX8_leading_65 : decode cX8_leading 65 = .ok (.iconst 0, 1) := by decide +kernel
theorem dX8_leading_66 : decode cX8_leading 66 = .ok (.iadd, 1) := by decide +kernel
theorem dX8_leading_67 : decode cX8_leading 67 = .ok (.istore_n 2, 1) := by decide +kernel
theorem dX8_leading_68 : decode cX8_leading 68 = .ok (.iinc 4 1, 3) := by decide +kernel
theorem dX8_leading_71 : decode cX8_leading 71 = .ok (.goto (-58), 3) := by decide +kernel
theorem dX8_leading_74 : decode cX8_leading 74 = .ok (.iinc 3 1, 3) := by decide +kernel
theorem dX8_leading_77 : decode cX8_leading 77 = .ok (.goto (-73), 3) := by decide +kernel
theorem dX8_leading_80 : decode cX8_leading 80 = .ok (.iload_n 2, 1) := by decide +kernel
theorem dX8_leading_81 : decode cX8_leading 81 = .ok (.ireturn, 1) := by decide +kernel
set_option maxRecDepth 20000 in
theorem ggX8_findWaiting_X8_isIn : GoodIn wsX8_findWaiting wsX8_isIn := goodIn_r _ [9] (by decide +kernel) (by decide +kernel)
set_option maxRecDepth 20000 in
theorem gX8_findWaiting_X8_isIn : GoodIn wsX8_findWaiting (va_wsS RX8 42 yX8_isIn wsX8_isIn) := goodIn_app (goodIn_of _ (by decide +kernel)) ggX8_findWaiting_X8_isIn
set_option maxRecDepth 20000 in
theorem ggX8_findWaiting_X8_kindOf : GoodIn wsX8_findWaiting wsX8_kindOf := goodIn_r _ [13, 4, 21, 22, 23, 24, 25, 26, 27, 28, 29, 30] (by decide +kernel) (by decide +kernel)
set_option maxRecDepth 20000 in
theorem gX8_findWaiting_X8_kindOf : GoodIn wsX8_findWaiting (wsV RX8 90 RX8 yX8_kindOf wsX8_kindOf) := goodIn_app (goodIn_of _ (by decide +kernel)) ggX8_findWaiting_X8_kindOf
set_option maxRecDepth 20000 in
theorem ggX8_findWaiting_X8_leading : GoodIn wsX8_findWaiting wsX8_leading := goodIn_r _ [17, 4, 10, 11, 12, 8, 13, 18, 19, 20, 21, 22, 23, 24, 25, 26, 27, 28, 29, 30] (by decide +kernel) (by decide +kernel)
set_option maxRecDepth 20000 in
theorem gX8_findWaiting_X8_leading : GoodIn wsX8_findWaiting (wsV RX8 99 RX8 yX8_leading wsX8_leading) := goodIn_app (goodIn_of _ (by decide +kernel)) ggX8_findWaiting_X8_leading
theorem dX8_findWaiting_0 : decode cX8_findWaiting 0 = .ok (.iconst 0, 1) := by decide +kernel
theorem dX8_findWaiting_1 : decode cX8_findWaiting 1 = .ok (.istore_n 1, 1) := by decide +kernel
theorem dX8_findWaiting_2 : decode cX8_findWaiting 2 = .ok (.iload_n 1, 1) := by decide +kernel
theorem dX8_findWaiting_3 : decode cX8_findWaiting 3 = .ok (.bipush 24, 2) := by decide +kernel
theorem dX8_findWaiting_5 : decode cX8_findWaiting 5 = .ok (.if_icmp .gt 23, 3) := by decide +kernel
theorem dX8_findWaiting_8 : decode cX8_findWaiting 8 = .ok (.aload_n 0, 1) := by decide +kernel
theorem dX8_findWaiting_9 : decode cX8_findWaiting 9 = .ok (.getfield 26, 3) := by decide +kernel
theorem dX8_findWaiting_12 : decode cX8_findWaiting 12 = .ok (.iload_n 1, 1) := by decide +kernel
theorem dX8_findWaiting_13 : decode cX8_findWaiting 13 = .ok (.iconst 0, 1) := by decide +kernel
theorem dX8_findWaiting_14 : decode cX8_findWaiting 14 = .ok (.bastore, 1) := by decide +kernel
theorem dX8_findWaiting_15 : decode cX8_findWaiting 15 = .ok (.aload_n 0, 1) := by decide +kernel
theorem dX8_findWaiting_16 : decode cX8_findWaiting 16 = .ok (.getfield 32, 3) := by decide +kernel
theorem dX8_findWaiting_19 : decode cX8_findWaiting 19 = .ok (.iload_n 1, 1) := by decide +kernel
theorem dX8_findWaiting_20 : decode cX8_findWaiting 20 = .ok (.iconst 0, 1) := by decide +kernel
theorem dX8_findWaiting_21 : decode cX8_findWaiting 21 = .ok (.bastore, 1) := by decide +kernel
theorem dX8_findWaiting_22 : decode cX8_findWaiting 22 = .ok (.iinc 1 1, 3) := by decide +kernel
theorem dX8_findWaiting_25 : decode cX8_findWaiting 25 = .ok (.goto (-23), 3) := by decide +kernel
theorem dX8_findWaiting_28 : decode cX8_findWaiting 28 = .ok (.aload_n 0, 1) := by decide +kernel
theorem dX8_findWaiting_29 : decode cX8_findWaiting 29 = .ok (.iconst 0, 1) := by decide +kernel
theorem dX8_findWaiting_30 : decode cX8_findWaiting 30 = .ok (.putfield 96, 3) := by decide +kernel
theorem dX8_findWaiting_33 : decode cX8_findWaiting 33 = .ok (.aload_n 0, 1) := by decide +kernel
theorem dX8_findWaiting_34 : decode cX8_findWaiting 34 = .ok (.getfield 7, 3) := by decide +kernel
theorem dX8_findWaiting_37 : decode cX8_findWaiting 37 = .ok (.sipush 1428, 3) := by decide +kernel
theorem dX8_findWaiting_40 : decode cX8_findWaiting 40 = .ok (.iaload, 1) := by decide +kernel
theorem dX8_findWaiting_41 : decode cX8_findWaiting 41 = .ok (.istore_n 1, 1) := by decide +kernel
theorem dX8_findWaiting_42 : decode cX8_findWaiting 42 = .ok (.iload_n 1, 1) := by decide +kernel
theorem dX8_findWaiting_43 : decode cX8_findWaiting 43 = .ok (.iconst 1, 1) := by decide +kernel
theorem dX8_findWaiting_44 : decode cX8_findWaiting 44 = .ok (.bipush 24, 2) := by decide +kernel
theorem dX8_findWaiting_46 : decode cX8_findWaiting 46 = .ok (.invokestatic 42, 3) := by decide +kernel
theorem dX8_findWaiting_49 : decode cX8_findWaiting 49 = .ok (.ifCond .eq 54, 3) := by decide +kernel
theorem dX8_findWaiting_52 : decode cX8_findWaiting 52 = .ok (.aload_n 0, 1) := by decide +kernel
theorem dX8_findWaiting_53 : decode cX8_findWaiting 53 = .ok (.getfield 32, 3) := by decide +kernel
theorem dX8_findWaiting_56 : decode cX8_findWaiting 56 = .ok (.iload_n 1, 1) := by decide +kernel
theorem dX8_findWaiting_57 : decode cX8_findWaiting 57 = .ok (.baload, 1) := by decide +kernel
theorem dX8_findWaiting_58 : decode cX8_findWaiting 58 = .ok (.ifCond .ne 45, 3) := by decide +kernel
theorem dX8_findWaiting_61 : decode cX8_findWaiting 61 = .ok (.aload_n 0, 1) := by decide +kernel
theorem dX8_findWaiting_62 : decode cX8_findWaiting 62 = .ok (.getfield 32, 3) := by decide +kernel
theorem dX8_findWaiting_65 : decode cX8_findWaiting 65 = .ok (.iload_n 1, 1) := by decide +kernel
theorem dX8_findWaiting_66 : decode cX8_findWaiting 66 = .ok (.iconst 1, 1) := by decide +kernel
theorem dX8_findWaiting_67 : decode cX8_findWaiting 67 = .ok (.bastore, 1) := by decide +kernel
theorem dX8_findWaiting_68 : decode cX8_findWaiting 68 = .ok (.aload_n 0, 1) := by decide +kernel
theorem dX8_findWaiting_69 : decode cX8_findWaiting 69 = .ok (.getfield 29, 3) := by decide +kernel
theorem dX8_findWaiting_72 : decode cX8_findWaiting 72 = .ok (.aload_n 0, 1) := by decide +kernel
theorem dX8_findWaiting_73 : decode cX8_findWaiting 73 = .ok (.getfield 96, 3) := by decide +kernel
theorem dX8_findWaiting_76 : decode cX8_findWaiting 76 = .ok (.iload_n 1, 1) := by decide +kernel
theorem dX8_findWaiting_77 : decode cX8_findWaiting 77 = .ok (.iastore, 1) := by decide +kernel
theorem dX8_findWaiting_78 : decode cX8_findWaiting 78 = .ok (.aload_n 0, 1) := by decide +kernel
theorem dX8_findWaiting_79 : decode cX8_findWaiting 79 = .ok (.dup, 1) := by decide +kernel
theorem dX8_findWaiting_80 : decode cX8_findWaiting 80 = .ok (.getfield 96, 3) := by decide +kernel
theorem dX8_findWaiting_83 : decode cX8_findWaiting 83 = .ok (.iconst 1, 1) := by decide +kernel
theorem dX8_findWaiting_84 : decode cX8_findWaiting 84 = .ok (.iadd, 1) := by decide +kernel
theorem dX8_findWaiting_85 : decode cX8_findWaiting 85 = .ok (.putfield 96, 3) := by decide +kernel
theorem dX8_findWaiting_88 : decode cX8_findWaiting 88 = .ok (.aload_n 0, 1) := by decide +kernel
theorem dX8_findWaiting_89 : decode cX8_findWaiting 89 = .ok (.getfield 7, 3) := by decide +kernel
theorem dX8_findWaiting_92 : decode cX8_findWaiting 92 = .ok (.bipush 47, 2) := by decide +kernel
theorem dX8_findWaiting_94 : decode cX8_findWaiting 94 = .ok (.iload_n 1, 1) := by decide +kernel
theorem dX8_findWaiting_95 : decode cX8_findWaiting 95 = .ok (.imul, 1) := by decide +kernel
theorem dX8_findWaiting_96 : decode cX8_findWaiting 96 = .ok (.iconst 3, 1) := by decide +kernel
theorem dX8_findWaiting_97 : decode cX8_findWaiting 97 = .ok (.iadd, 1) := by decide +kernel
theorem dX8_findWaiting_98 : decode cX8_findWaiting 98 = .ok (.iaload, 1) := by decide +kernel
theorem dX8_findWaiting_99 : decode cX8_findWaiting 99 = .ok (.istore_n 1, 1) := by decide +kernel
theorem dX8_findWaiting_100 : decode cX8_findWaiting 100 = .ok (.goto (-58), 3) := by decide +kernel
theorem dX8_findWaiting_103 : decode cX8_findWaiting 103 = .ok (.iconst 0, 1) := by decide +kernel
theorem dX8_findWaiting_104 : decode cX8_findWaiting 104 = .ok (.istore_n 2, 1) := by decide +kernel
theorem dX8_findWaiting_105 : decode cX8_findWaiting 105 = .ok (.iload_n 2, 1) := by decide +kernel
theorem dX8_findWaiting_106 : decode cX8_findWaiting 106 = .ok (.aload_n 0, 1) := by decide +kernel
theorem dX8_findWaiting_107 : decode cX8_findWaiting 107 = .ok (.getfield 96, 3) := by decide +kernel
theorem dX8_findWaiting_110 : decode cX8_findWaiting 110 = .ok (.if_icmp .ge 78, 3) := by decide +kernel
theorem dX8_findWaiting_113 : decode cX8_findWaiting 113 = .ok (.aload_n 0, 1) := by decide +kernel
theorem dX8_findWaiting_114 : decode cX8_findWaiting 114 = .ok (.getfield 29, 3) := by decide +kernel
theorem dX8_findWaiting_117 : decode cX8_findWaiting 117 = .ok (.iload_n 2, 1) := by decide +kernel
theorem dX8_findWaiting_118 : decode cX8_findWaiting 118 = .ok (.iaload, 1) := by decide +kernel
theorem dX8_findWaiting_119 : decode cX8_findWaiting 119 = .ok (.istore_n 3, 1) := by decide +kernel
theorem dX8_findWaiting_120 : decode cX8_findWaiting 120 = .ok (.aload_n 0, 1) := by decide +kernel
theorem dX8_findWaiting_121 : decode cX8_findWaiting 121 = .ok (.getfield 32, 3) := by decide +kernel
theorem dX8_findWaiting_124 : decode cX8_findWaiting 124 = .ok (.iload_n 3, 1) := by decide +kernel
theorem dX8_findWaiting_125 : decode cX8_findWaiting 125 = .ok (.iconst 0, 1) := by decide +kernel
theorem dX8_findWaiting_126 : decode cX8_findWaiting 126 = .ok (.bastore, 1) := by decide +kernel
theorem dX8_findWaiting_127 : decode cX8_findWaiting 127 = .ok (.aload_n 0, 1) := by decide +kernel
theorem dX8_findWaiting_128 : decode cX8_findWaiting 128 = .ok (.getfield 26, 3) := by decide +kernel
theorem dX8_findWaiting_131 : decode cX8_findWaiting 131 = .ok (.iload_n 3, 1) := by decide +kernel
theorem dX8_findWaiting_132 : decode cX8_findWaiting 132 = .ok (.aload_n 0, 1) := by decide +kernel
theorem dX8_findWaiting_133 : decode cX8_findWaiting 133 = .ok (.iload_n 3, 1) := by decide +kernel
theorem dX8_findWaiting_134 : decode cX8_findWaiting 134 = .ok (.invokevirtual 90, 3) := by decide +kernel
theorem dX8_findWaiting_137 : decode cX8_findWaiting 137 = .ok (.iconst 1, 1) := by decide +kernel
theorem dX8_findWaiting_138 : decode cX8_findWaiting 138 = .ok (.iconst 3, 1) := by decide +kernel
theorem dX8_findWaiting_139 : decode cX8_findWaiting 139 = .ok (.invokestatic 42, 3) := by decide +kernel
theorem dX8_findWaiting_142 : decode cX8_findWaiting 142 = .ok (.ifCond .eq 38, 3) := by decide +kernel
theorem dX8_findWaiting_145 : decode cX8_findWaiting 145 = .ok (.aload_n 0, 1) := by decide +kernel
theorem dX8_findWaiting_146 : decode cX8_findWaiting 146 = .ok (.iload_n 3, 1) := by decide +kernel
theorem dX8_findWaiting_147 : decode cX8_findWaiting 147 = .ok (.invokevirtual 90, 3) := by decide +kernel
theorem dX8_findWaiting_150 : decode cX8_findWaiting 150 = .ok (.iconst 2, 1) := by decide +kernel
theorem dX8_findWaiting_151 : decode cX8_findWaiting 151 = .ok (.if_icmp .eq 29, 3) := by decide +kernel
theorem dX8_findWaiting_154 : decode cX8_findWaiting 154 = .ok (.aload_n 0, 1) := by decide +kernel
theorem dX8_findWaiting_155 : decode cX8_findWaiting 155 = .ok (.getfield 7, 3) := by decide +kernel
theorem dX8_findWaiting_158 : decode cX8_findWaiting 158 = .ok (.bipush 47, 2) := by decide +kernel
theorem dX8_findWaiting_160 : decode cX8_findWaiting 160 = .ok (.iload_n 3, 1) := by decide +kernel
theorem dX8_findWaiting_161 : decode cX8_findWaiting 161 = .ok (.imul, 1) := by decide +kernel
theorem dX8_findWaiting_162 : decode cX8_findWaiting 162 = .ok (.iconst 2, 1) := by decide +kernel
theorem dX8_findWaiting_163 : decode cX8_findWaiting 163 = .ok (.iadd, 1) := by decide +kernel
theorem dX8_findWaiting_164 : decode cX8_findWaiting 164 = .ok (.iaload, 1) := by decide +kernel
theorem dX8_findWaiting_165 : decode cX8_findWaiting 165 = .ok (.ifCond .ne 15, 3) := by decide +kernel
theorem dX8_findWaiting_168 : decode cX8_findWaiting 168 = .ok (.aload_n 0, 1) := by decide +kernel
theorem dX8_findWaiting_169 : decode cX8_findWaiting 169 = .ok (.iload_n 3, 1) := by decide +kernel
theorem dX8_findWaiting_170 : decode cX8_findWaiting 170 = .ok (.invokevirtual 99, 3) := by decide +kernel
theorem dX8_findWaiting_173 : decode cX8_findWaiting 173 = .ok (.ifCond .ne 7, 3) := by decide +kernel
theorem dX8_findWaiting_176 : decode cX8_findWaiting 176 = .ok (.iconst 1, 1) := by decide +kernel
theorem dX8_findWaiting_177 : decode cX8_findWaiting 177 = .ok (.goto 4, 3) := by decide +kernel
theorem dX8_findWaiting_180 : decode cX8_findWaiting 180 = .ok (.iconst 0, 1) := by decide +kernel
theorem dX8_findWaiting_181 : decode cX8_findWaiting 181 = .ok (.bastore, 1) := by decide +kernel
theorem dX8_findWaiting_182 : decode cX8_findWaiting 182 = .ok (.iinc 2 1, 3) := by decide +kernel
theorem dX8_findWaiting_185 : decode cX8_findWaiting 185 = .ok (.goto (-80), 3) := by decide +kernel
theorem dX8_findWaiting_188 : decode cX8_findWaiting 188 = .ok (.return_, 1) := by decide +kernel
set_option maxRecDepth 20000 in
theorem ggX8_dropEntries_X8_entryAt : GoodIn wsX8_dropEntries wsX8_entryAt := goodIn_r _ [5] (by decide +kernel) (by decide +kernel)
set_option maxRecDepth 20000 in
theorem gX8_dropEntries_X8_entryAt : GoodIn wsX8_dropEntries (va_wsS RX8 58 yX8_entryAt wsX8_entryAt) := goodIn_app (goodIn_of _ (by decide +kernel)) ggX8_dropEntries_X8_entryAt
set_option maxRecDepth 20000 in
theorem ggX8_dropEntries_X8_put : GoodIn wsX8_dropEntries wsX8_put := goodIn_r _ [9, 1, 14, 15, 16, 17, 18, 19, 20, 21, 22, 23] (by decide +kernel) (by decide +kernel)
set_option maxRecDepth 20000 in
theorem gX8_dropEntries_X8_put : GoodIn wsX8_dropEntries (wsV RX8 54 RX8 yX8_put wsX8_put) := goodIn_app (goodIn_of _ (by decide +kernel)) ggX8_dropEntries_X8_put
set_option maxRecDepth 20000 in
theorem ggX8_dropEntries_X8_blank : GoodIn wsX8_dropEntries wsX8_blank := goodIn_r _ [13, 1, 14, 15, 16, 17, 18, 19, 20, 21, 22, 23] (by decide +kernel) (by decide +kernel)
set_option maxRecDepth 20000 in
theorem gX8_dropEntries_X8_blank : GoodIn wsX8_dropEntries (wsV RX8 65 RX8 yX8_blank wsX8_blank) := goodIn_app (goodIn_of _ (by decide +kernel)) ggX8_dropEntries_X8_blank
theorem dX8_dropEntries_0 : decode cX8_dropEntries 0 = .ok (.iconst 1, 1) := by decide +kernel
theorem dX8_dropEntries_1 : decode cX8_dropEntries 1 = .ok (.istore_n 2, 1) := by decide +kernel
theorem dX8_dropEntries_2 : decode cX8_dropEntries 2 = .ok (.iload_n 2, 1) := by decide +kernel
theorem dX8_dropEntries_3 : decode cX8_dropEntries 3 = .ok (.bipush 24, 2) := by decide +kernel
theorem dX8_dropEntries_5 : decode cX8_dropEntries 5 = .ok (.if_icmp .gt 110, 3) := by decide +kernel
theorem dX8_dropEntries_8 : decode cX8_dropEntries 8 = .ok (.iconst 0, 1) := by decide +kernel
theorem dX8_dropEntries_9 : decode cX8_dropEntries 9 = .ok (.istore_n 3, 1) := by decide +kernel
theorem dX8_dropEntries_10 : decode cX8_dropEntries 10 = .ok (.iconst 0, 1) := by decide +kernel
theorem dX8_dropEntries_11 : decode cX8_dropEntries 11 = .ok (.istore 4, 2) := by decide +kernel
theorem dX8_dropEntries_13 : decode cX8_dropEntries 13 = .ok (.iload 4, 2) := by decide +kernel
theorem dX8_dropEntries_15 : decode cX8_dropEntries 15 = .ok (.bipush 8, 2) := by decide +kernel
theorem dX8_dropEntries_17 : decode cX8_dropEntries 17 = .ok (.if_icmp .ge 77, 3) := by decide +kernel
theorem dX8_dropEntries_20 : decode cX8_dropEntries 20 = .ok (.iload_n 2, 1) := by decide +kernel
theorem dX8_dropEntries_21 : decode cX8_dropEntries 21 = .ok (.iload 4, 2) := by decide +kernel
theorem dX8_dropEntries_23 : decode cX8_dropEntries 23 = .ok (.invokestatic 58, 3) := by decide +kernel
theorem dX8_dropEntries_26 : decode cX8_dropEntries 26 = .ok (.istore 5, 2) := by decide +kernel
theorem dX8_dropEntries_28 : decode cX8_dropEntries 28 = .ok (.aload_n 0, 1) := by decide +kernel
theorem dX8_dropEntries_29 : decode cX8_dropEntries 29 = .ok (.getfield 7, 3) := by decide +kernel
theorem dX8_dropEntries_32 : decode cX8_dropEntries 32 = .ok (.iload 5, 2) := by decide +kernel
theorem dX8_dropEntries_34 : decode cX8_dropEntries 34 = .ok (.iaload, 1) := by decide +kernel
theorem dX8_dropEntries_35 : decode cX8_dropEntries 35 = .ok (.ifCond .eq 53, 3) := by decide +kernel
theorem dX8_dropEntries_38 : decode cX8_dropEntries 38 = .ok (.aload_n 0, 1) := by decide +kernel
theorem dX8_dropEntries_39 : decode cX8_dropEntries 39 = .ok (.getfield 7, 3) := by decide +kernel
theorem dX8_dropEntries_42 : decode cX8_dropEntries 42 = .ok (.iload 5, 2) := by decide +kernel
theorem dX8_dropEntries_44 : decode cX8_dropEntries 44 = .ok (.iconst 1, 1) := by decide +kernel
theorem dX8_dropEntries_45 : decode cX8_dropEntries 45 = .ok (.iadd, 1) := by decide +kernel
theorem dX8_dropEntries_46 : decode cX8_dropEntries 46 = .ok (.iaload, 1) := by decide +kernel
theorem dX8_dropEntries_47 : decode cX8_dropEntries 47 = .ok (.iload_n 1, 1) := by decide +kernel
theorem dX8_dropEntries_48 : decode cX8_dropEntries 48 = .ok (.if_icmp .eq 40, 3) := by decide +kernel
theorem dX8_dropEntries_51 : decode cX8_dropEntries 51 = .ok (.aload_n 0, 1) := by decide +kernel
theorem dX8_dropEntries_52 : decode cX8_dropEntries 52 = .ok (.iload_n 2, 1) := by decide +kernel
theorem dX8_dropEntries_53 : decode cX8_dropEntries 53 = .ok (.iload_n 3, 1) := by decide +kernel
theorem dX8_dropEntries_54 : decode cX8_dropEntries 54 = .ok (.invokestatic 58, 3) := by decide +kernel
theorem dX8_dropEntries_57 : decode cX8_dropEntries 57 = .ok (.aload_n 0, 1) := by decide +kernel
theorem dX8_dropEntries_58 : decode cX8_dropEntries 58 = .ok (.getfield 7, 3) := by decide +kernel
theorem dX8_dropEntries_61 : decode cX8_dropEntries 61 = .ok (.iload 5, 2) := by decide +kernel
theorem dX8_dropEntries_63 : decode cX8_dropEntries 63 = .ok (.iaload, 1) := by decide +kernel
theorem dX8_dropEntries_64 : decode cX8_dropEntries 64 = .ok (.aload_n 0, 1) := by decide +kernel
theorem dX8_dropEntries_65 : decode cX8_dropEntries 65 = .ok (.getfield 7, 3) := by decide +kernel
theorem dX8_dropEntries_68 : decode cX8_dropEntries 68 = .ok (.iload 5, 2) := by decide +kernel
theorem dX8_dropEntries_70 : decode cX8_dropEntries 70 = .ok (.iconst 1, 1) := by decide +kernel
theorem dX8_dropEntries_71 : decode cX8_dropEntries 71 = .ok (.iadd, 1) := by decide +kernel
theorem dX8_dropEntries_72 : decode cX8_dropEntries 72 = .ok (.iaload, 1) := by decide +kernel
theorem dX8_dropEntries_73 : decode cX8_dropEntries 73 = .ok (.aload_n 0, 1) := by decide +kernel
theorem dX8_dropEntries_74 : decode cX8_dropEntries 74 = .ok (.getfield 7, 3) := by decide +kernel
theorem dX8_dropEntries_77 : decode cX8_dropEntries 77 = .ok (.iload 5, 2) := by decide +kernel
theorem dX8_dropEntries_79 : decode cX8_dropEntries 79 = .ok (.iconst 2, 1) := by decide +kernel
theorem dX8_dropEntries_80 : decode cX8_dropEntries 80 = .ok (.iadd, 1) := by decide +kernel
theorem dX8_dropEntries_81 : decode cX8_dropEntries 81 = .ok (.iaload, 1) := by decide +kernel
theorem dX8_dropEntries_82 : decode cX8_dropEntries 82 = .ok (.invokevirtual 54, 3) := by decide +kernel
theorem dX8_dropEntries_85 : decode cX8_dropEntries 85 = .ok (.iinc 3 1, 3) := by decide +kernel
theorem dX8_dropEntries_88 : decode cX8_dropEntries 88 = .ok (.iinc 4 1, 3) := by decide +kernel
theorem dX8_dropEntries_91 : decode cX8_dropEntries 91 = .ok (.goto (-78), 3) := by decide +kernel
theorem dX8_dropEntries_94 : decode cX8_dropEntries 94 = .ok (.aload_n 0, 1) := by decide +kernel
theorem dX8_dropEntries_95 : decode cX8_dropEntries 95 = .ok (.iload_n 2, 1) := by decide +kernel
theorem dX8_dropEntries_96 : decode cX8_dropEntries 96 = .ok (.iload_n 3, 1) := by decide +kernel
theorem dX8_dropEntries_97 : decode cX8_dropEntries 97 = .ok (.invokestatic 58, 3) := by decide +kernel
theorem dX8_dropEntries_100 : decode cX8_dropEntries 100 = .ok (.iload_n 2, 1) := by decide +kernel
theorem dX8_dropEntries_101 : decode cX8_dropEntries 101 = .ok (.bipush 8, 2) := by decide +kernel
theorem dX8_dropEntries_103 : decode cX8_dropEntries 103 = .ok (.invokestatic 58, 3) := by decide +kernel
theorem dX8_dropEntries_106 : decode cX8_dropEntries 106 = .ok (.invokevirtual 65, 3) := by decide +kernel
theorem dX8_dropEntries_109 : decode cX8_dropEntries 109 = .ok (.iinc 2 1, 3) := by decide +kernel
theorem dX8_dropEntries_112 : decode cX8_dropEntries 112 = .ok (.goto (-110), 3) := by decide +kernel
theorem dX8_dropEntries_115 : decode cX8_dropEntries 115 = .ok (.return_, 1) := by decide +kernel
set_option maxRecDepth 20000 in
theorem ggX8_hang_X8_dropEntries : GoodIn wsX8_hang wsX8_dropEntries := goodIn_r _ [6, 1, 7, 8, 5, 9, 10, 11, 12, 13, 14, 15, 16, 17, 30, 31, 32, 33, 34, 35, 36, 37, 38, 39] (by decide +kernel) (by decide +kernel)
set_option maxRecDepth 20000 in
theorem gX8_hang_X8_dropEntries : GoodIn wsX8_hang (wsV RX8 102 RX8 yX8_dropEntries wsX8_dropEntries) := goodIn_app (goodIn_of _ (by decide +kernel)) ggX8_hang_X8_dropEntries
set_option maxRecDepth 20000 in
theorem ggX8_hang_X8_entryAt : GoodIn wsX8_hang wsX8_entryAt := goodIn_r _ [9] (by decide +kernel) (by decide +kernel)
set_option maxRecDepth 20000 in
theorem gX8_hang_X8_entryAt : GoodIn wsX8_hang (va_wsS RX8 58 yX8_entryAt wsX8_entryAt) := goodIn_app (goodIn_of _ (by decide +kernel)) ggX8_hang_X8_entryAt
set_option maxRecDepth 20000 in
theorem ggX8_hang_X8_dropRecord : GoodIn wsX8_hang wsX8_dropRecord := goodIn_r _ [21, 14, 15, 16, 5, 17, 1, 30, 31, 32, 33, 34, 35, 36, 37, 38, 39] (by decide +kernel) (by decide +kernel)
set_option maxRecDepth 20000 in
theorem gX8_hang_X8_dropRecord : GoodIn wsX8_hang (wsV RX8 75 RX8 yX8_dropRecord wsX8_dropRecord) := goodIn_app (goodIn_of _ (by decide +kernel)) ggX8_hang_X8_dropRecord
set_option maxRecDepth 20000 in
theorem ggX8_hang_X8_hasName : GoodIn wsX8_hang wsX8_hasName := goodIn_r _ [25, 1, 7, 8, 5, 9, 30, 31, 32, 33, 34, 35, 36, 37, 38, 39] (by decide +kernel) (by decide +kernel)
set_option maxRecDepth 20000 in
theorem gX8_hang_X8_hasName : GoodIn wsX8_hang (wsV RX8 93 RX8 yX8_hasName wsX8_hasName) := goodIn_app (goodIn_of _ (by decide +kernel)) ggX8_hang_X8_hasName
set_option maxRecDepth 20000 in
theorem ggX8_hang_X8_kindOf : GoodIn wsX8_hang wsX8_kindOf := goodIn_r _ [29, 1, 30, 31, 32, 33, 34, 35, 36, 37, 38, 39] (by decide +kernel) (by decide +kernel)
set_option maxRecDepth 20000 in
theorem gX8_hang_X8_kindOf : GoodIn wsX8_hang (wsV RX8 90 RX8 yX8_kindOf wsX8_kindOf) := goodIn_app (goodIn_of _ (by decide +kernel)) ggX8_hang_X8_kindOf
set_option maxRecDepth 20000 in
theorem ggX8_hang_X8_put : GoodIn wsX8_hang wsX8_put := goodIn_r _ [13, 1, 30, 31, 32, 33, 34, 35, 36, 37, 38, 39] (by decide +kernel) (by decide +kernel)
set_option maxRecDepth 20000 in
theorem gX8_hang_X8_put : GoodIn wsX8_hang (wsV RX8 54 RX8 yX8_put wsX8_put) := goodIn_app (goodIn_of _ (by decide +kernel)) ggX8_hang_X8_put
theorem dX8_hang_0 : decode cX8_hang 0 = .ok (.aload_n 0, 1) := by decide +kernel
theorem dX8_hang_1 : decode cX8_hang 1 = .ok (.iload_n 1, 1) := by decide +kernel
theorem dX8_hang_2 : decode cX8_hang 2 = .ok (.invokevirtual 102, 3) := by decide +kernel
theorem dX8_hang_5 : decode cX8_hang 5 = .ok (.iconst 0, 1) := by decide +kernel
theorem dX8_hang_6 : decode cX8_hang 6 = .ok (.istore_n 2, 1) := by decide +kernel
theorem dX8_hang_7 : decode cX8_hang 7 = .ok (.iload_n 2, 1) := by decide +kernel
theorem dX8_hang_8 : decode cX8_hang 8 = .ok (.bipush 8, 2) := by decide +kernel
theorem dX8_hang_10 : decode cX8_hang 10 = .ok (.if_icmp .ge 22, 3) := by decide +kernel
theorem dX8_hang_13 : decode cX8_hang 13 = .ok (.aload_n 0, 1) := by decide +kernel
theorem dX8_hang_14 : decode cX8_hang 14 = .ok (.getfield 7, 3) := by decide +kernel
theorem dX8_hang_17 : decode cX8_hang 17 = .ok (.iconst 1, 1) := by decide +kernel
theorem dX8_hang_18 : decode cX8_hang 18 = .ok (.iload_n 2, 1) := by decide +kernel
theorem dX8_hang_19 : decode cX8_hang 19 = .ok (.invokestatic 58, 3) := by decide +kernel
theorem dX8_hang_22 : decode cX8_hang 22 = .ok (.iaload, 1) := by decide +kernel
theorem dX8_hang_23 : decode cX8_hang 23 = .ok (.ifCond .eq 9, 3) := by decide +kernel
theorem dX8_hang_26 : decode cX8_hang 26 = .ok (.iinc 2 1, 3) := by decide +kernel
theorem dX8_hang_29 : decode cX8_hang 29 = .ok (.goto (-22), 3) := by decide +kernel
theorem dX8_hang_32 : decode cX8_hang 32 = .ok (.iload_n 2, 1) := by decide +kernel
theorem dX8_hang_33 : decode cX8_hang 33 = .ok (.bipush 8, 2) := by decide +kernel
theorem dX8_hang_35 : decode cX8_hang 35 = .ok (.if_icmp .ne 9, 3) := by decide +kernel
theorem dX8_hang_38 : decode cX8_hang 38 = .ok (.aload_n 0, 1) := by decide +kernel
theorem dX8_hang_39 : decode cX8_hang 39 = .ok (.iload_n 1, 1) := by decide +kernel
theorem dX8_hang_40 : decode cX8_hang 40 = .ok (.invokevirtual 75, 3) := by decide +kernel
theorem dX8_hang_43 : decode cX8_hang 43 = .ok (.return_, 1) := by decide +kernel
theorem dX8_hang_44 : decode cX8_hang 44 = .ok (.iconst 1, 1) := by decide +kernel
theorem dX8_hang_45 : decode cX8_hang 45 = .ok (.istore_n 3, 1) := by decide +kernel
theorem dX8_hang_46 : decode cX8_hang 46 = .ok (.aload_n 0, 1) := by decide +kernel
theorem dX8_hang_47 : decode cX8_hang 47 = .ok (.iconst 1, 1) := by decide +kernel
theorem dX8_hang_48 : decode cX8_hang 48 = .ok (.iload_n 2, 1) := by decide +kernel
theorem dX8_hang_49 : decode cX8_hang 49 = .ok (.iload_n 3, 1) := by decide +kernel
theorem dX8_hang_50 : decode cX8_hang 50 = .ok (.invokevirtual 93, 3) := by decide +kernel
theorem dX8_hang_53 : decode cX8_hang 53 = .ok (.ifCond .eq 9, 3) := by decide +kernel
theorem dX8_hang_56 : decode cX8_hang 56 = .ok (.iinc 3 1, 3) := by decide +kernel
theorem dX8_hang_59 : decode cX8_hang 59 = .ok (.goto (-13), 3) := by decide +kernel
theorem dX8_hang_62 : decode cX8_hang 62 = .ok (.aload_n 0, 1) := by decide +kernel
theorem dX8_hang_63 : decode cX8_hang 63 = .ok (.iconst 1, 1) := by decide +kernel
theorem dX8_hang_64 : decode cX8_hang 64 = .ok (.iload_n 2, 1) := by decide +kernel
theorem dX8_hang_65 : decode cX8_hang 65 = .ok (.invokestatic 58, 3) := by decide +kernel
theorem dX8_hang_68 : decode cX8_hang 68 = .ok (.iload_n 3, 1) := by decide +kernel
theorem dX8_hang_69 : decode cX8_hang 69 = .ok (.iload_n 1, 1) := by decide +kernel
theorem dX8_hang_70 : decode cX8_hang 70 = .ok (.aload_n 0, 1) := by decide +kernel
theorem dX8_hang_71 : decode cX8_hang 71 = .ok (.iload_n 1, 1) := by decide +kernel
theorem dX8_hang_72 : decode cX8_hang 72 = .ok (.invokevirtual 90, 3) := by decide +kernel
theorem dX8_hang_75 : decode cX8_hang 75 = .ok (.invokevirtual 54, 3) := by decide +kernel
theorem dX8_hang_78 : decode cX8_hang 78 = .ok (.return_, 1) := by decide +kernel
set_option maxRecDepth 20000 in
theorem ggX8_checkHanging_X8_findWaiting : GoodIn wsX8_checkHanging wsX8_findWaiting := goodIn_r _ [9, 2, 4, 10, 11, 12, 13, 14, 8, 15, 16, 17, 18, 19, 20, 21, 22, 23, 24, 25, 26, 55, 56, 57, 58, 59, 60, 61, 62, 63, 64] (by decide +kernel) (by decide +kernel)
set_option maxRecDepth 20000 in
theorem gX8_checkHanging_X8_findWaiting : GoodIn wsX8_checkHanging (wsV RX8 105 RX8 yX8_findWaiting wsX8_findWaiting) := goodIn_app (goodIn_of _ (by decide +kernel)) ggX8_checkHanging_X8_findWaiting
set_option maxRecDepth 20000 in
theorem ggX8_checkHanging_X8_findReached : GoodIn wsX8_checkHanging wsX8_findReached := goodIn_r _ [30, 1, 11, 16, 17, 18, 8, 19, 24, 25, 26, 55, 56, 57, 58, 59, 60, 61, 62, 63, 64] (by decide +kernel) (by decide +kernel)
set_option maxRecDepth 20000 in
theorem gX8_checkHanging_X8_findReached : GoodIn wsX8_checkHanging (wsV RX8 108 RX8 yX8_findReached wsX8_findReached) := goodIn_app (goodIn_of _ (by decide +kernel)) ggX8_checkHanging_X8_findReached
set_option maxRecDepth 20000 in
theorem ggX8_checkHanging_X8_kindOf : GoodIn wsX8_checkHanging wsX8_kindOf := goodIn_r _ [19, 11, 55, 56, 57, 58, 59, 60, 61, 62, 63, 64] (by decide +kernel) (by decide +kernel)
set_option maxRecDepth 20000 in
theorem gX8_checkHanging_X8_kindOf : GoodIn wsX8_checkHanging (wsV RX8 90 RX8 yX8_kindOf wsX8_kindOf) := goodIn_app (goodIn_of _ (by decide +kernel)) ggX8_checkHanging_X8_kindOf
set_option maxRecDepth 20000 in
theorem ggX8_checkHanging_X8_hang : GoodIn wsX8_checkHanging wsX8_hang := goodIn_r _ [34, 11, 35, 36, 37, 8, 38, 24, 25, 26, 39, 40, 41, 42, 43, 44, 45, 46, 47, 48, 49, 50, 51, 52, 53, 54, 16, 17, 18, 19, 55, 56, 57, 58, 59, 60, 61, 62, 63, 64] (by decide +kernel) (by decide +kernel)
set_option maxRecDepth 20000 in
theorem gX8_checkHanging_X8_hang : GoodIn wsX8_checkHanging (wsV RX8 111 RX8 yX8_hang wsX8_hang) := goodIn_app (goodIn_of _ (by decide +kernel)) ggX8_checkHanging_X8_hang
set_option maxRecDepth 20000 in
theorem ggX8_checkHanging_X8_dropRecord : GoodIn wsX8_checkHanging wsX8_dropRecord := goodIn_r _ [50, 43, 44, 45, 8, 46, 11, 55, 56, 57, 58, 59, 60, 61, 62, 63, 64] (by decide +kernel) (by decide +kernel)
set_option maxRecDepth 20000 in
theorem gX8_checkHanging_X8_dropRecord : GoodIn wsX8_checkHanging (wsV RX8 75 RX8 yX8_dropRecord wsX8_dropRecord) := goodIn_app (goodIn_of _ (by decide +kernel)) ggX8_checkHanging_X8_dropRecord
theorem dX8_checkHanging_0 : decode cX8_checkHanging 0 = .ok (.aload_n 0, 1) := by decide +kernel
theorem dX8_checkHanging_1 : decode cX8_checkHanging 1 = .ok (.invokevirtual 105, 3) := by decide +kernel
theorem dX8_checkHanging_4 : decode cX8_checkHanging 4 = .ok (.iconst 1, 1) := by decide +kernel
theorem dX8_checkHanging_5 : decode cX8_checkHanging 5 = .ok (.istore_n 1, 1) := by decide +kernel
theorem dX8_checkHanging_6 : decode cX8_checkHanging 6 = .ok (.iload_n 1, 1) := by decide +kernel
theorem dX8_checkHanging_7 : decode cX8_checkHanging 7 = .ok (.bipush 24, 2) := by decide +kernel
theorem dX8_checkHanging_9 : decode cX8_checkHanging 9 = .ok (.if_icmp .gt 74, 3) := by decide +kernel
theorem dX8_checkHanging_12 : decode cX8_checkHanging 12 = .ok (.aload_n 0, 1) := by decide +kernel
theorem dX8_checkHanging_13 : decode cX8_checkHanging 13 = .ok (.invokevirtual 108, 3) := by decide +kernel
theorem dX8_checkHanging_16 : decode cX8_checkHanging 16 = .ok (.aload_n 0, 1) := by decide +kernel
theorem dX8_checkHanging_17 : decode cX8_checkHanging 17 = .ok (.iload_n 1, 1) := by decide +kernel
theorem dX8_checkHanging_18 : decode cX8_checkHanging 18 = .ok (.invokevirtual 90, 3) := by decide +kernel
theorem dX8_checkHanging_21 : decode cX8_checkHanging 21 = .ok (.ifCond .eq 56, 3) := by decide +kernel
theorem dX8_checkHanging_24 : decode cX8_checkHanging 24 = .ok (.aload_n 0, 1) := by decide +kernel
theorem dX8_checkHanging_25 : decode cX8_checkHanging 25 = .ok (.getfield 23, 3) := by decide +kernel
theorem dX8_checkHanging_28 : decode cX8_checkHanging 28 = .ok (.iload_n 1, 1) := by decide +kernel
theorem dX8_checkHanging_29 : decode cX8_checkHanging 29 = .ok (.baload, 1) := by decide +kernel
theorem dX8_checkHanging_30 : decode cX8_checkHanging 30 = .ok (.ifCond .eq 6, 3) := by decide +kernel
theorem dX8_checkHanging_33 : decode cX8_checkHanging 33 = .ok (.goto 44, 3) := by decide +kernel
theorem dX8_checkHanging_36 : decode cX8_checkHanging 36 = .ok (.aload_n 0, 1) := by decide +kernel
theorem dX8_checkHanging_37 : decode cX8_checkHanging 37 = .ok (.getfield 26, 3) := by decide +kernel
theorem dX8_checkHanging_40 : decode cX8_checkHanging 40 = .ok (.iload_n 1, 1) := by decide +kernel
theorem dX8_checkHanging_41 : decode cX8_checkHanging 41 = .ok (.baload, 1) := by decide +kernel
theorem dX8_checkHanging_42 : decode cX8_checkHanging 42 = .ok (.ifCond .ne 11, 3) := by decide +kernel
theorem dX8_checkHanging_45 : decode cX8_checkHanging 45 = .ok (.aload_n 0, 1) := by decide +kernel
theorem dX8_checkHanging_46 : decode cX8_checkHanging 46 = .ok (.iload_n 1, 1) := by decide +kernel
theorem dX8_checkHanging_47 : decode cX8_checkHanging 47 = .ok (.invokevirtual 111, 3) := by decide +kernel
theorem dX8_checkHanging_50 : decode cX8_checkHanging 50 = .ok (.goto 27, 3) := by decide +kernel
theorem dX8_checkHanging_53 : decode cX8_checkHanging 53 = .ok (.aload_n 0, 1) := by decide +kernel
theorem dX8_checkHanging_54 : decode cX8_checkHanging 54 = .ok (.getfield 16, 3) := by decide +kernel
theorem dX8_checkHanging_57 : decode cX8_checkHanging 57 = .ok (.iload_n 1, 1) := by decide +kernel
theorem dX8_checkHanging_58 : decode cX8_checkHanging 58 = .ok (.baload, 1) := by decide +kernel
theorem dX8_checkHanging_59 : decode cX8_checkHanging 59 = .ok (.ifCond .eq 13, 3) := by decide +kernel
theorem dX8_checkHanging_62 : decode cX8_checkHanging 62 = .ok (.aload_n 0, 1) := by decide +kernel
theorem dX8_checkHanging_63 : decode cX8_checkHanging 63 = .ok (.getfield 32, 3) := by decide +kernel
theorem dX8_checkHanging_66 : decode cX8_checkHanging 66 = .ok (.iload_n 1, 1) := by decide +kernel
theorem dX8_checkHanging_67 : decode cX8_checkHanging 67 = .ok (.iconst 1, 1) := by decide +kernel
theorem dX8_checkHanging_68 : decode cX8_checkHanging 68 = .ok (.bastore, 1) := by decide +kernel
theorem dX8_checkHanging_69 : decode cX8_checkHanging 69 = .ok (.goto 8, 3) := by decide +kernel
theorem dX8_checkHanging_72 : decode cX8_checkHanging 72 = .ok (.aload_n 0, 1) := by decide +kernel
theorem dX8_checkHanging_73 : decode cX8_checkHanging 73 = .ok (.iload_n 1, 1) := by decide +kernel
theorem dX8_checkHanging_74 : decode cX8_checkHanging 74 = .ok (.invokevirtual 75, 3) := by decide +kernel
theorem dX8_checkHanging_77 : decode cX8_checkHanging 77 = .ok (.iinc 1 1, 3) := by decide +kernel
theorem dX8_checkHanging_80 : decode cX8_checkHanging 80 = .ok (.goto (-74), 3) := by decide +kernel
theorem dX8_checkHanging_83 : decode cX8_checkHanging 83 = .ok (.return_, 1) := by decide +kernel
set_option maxRecDepth 20000 in
theorem ggX8_foldersIn_X8_entryAt : GoodIn wsX8_foldersIn wsX8_entryAt := goodIn_r _ [5] (by decide +kernel) (by decide +kernel)
set_option maxRecDepth 20000 in
theorem gX8_foldersIn_X8_entryAt : GoodIn wsX8_foldersIn (va_wsS RX8 58 yX8_entryAt wsX8_entryAt) := goodIn_app (goodIn_of _ (by decide +kernel)) ggX8_foldersIn_X8_entryAt
set_option maxRecDepth 20000 in
theorem ggX8_foldersIn_X8_kindOf : GoodIn wsX8_foldersIn wsX8_kindOf := goodIn_r _ [9, 1, 10, 11, 12, 13, 14, 15, 16, 17, 18, 19] (by decide +kernel) (by decide +kernel)
set_option maxRecDepth 20000 in
theorem gX8_foldersIn_X8_kindOf : GoodIn wsX8_foldersIn (wsV RX8 90 RX8 yX8_kindOf wsX8_kindOf) := goodIn_app (goodIn_of _ (by decide +kernel)) ggX8_foldersIn_X8_kindOf
theorem dX8_foldersIn_0 : decode cX8_foldersIn 0 = .ok (.iconst 0, 1) := by decide +kernel
theorem dX8_foldersIn_1 : decode cX8_foldersIn 1 = .ok (.istore_n 2, 1) := by decide +kernel
theorem dX8_foldersIn_2 : decode cX8_foldersIn 2 = .ok (.iconst 0, 1) := by decide +kernel
theorem dX8_foldersIn_3 : decode cX8_foldersIn 3 = .ok (.istore_n 3, 1) := by decide +kernel
theorem dX8_foldersIn_4 : decode cX8_foldersIn 4 = .ok (.iload_n 3, 1) := by decide +kernel
theorem dX8_foldersIn_5 : decode cX8_foldersIn 5 = .ok (.bipush 8, 2) := by decide +kernel
theorem dX8_foldersIn_7 : decode cX8_foldersIn 7 = .ok (.if_icmp .ge 50, 3) := by decide +kernel
theorem dX8_foldersIn_10 : decode cX8_foldersIn 10 = .ok (.iload_n 2, 1) := by decide +kernel
theorem dX8_foldersIn_11 : decode cX8_foldersIn 11 = .ok (.aload_n 0, 1) := by decide +kernel
theorem dX8_foldersIn_12 : decode cX8_foldersIn 12 = .ok (.getfield 7, 3) := by decide +kernel
theorem dX8_foldersIn_15 : decode cX8_foldersIn 15 = .ok (.iload_n 1, 1) := by decide +kernel
theorem dX8_foldersIn_16 : decode cX8_foldersIn 16 = .ok (.iload_n 3, 1) := by decide +kernel
theorem dX8_foldersIn_17 : decode cX8_foldersIn 17 = .ok (.invokestatic 58, 3) := by decide +kernel
theorem dX8_foldersIn_20 : decode cX8_foldersIn 20 = .ok (.iaload, 1) := by decide +kernel
theorem dX8_foldersIn_21 : decode cX8_foldersIn 21 = .ok (.ifCond .eq 27, 3) := by decide +kernel
theorem dX8_foldersIn_24 : decode cX8_foldersIn 24 = .ok (.aload_n 0, 1) := by decide +kernel
theorem dX8_foldersIn_25 : decode cX8_foldersIn 25 = .ok (.aload_n 0, 1) := by decide +kernel
theorem dX8_foldersIn_26 : decode cX8_foldersIn 26 = .ok (.getfield 7, 3) := by decide +kernel
theorem dX8_foldersIn_29 : decode cX8_foldersIn 29 = .ok (.iload_n 1, 1) := by decide +kernel
theorem dX8_foldersIn_30 : decode cX8_foldersIn 30 = .ok (.iload_n 3, 1) := by decide +kernel
theorem dX8_foldersIn_31 : decode cX8_foldersIn 31 = .ok (.invokestatic 58, 3) := by decide +kernel
theorem dX8_foldersIn_34 : decode cX8_foldersIn 34 = .ok (.iconst 1, 1) := by decide +kernel
theorem dX8_foldersIn_35 : decode cX8_foldersIn 35 = .ok (.iadd, 1) := by decide +kernel
theorem dX8_foldersIn_36 : decode cX8_foldersIn 36 = .ok (.iaload, 1) := by decide +kernel
theorem dX8_foldersIn_37 : decode cX8_foldersIn 37 = .ok (.invokevirtual 90, 3) := by decide +kernel
theorem dX8_foldersIn_40 : decode cX8_foldersIn 40 = .ok (.iconst 2, 1) := by decide +kernel
theorem dX8_foldersIn_41 : decode cX8_foldersIn 41 = .ok (.if_icmp .ne 7, 3) := by decide +kernel
theorem dX8_foldersIn_44 : decode cX8_foldersIn 44 = .ok (.iconst 1, 1) := by decide +kernel
theorem dX8_foldersIn_45 : decode cX8_foldersIn 45 = .ok (.goto 4, 3) := by decide +kernel
theorem dX8_foldersIn_48 : decode cX8_foldersIn 48 = .ok (.iconst 0, 1) := by decide +kernel
theorem dX8_foldersIn_49 : decode cX8_foldersIn 49 = .ok (.iadd, 1) := by decide +kernel
theorem dX8_foldersIn_50 : decode cX8_foldersIn 50 = .ok (.istore_n 2, 1) := by decide +kernel
theorem dX8_foldersIn_51 : decode cX8_foldersIn 51 = .ok (.iinc 3 1, 3) := by decide +kernel
theorem dX8_foldersIn_54 : decode cX8_foldersIn 54 = .ok (.goto (-50), 3) := by decide +kernel
theorem dX8_foldersIn_57 : decode cX8_foldersIn 57 = .ok (.iload_n 2, 1) := by decide +kernel
theorem dX8_foldersIn_58 : decode cX8_foldersIn 58 = .ok (.ireturn, 1) := by decide +kernel
set_option maxRecDepth 20000 in
theorem ggX8_parentOf_X8_kindOf : GoodIn wsX8_parentOf wsX8_kindOf := goodIn_r _ [6, 1, 10, 11, 12, 13, 14, 15, 16, 17, 18, 19] (by decide +kernel) (by decide +kernel)
set_option maxRecDepth 20000 in
theorem gX8_parentOf_X8_kindOf : GoodIn wsX8_parentOf (wsV RX8 90 RX8 yX8_kindOf wsX8_kindOf) := goodIn_app (goodIn_of _ (by decide +kernel)) ggX8_parentOf_X8_kindOf
set_option maxRecDepth 20000 in
theorem ggX8_parentOf_X8_entryAt : GoodIn wsX8_parentOf wsX8_entryAt := goodIn_r _ [9] (by decide +kernel) (by decide +kernel)
set_option maxRecDepth 20000 in
theorem gX8_parentOf_X8_entryAt : GoodIn wsX8_parentOf (va_wsS RX8 58 yX8_entryAt wsX8_entryAt) := goodIn_app (goodIn_of _ (by decide +kernel)) ggX8_parentOf_X8_entryAt
theorem dX8_parentOf_0 : decode cX8_parentOf 0 = .ok (.iload_n 1, 1) := by decide +kernel
theorem dX8_parentOf_1 : decode cX8_parentOf 1 = .ok (.iconst 1, 1) := by decide +kernel
theorem dX8_parentOf_2 : decode cX8_parentOf 2 = .ok (.if_icmp .ne 7, 3) := by decide +kernel
theorem dX8_parentOf_5 : decode cX8_parentOf 5 = .ok (.iconst 1, 1) := by decide +kernel
theorem dX8_parentOf_6 : decode cX8_parentOf 6 = .ok (.goto 4, 3) := by decide +kernel
theorem dX8_parentOf_9 : decode cX8_parentOf 9 = .ok (.iconst 0, 1) := by decide +kernel
theorem dX8_parentOf_10 : decode cX8_parentOf 10 = .ok (.istore_n 2, 1) := by decide +kernel
theorem dX8_parentOf_11 : decode cX8_parentOf 11 = .ok (.iconst 1, 1) := by decide +kernel
theorem dX8_parentOf_12 : decode cX8_parentOf 12 = .ok (.istore_n 3, 1) := by decide +kernel
theorem dX8_parentOf_13 : decode cX8_parentOf 13 = .ok (.iload_n 3, 1) := by decide +kernel
theorem dX8_parentOf_14 : decode cX8_parentOf 14 = .ok (.bipush 24, 2) := by decide +kernel
theorem dX8_parentOf_16 : decode cX8_parentOf 16 = .ok (.if_icmp .gt 83, 3) := by decide +kernel
theorem dX8_parentOf_19 : decode cX8_parentOf 19 = .ok (.aload_n 0, 1) := by decide +kernel
theorem dX8_parentOf_20 : decode cX8_parentOf 20 = .ok (.iload_n 1, 1) := by decide +kernel
theorem dX8_parentOf_21 : decode cX8_parentOf 21 = .ok (.invokevirtual 90, 3) := by decide +kernel
theorem dX8_parentOf_24 : decode cX8_parentOf 24 = .ok (.iconst 2, 1) := by decide +kernel
theorem dX8_parentOf_25 : decode cX8_parentOf 25 = .ok (.if_icmp .ne 74, 3) := by decide +kernel
theorem dX8_parentOf_28 : decode cX8_parentOf 28 = .ok (.iconst 0, 1) := by decide +kernel
theorem dX8_parentOf_29 : decode cX8_parentOf 29 = .ok (.istore 4, 2) := by decide +kernel
theorem dX8_parentOf_31 : decode cX8_parentOf 31 = .ok (.iload 4, 2) := by decide +kernel
theorem dX8_parentOf_33 : decode cX8_parentOf 33 = .ok (.bipush 8, 2) := by decide +kernel
theorem dX8_parentOf_35 : decode cX8_parentOf 35 = .ok (.if_icmp .ge 58, 3) := by decide +kernel
theorem dX8_parentOf_38 : decode cX8_parentOf 38 = .ok (.aload_n 0, 1) := by decide +kernel
theorem dX8_parentOf_39 : decode cX8_parentOf 39 = .ok (.getfield 7, 3) := by decide +kernel
theorem dX8_parentOf_42 : decode cX8_parentOf 42 = .ok (.iload_n 3, 1) := by decide +kernel
theorem dX8_parentOf_43 : decode cX8_parentOf 43 = .ok (.iload 4, 2) := by decide +kernel
theorem dX8_parentOf_45 : decode cX8_parentOf 45 = .ok (.invokestatic 58, 3) := by decide +kernel
theorem dX8_parentOf_48 : decode cX8_parentOf 48 = .ok (.iaload, 1) := by decide +kernel
theorem dX8_parentOf_49 : decode cX8_parentOf 49 = .ok (.ifCond .eq 24, 3) := by decide +kernel
theorem dX8_parentOf_52 : decode cX8_parentOf 52 = .ok (.aload_n 0, 1) := by decide +kernel
theorem dX8_parentOf_53 : decode cX8_parentOf 53 = .ok (.getfield 7, 3) := by decide +kernel
theorem dX8_parentOf_56 : decode cX8_parentOf 56 = .ok (.iload_n 3, 1) := by decide +kernel
theorem dX8_parentOf_57 : decode cX8_parentOf 57 = .ok (.iload 4, 2) := by decide +kernel
theorem dX8_parentOf_59 : decode cX8_parentOf 59 = .ok (.invokestatic 58, 3) := by decide +kernel
theorem dX8_parentOf_62 : decode cX8_parentOf 62 = .ok (.iconst 1, 1) := by decide +kernel
theorem dX8_parentOf_63 : decode cX8_parentOf 63 = .ok (.iadd, 1) := by decide +kernel
theorem dX8_parentOf_64 : decode cX8_parentOf 64 = .ok (.iaload, 1) := by decide +kernel
theorem dX8_parentOf_65 : decode cX8_parentOf 65 = .ok (.iload_n 1, 1) := by decide +kernel
theorem dX8_parentOf_66 : decode cX8_parentOf 66 = .ok (.if_icmp .ne 7, 3) := by decide +kernel
theorem dX8_parentOf_69 : decode cX8_parentOf 69 = .ok (.iconst 1, 1) := by decide +kernel
theorem dX8_parentOf_70 : decode cX8_parentOf 70 = .ok (.goto 4, 3) := by decide +kernel
theorem dX8_parentOf_73 : decode cX8_parentOf 73 = .ok (.iconst 0, 1) := by decide +kernel
theorem dX8_parentOf_74 : decode cX8_parentOf 74 = .ok (.istore 5, 2) := by decide +kernel
theorem dX8_parentOf_76 : decode cX8_parentOf 76 = .ok (.iload 5, 2) := by decide +kernel
theorem dX8_parentOf_78 : decode cX8_parentOf 78 = .ok (.ifCond .eq 7, 3) := by decide +kernel
theorem dX8_parentOf_81 : decode cX8_parentOf 81 = .ok (.iload_n 3, 1) := by decide +kernel
