theorem dX13_thrown_0 : decode cX13_thrown 0 = .ok (.aload_n 0, 1) := by decide +kernel
theorem dX13_thrown_1 : decode cX13_thrown 1 = .ok (.getfield 187, 3) := by decide +kernel
theorem dX13_thrown_4 : decode cX13_thrown 4 = .ok (.ireturn, 1) := by decide +kernel
theorem dX13_fail_0 : decode cX13_fail 0 = .ok (.aload_n 0, 1) := by decide +kernel
theorem dX13_fail_1 : decode cX13_fail 1 = .ok (.iload_n 1, 1) := by decide +kernel
theorem dX13_fail_2 : decode cX13_fail 2 = .ok (.putfield 187, 3) := by decide +kernel
theorem dX13_fail_5 : decode cX13_fail 5 = .ok (.iconst 0, 1) := by decide +kernel
theorem dX13_fail_6 : decode cX13_fail 6 = .ok (.ireturn, 1) := by decide +kernel
theorem dX13_isIn_0 : decode cX13_isIn 0 = .ok (.lload_n 0, 1) := by decide +kernel
theorem dX13_isIn_1 : decode cX13_isIn 1 = .ok (.lload_n 2, 1) := by decide +kernel
theorem dX13_isIn_2 : decode cX13_isIn 2 = .ok (.lcmp, 1) := by decide +kernel
theorem dX13_isIn_3 : decode cX13_isIn 3 = .ok (.ifCond .lt 14, 3) := by decide +kernel
theorem dX13_isIn_6 : decode cX13_isIn 6 = .ok (.lload_n 0, 1) := by decide +kernel
theorem dX13_isIn_7 : decode cX13_isIn 7 = .ok (.lload 4, 2) := by decide +kernel
theorem dX13_isIn_9 : decode cX13_isIn 9 = .ok (.lcmp, 1) := by decide +kernel
theorem dX13_isIn_10 : decode cX13_isIn 10 = .ok (.ifCond .gt 7, 3) := by decide +kernel
theorem dX13_isIn_13 : decode cX13_isIn 13 = .ok (.iconst 1, 1) := by decide +kernel
theorem dX13_isIn_14 : decode cX13_isIn 14 = .ok (.goto 4, 3) := by decide +kernel
theorem dX13_isIn_17 : decode cX13_isIn 17 = .ok (.iconst 0, 1) := by decide +kernel
theorem dX13_isIn_18 : decode cX13_isIn 18 = .ok (.ireturn, 1) := by decide +kernel
theorem dX13_feed_0 : decode cX13_feed 0 = .ok (.aload_n 0, 1) := by decide +kernel
theorem dX13_feed_1 : decode cX13_feed 1 = .ok (.iconst 0, 1) := by decide +kernel
theorem dX13_feed_2 : decode cX13_feed 2 = .ok (.putfield 187, 3) := by decide +kernel
theorem dX13_feed_5 : decode cX13_feed 5 = .ok (.aload_n 0, 1) := by decide +kernel
theorem dX13_feed_6 : decode cX13_feed 6 = .ok (.getfield 190, 3) := by decide +kernel
theorem dX13_feed_9 : decode cX13_feed 9 = .ok (.bipush 20, 2) := by decide +kernel
theorem dX13_feed_11 : decode cX13_feed 11 = .ok (.iadd, 1) := by decide +kernel
theorem dX13_feed_12 : decode cX13_feed 12 = .ok (.sipush 700, 3) := by decide +kernel
theorem dX13_feed_15 : decode cX13_feed 15 = .ok (.if_icmp .le 5, 3) := by decide +kernel
theorem dX13_feed_18 : decode cX13_feed 18 = .ok (.iconst (-1), 1) := by decide +kernel
theorem dX13_feed_19 : decode cX13_feed 19 = .ok (.ireturn, 1) := by decide +kernel
theorem dX13_feed_20 : decode cX13_feed 20 = .ok (.iconst 0, 1) := by decide +kernel
theorem dX13_feed_21 : decode cX13_feed 21 = .ok (.istore 6, 2) := by decide +kernel
theorem dX13_feed_23 : decode cX13_feed 23 = .ok (.iload 6, 2) := by decide +kernel
theorem dX13_feed_25 : decode cX13_feed 25 = .ok (.bipush 20, 2) := by decide +kernel
theorem dX13_feed_27 : decode cX13_feed 27 = .ok (.if_icmp .ge 93, 3) := by decide +kernel
theorem dX13_feed_30 : decode cX13_feed 30 = .ok (.iload 6, 2) := by decide +kernel
theorem dX13_feed_32 : decode cX13_feed 32 = .ok (.iconst 4, 1) := by decide +kernel
theorem dX13_feed_33 : decode cX13_feed 33 = .ok (.if_icmp .ge 7, 3) := by decide +kernel
theorem dX13_feed_36 : decode cX13_feed 36 = .ok (.iload_n 1, 1) := by decide +kernel
theorem dX13_feed_37 : decode cX13_feed 37 = .ok (.goto 39, 3) := by decide +kernel
theorem dX13_feed_40 : decode cX13_feed 40 = .ok (.iload 6, 2) := by decide +kernel
theorem dX13_feed_42 : decode cX13_feed 42 = .ok (.bipush 8, 2) := by decide +kernel
theorem dX13_feed_44 : decode cX13_feed 44 = .ok (.if_icmp .ge 7, 3) := by decide +kernel
theorem dX13_feed_47 : decode cX13_feed 47 = .ok (.iload_n 2, 1) := by decide +kernel
theorem dX13_feed_48 : decode cX13_feed 48 = .ok (.goto 28, 3) := by decide +kernel
theorem dX13_feed_51 : decode cX13_feed 51 = .ok (.iload 6, 2) := by decide +kernel
theorem dX13_feed_53 : decode cX13_feed 53 = .ok (.bipush 12, 2) := by decide +kernel
theorem dX13_feed_55 : decode cX13_feed 55 = .ok (.if_icmp .ge 7, 3) := by decide +kernel
theorem dX13_feed_58 : decode cX13_feed 58 = .ok (.iload_n 3, 1) := by decide +kernel
theorem dX13_feed_59 : decode cX13_feed 59 = .ok (.goto 17, 3) := by decide +kernel
theorem dX13_feed_62 : decode cX13_feed 62 = .ok (.iload 6, 2) := by decide +kernel
theorem dX13_feed_64 : decode cX13_feed 64 = .ok (.bipush 16, 2) := by decide +kernel
theorem dX13_feed_66 : decode cX13_feed 66 = .ok (.if_icmp .ge 8, 3) := by decide +kernel
theorem dX13_feed_69 : decode cX13_feed 69 = .ok (.iload 4, 2) := by decide +kernel
theorem dX13_feed_71 : decode cX13_feed 71 = .ok (.goto 5, 3) := by decide +kernel
theorem dX13_feed_74 : decode cX13_feed 74 = .ok (.iload 5, 2) := by decide +kernel
theorem dX13_feed_76 : decode cX13_feed 76 = .ok (.istore 7, 2) := by decide +kernel
theorem dX13_feed_78 : decode cX13_feed 78 = .ok (.aload_n 0, 1) := by decide +kernel
theorem dX13_feed_79 : decode cX13_feed 79 = .ok (.getfield 107, 3) := by decide +kernel
theorem dX13_feed_82 : decode cX13_feed 82 = .ok (.aload_n 0, 1) := by decide +kernel
theorem dX13_feed_83 : decode cX13_feed 83 = .ok (.getfield 190, 3) := by decide +kernel
theorem dX13_feed_86 : decode cX13_feed 86 = .ok (.iload 7, 2) := by decide +kernel
theorem dX13_feed_88 : decode cX13_feed 88 = .ok (.bipush 24, 2) := by decide +kernel
theorem dX13_feed_90 : decode cX13_feed 90 = .ok (.bipush 8, 2) := by decide +kernel
theorem dX13_feed_92 : decode cX13_feed 92 = .ok (.iload 6, 2) := by decide +kernel
theorem dX13_feed_94 : decode cX13_feed 94 = .ok (.iconst 4, 1) := by decide +kernel
theorem dX13_feed_95 : decode cX13_feed 95 = .ok (.irem, 1) := by decide +kernel
theorem dX13_feed_96 : decode cX13_feed 96 = .ok (.imul, 1) := by decide +kernel
theorem dX13_feed_97 : decode cX13_feed 97 = .ok (.isub, 1) := by decide +kernel
theorem dX13_feed_98 : decode cX13_feed 98 = .ok (.ishr, 1) := by decide +kernel
theorem dX13_feed_99 : decode cX13_feed 99 = .ok (.sipush 255, 3) := by decide +kernel
theorem dX13_feed_102 : decode cX13_feed 102 = .ok (.iand, 1) := by decide +kernel
theorem dX13_feed_103 : decode cX13_feed 103 = .ok (.iastore, 1) := by decide +kernel
theorem dX13_feed_104 : decode cX13_feed 104 = .ok (.aload_n 0, 1) := by decide +kernel
theorem dX13_feed_105 : decode cX13_feed 105 = .ok (.dup, 1) := by decide +kernel
theorem dX13_feed_106 : decode cX13_feed 106 = .ok (.getfield 190, 3) := by decide +kernel
theorem dX13_feed_109 : decode cX13_feed 109 = .ok (.iconst 1, 1) := by decide +kernel
theorem dX13_feed_110 : decode cX13_feed 110 = .ok (.iadd, 1) := by decide +kernel
theorem dX13_feed_111 : decode cX13_feed 111 = .ok (.putfield 190, 3) := by decide +kernel
theorem dX13_feed_114 : decode cX13_feed 114 = .ok (.iinc 6 1, 3) := by decide +kernel
theorem dX13_feed_117 : decode cX13_feed 117 = .ok (.goto (-94), 3) := by decide +kernel
theorem dX13_feed_120 : decode cX13_feed 120 = .ok (.aload_n 0, 1) := by decide +kernel
theorem dX13_feed_121 : decode cX13_feed 121 = .ok (.getfield 190, 3) := by decide +kernel
theorem dX13_feed_124 : decode cX13_feed 124 = .ok (.ireturn, 1) := by decide +kernel
theorem dX13_byteAt_0 : decode cX13_byteAt 0 = .ok (.iload_n 1, 1) := by decide +kernel
theorem dX13_byteAt_1 : decode cX13_byteAt 1 = .ok (.aload_n 0, 1) := by decide +kernel
theorem dX13_byteAt_2 : decode cX13_byteAt 2 = .ok (.getfield 193, 3) := by decide +kernel
theorem dX13_byteAt_5 : decode cX13_byteAt 5 = .ok (.if_icmp .ge 12, 3) := by decide +kernel
theorem dX13_byteAt_8 : decode cX13_byteAt 8 = .ok (.aload_n 0, 1) := by decide +kernel
theorem dX13_byteAt_9 : decode cX13_byteAt 9 = .ok (.getfield 107, 3) := by decide +kernel
theorem dX13_byteAt_12 : decode cX13_byteAt 12 = .ok (.iload_n 1, 1) := by decide +kernel
theorem dX13_byteAt_13 : decode cX13_byteAt 13 = .ok (.iaload, 1) := by decide +kernel
theorem dX13_byteAt_14 : decode cX13_byteAt 14 = .ok (.goto 4, 3) := by decide +kernel
theorem dX13_byteAt_17 : decode cX13_byteAt 17 = .ok (.iconst (-1), 1) := by decide +kernel
theorem dX13_byteAt_18 : decode cX13_byteAt 18 = .ok (.ireturn, 1) := by decide +kernel
theorem dX13_isLetter_0 : decode cX13_isLetter 0 = .ok (.iload_n 0, 1) := by decide +kernel
theorem dX13_isLetter_1 : decode cX13_isLetter 1 = .ok (.bipush 97, 2) := by decide +kernel
theorem dX13_isLetter_3 : decode cX13_isLetter 3 = .ok (.if_icmp .lt 13, 3) := by decide +kernel
theorem dX13_isLetter_6 : decode cX13_isLetter 6 = .ok (.iload_n 0, 1) := by decide +kernel
theorem dX13_isLetter_7 : decode cX13_isLetter 7 = .ok (.bipush 122, 2) := by decide +kernel
theorem dX13_isLetter_9 : decode cX13_isLetter 9 = .ok (.if_icmp .gt 7, 3) := by decide +kernel
theorem dX13_isLetter_12 : decode cX13_isLetter 12 = .ok (.iconst 1, 1) := by decide +kernel
theorem dX13_isLetter_13 : decode cX13_isLetter 13 = .ok (.goto 4, 3) := by decide +kernel
theorem dX13_isLetter_16 : decode cX13_isLetter 16 = .ok (.iconst 0, 1) := by decide +kernel
theorem dX13_isLetter_17 : decode cX13_isLetter 17 = .ok (.ireturn, 1) := by decide +kernel
theorem dX13_isDigit_0 : decode cX13_isDigit 0 = .ok (.iload_n 0, 1) := by decide +kernel
theorem dX13_isDigit_1 : decode cX13_isDigit 1 = .ok (.bipush 48, 2) := by decide +kernel
theorem dX13_isDigit_3 : decode cX13_isDigit 3 = .ok (.if_icmp .lt 13, 3) := by decide +kernel
theorem dX13_isDigit_6 : decode cX13_isDigit 6 = .ok (.iload_n 0, 1) := by decide +kernel
theorem dX13_isDigit_7 : decode cX13_isDigit 7 = .ok (.bipush 57, 2) := by decide +kernel
theorem dX13_isDigit_9 : decode cX13_isDigit 9 = .ok (.if_icmp .gt 7, 3) := by decide +kernel
theorem dX13_isDigit_12 : decode cX13_isDigit 12 = .ok (.iconst 1, 1) := by decide +kernel
theorem dX13_isDigit_13 : decode cX13_isDigit 13 = .ok (.goto 4, 3) := by decide +kernel
theorem dX13_isDigit_16 : decode cX13_isDigit 16 = .ok (.iconst 0, 1) := by decide +kernel
theorem dX13_isDigit_17 : decode cX13_isDigit 17 = .ok (.ireturn, 1) := by decide +kernel
theorem dX13_isHex_0 : decode cX13_isHex 0 = .ok (.iload_n 0, 1) := by decide +kernel
theorem dX13_isHex_1 : decode cX13_isHex 1 = .ok (.invokestatic 196, 3) := by decide +kernel
theorem dX13_isHex_4 : decode cX13_isHex 4 = .ok (.ifCond .ne 15, 3) := by decide +kernel
theorem dX13_isHex_7 : decode cX13_isHex 7 = .ok (.iload_n 0, 1) := by decide +kernel
theorem dX13_isHex_8 : decode cX13_isHex 8 = .ok (.bipush 97, 2) := by decide +kernel
theorem dX13_isHex_10 : decode cX13_isHex 10 = .ok (.if_icmp .lt 13, 3) := by decide +kernel
theorem dX13_isHex_13 : decode cX13_isHex 13 = .ok (.iload_n 0, 1) := by decide +kernel
theorem dX13_isHex_14 : decode cX13_isHex 14 = .ok (.bipush 102, 2) := by decide +kernel
theorem dX13_isHex_16 : decode cX13_isHex 16 = .ok (.if_icmp .gt 7, 3) := by decide +kernel
theorem dX13_isHex_19 : decode cX13_isHex 19 = .ok (.iconst 1, 1) := by decide +kernel
theorem dX13_isHex_20 : decode cX13_isHex 20 = .ok (.goto 4, 3) := by decide +kernel
theorem dX13_isHex_23 : decode cX13_isHex 23 = .ok (.iconst 0, 1) := by decide +kernel
theorem dX13_isHex_24 : decode cX13_isHex 24 = .ok (.ireturn, 1) := by decide +kernel
theorem dX13_stepOn_0 : decode cX13_stepOn 0 = .ok (.aload_n 0, 1) := by decide +kernel
theorem dX13_stepOn_1 : decode cX13_stepOn 1 = .ok (.aload_n 0, 1) := by decide +kernel
theorem dX13_stepOn_2 : decode cX13_stepOn 2 = .ok (.getfield 200, 3) := by decide +kernel
theorem dX13_stepOn_5 : decode cX13_stepOn 5 = .ok (.invokevirtual 202, 3) := by decide +kernel
theorem dX13_stepOn_8 : decode cX13_stepOn 8 = .ok (.bipush 32, 2) := by decide +kernel
theorem dX13_stepOn_10 : decode cX13_stepOn 10 = .ok (.if_icmp .eq 16, 3) := by decide +kernel
theorem dX13_stepOn_13 : decode cX13_stepOn 13 = .ok (.aload_n 0, 1) := by decide +kernel
theorem dX13_stepOn_14 : decode cX13_stepOn 14 = .ok (.aload_n 0, 1) := by decide +kernel
theorem dX13_stepOn_15 : decode cX13_stepOn 15 = .ok (.getfield 200, 3) := by decide +kernel
theorem dX13_stepOn_18 : decode cX13_stepOn 18 = .ok (.invokevirtual 202, 3) := by decide +kernel
theorem dX13_stepOn_21 : decode cX13_stepOn 21 = .ok (.bipush 10, 2) := by decide +kernel
theorem dX13_stepOn_23 : decode cX13_stepOn 23 = .ok (.if_icmp .ne 16, 3) := by decide +kernel
theorem dX13_stepOn_26 : decode cX13_stepOn 26 = .ok (.aload_n 0, 1) := by decide +kernel
theorem dX13_stepOn_27 : decode cX13_stepOn 27 = .ok (.dup, 1) := by decide +kernel
theorem dX13_stepOn_28 : decode cX13_stepOn 28 = .ok (.getfield 200, 3) := by decide +kernel
theorem dX13_stepOn_31 : decode cX13_stepOn 31 = .ok (.iconst 1, 1) := by decide +kernel
theorem dX13_stepOn_32 : decode cX13_stepOn 32 = .ok (.iadd, 1) := by decide +kernel
theorem dX13_stepOn_33 : decode cX13_stepOn 33 = .ok (.putfield 200, 3) := by decide +kernel
theorem dX13_stepOn_36 : decode cX13_stepOn 36 = .ok (.goto (-36), 3) := by decide +kernel
theorem dX13_stepOn_39 : decode cX13_stepOn 39 = .ok (.aload_n 0, 1) := by decide +kernel
theorem dX13_stepOn_40 : decode cX13_stepOn 40 = .ok (.aload_n 0, 1) := by decide +kernel
theorem dX13_stepOn_41 : decode cX13_stepOn 41 = .ok (.getfield 200, 3) := by decide +kernel
theorem dX13_stepOn_44 : decode cX13_stepOn 44 = .ok (.putfield 206, 3) := by decide +kernel
theorem dX13_stepOn_47 : decode cX13_stepOn 47 = .ok (.aload_n 0, 1) := by decide +kernel
theorem dX13_stepOn_48 : decode cX13_stepOn 48 = .ok (.aload_n 0, 1) := by decide +kernel
theorem dX13_stepOn_49 : decode cX13_stepOn 49 = .ok (.getfield 200, 3) := by decide +kernel
theorem dX13_stepOn_52 : decode cX13_stepOn 52 = .ok (.invokevirtual 202, 3) := by decide +kernel
theorem dX13_stepOn_55 : decode cX13_stepOn 55 = .ok (.istore_n 1, 1) := by decide +kernel
theorem dX13_stepOn_56 : decode cX13_stepOn 56 = .ok (.iload_n 1, 1) := by decide +kernel
theorem dX13_stepOn_57 : decode cX13_stepOn 57 = .ok (.iconst (-1), 1) := by decide +kernel
theorem dX13_stepOn_58 : decode cX13_stepOn 58 = .ok (.if_icmp .ne 11, 3) := by decide +kernel
theorem dX13_stepOn_61 : decode cX13_stepOn 61 = .ok (.aload_n 0, 1) := by decide +kernel
theorem dX13_stepOn_62 : decode cX13_stepOn 62 = .ok (.iconst 0, 1) := by decide +kernel
theorem dX13_stepOn_63 : decode cX13_stepOn 63 = .ok (.putfield 209, 3) := by decide +kernel
theorem dX13_stepOn_66 : decode cX13_stepOn 66 = .ok (.goto 223, 3) := by decide +kernel
theorem dX13_stepOn_69 : decode cX13_stepOn 69 = .ok (.iload_n 1, 1) := by decide +kernel
theorem dX13_stepOn_70 : decode cX13_stepOn 70 = .ok (.invokestatic 212, 3) := by decide +kernel
theorem dX13_stepOn_73 : decode cX13_stepOn 73 = .ok (.ifCond .eq 38, 3) := by decide +kernel
theorem dX13_stepOn_76 : decode cX13_stepOn 76 = .ok (.aload_n 0, 1) := by decide +kernel
theorem dX13_stepOn_77 : decode cX13_stepOn 77 = .ok (.aload_n 0, 1) := by decide +kernel
theorem dX13_stepOn_78 : decode cX13_stepOn 78 = .ok (.getfield 200, 3) := by decide +kernel
theorem dX13_stepOn_81 : decode cX13_stepOn 81 = .ok (.invokevirtual 202, 3) := by decide +kernel
theorem dX13_stepOn_84 : decode cX13_stepOn 84 = .ok (.invokestatic 212, 3) := by decide +kernel
theorem dX13_stepOn_87 : decode cX13_stepOn 87 = .ok (.ifCond .eq 16, 3) := by decide +kernel
theorem dX13_stepOn_90 : decode cX13_stepOn 90 = .ok (.aload_n 0, 1) := by decide +kernel
theorem dX13_stepOn_91 : decode cX13_stepOn 91 = .ok (.dup, 1) := by decide +kernel
theorem dX13_stepOn_92 : decode cX13_stepOn 92 = .ok (.getfield 200, 3) := by decide +kernel
theorem dX13_stepOn_95 : decode cX13_stepOn 95 = .ok (.iconst 1, 1) := by decide +kernel
theorem dX13_stepOn_96 : decode cX13_stepOn 96 = .ok (.iadd, 1) := by decide +kernel
theorem dX13_stepOn_97 : decode cX13_stepOn 97 = .ok (.putfield 200, 3) := by decide +kernel
theorem dX13_stepOn_100 : decode cX13_stepOn 100 = .ok (.goto (-24), 3) := by decide +kernel
theorem dX13_stepOn_103 : decode cX13_stepOn 103 = .ok (.aload_n 0, 1) := by decide +kernel
theorem dX13_stepOn_104 : decode cX13_stepOn 104 = .ok (.iconst 1, 1) := by decide +kernel
theorem dX13_stepOn_105 : decode cX13_stepOn 105 = .ok (.putfield 209, 3) := by decide +kernel
theorem dX13_stepOn_108 : decode cX13_stepOn 108 = .ok (.goto 181, 3) := by decide +kernel
theorem dX13_stepOn_111 : decode cX13_stepOn 111 = .ok (.iload_n 1, 1) := by decide +kernel
theorem dX13_stepOn_112 : decode cX13_stepOn 112 = .ok (.invokestatic 196, 3) := by decide +kernel
theorem dX13_stepOn_115 : decode cX13_stepOn 115 = .ok (.ifCond .eq 71, 3) := by decide +kernel
theorem dX13_stepOn_118 : decode cX13_stepOn 118 = .ok (.aload_n 0, 1) := by decide +kernel
theorem dX13_stepOn_119 : decode cX13_stepOn 119 = .ok (.iconst 0, 1) := by decide +kernel
theorem dX13_stepOn_120 : decode cX13_stepOn 120 = .ok (.putfield 215, 3) := by decide +kernel
theorem dX13_stepOn_123 : decode cX13_stepOn 123 = .ok (.aload_n 0, 1) := by decide +kernel
theorem dX13_stepOn_124 : decode cX13_stepOn 124 = .ok (.aload_n 0, 1) := by decide +kernel
theorem dX13_stepOn_125 : decode cX13_stepOn 125 = .ok (.getfield 200, 3) := by decide +kernel
theorem dX13_stepOn_128 : decode cX13_stepOn 128 = .ok (.invokevirtual 202, 3) := by decide +kernel
theorem dX13_stepOn_131 : decode cX13_stepOn 131 = .ok (.invokestatic 196, 3) := by decide +kernel
theorem dX13_stepOn_134 : decode cX13_stepOn 134 = .ok (.ifCond .eq 44, 3) := by decide +kernel
theorem dX13_stepOn_137 : decode cX13_stepOn 137 = .ok (.aload_n 0, 1) := by decide +kernel
theorem dX13_stepOn_138 : decode cX13_stepOn 138 = .ok (.ldc 218, 2) := by decide +kernel
theorem dX13_stepOn_140 : decode cX13_stepOn 140 = .ok (.bipush 10, 2) := by decide +kernel
theorem dX13_stepOn_142 : decode cX13_stepOn 142 = .ok (.aload_n 0, 1) := by decide +kernel
theorem dX13_stepOn_143 : decode cX13_stepOn 143 = .ok (.getfield 215, 3) := by decide +kernel
theorem dX13_stepOn_146 : decode cX13_stepOn 146 = .ok (.imul, 1) := by decide +kernel
theorem dX13_stepOn_147 : decode cX13_stepOn 147 = .ok (.aload_n 0, 1) := by decide +kernel
theorem dX13_stepOn_148 : decode cX13_stepOn 148 = .ok (.aload_n 0, 1) := by decide +kernel
theorem dX13_stepOn_149 : decode cX13_stepOn 149 = .ok (.getfield 200, 3) := by decide +kernel
theorem dX13_stepOn_152 : decode cX13_stepOn 152 = .ok (.invokevirtual 202, 3) := by decide +kernel
theorem dX13_stepOn_155 : decode cX13_stepOn 155 = .ok (.iadd, 1) := by decide +kernel
theorem dX13_stepOn_156 : decode cX13_stepOn 156 = .ok (.bipush 48, 2) := by decide +kernel
theorem dX13_stepOn_158 : decode cX13_stepOn 158 = .ok (.isub, 1) := by decide +kernel
theorem dX13_stepOn_159 : decode cX13_stepOn 159 = .ok (.invokestatic 219, 3) := by decide +kernel
theorem dX13_stepOn_162 : decode cX13_stepOn 162 = .ok (.putfield 215, 3) := by decide +kernel
theorem dX13_stepOn_165 : decode cX13_stepOn 165 = .ok (.aload_n 0, 1) := by decide +kernel
theorem dX13_stepOn_166 : decode cX13_stepOn 166 = .ok (.dup, 1) := by decide +kernel
theorem dX13_stepOn_167 : decode cX13_stepOn 167 = .ok (.getfield 200, 3) := by decide +kernel
theorem dX13_stepOn_170 : decode cX13_stepOn 170 = .ok (.iconst 1, 1) := by decide +kernel
theorem dX13_stepOn_171 : decode cX13_stepOn 171 = .ok (.iadd, 1) := by decide +kernel
theorem dX13_stepOn_172 : decode cX13_stepOn 172 = .ok (.putfield 200, 3) := by decide +kernel
theorem dX13_stepOn_175 : decode cX13_stepOn 175 = .ok (.goto (-52), 3) := by decide +kernel
theorem dX13_stepOn_178 : decode cX13_stepOn 178 = .ok (.aload_n 0, 1) := by decide +kernel
theorem dX13_stepOn_179 : decode cX13_stepOn 179 = .ok (.iconst 2, 1) := by decide +kernel
theorem dX13_stepOn_180 : decode cX13_stepOn 180 = .ok (.putfield 209, 3) := by decide +kernel
theorem dX13_stepOn_183 : decode cX13_stepOn 183 = .ok (.goto 106, 3) := by decide +kernel
theorem dX13_stepOn_186 : decode cX13_stepOn 186 = .ok (.aload_n 0, 1) := by decide +kernel
theorem dX13_stepOn_187 : decode cX13_stepOn 187 = .ok (.dup, 1) := by decide +kernel
theorem dX13_stepOn_188 : decode cX13_stepOn 188 = .ok (.getfield 200, 3) := by decide +kernel
theorem dX13_stepOn_191 : decode cX13_stepOn 191 = .ok (.iconst 1, 1) := by decide +kernel
theorem dX13_stepOn_192 : decode cX13_stepOn 192 = .ok (.iadd, 1) := by decide +kernel
theorem dX13_stepOn_193 : decode cX13_stepOn 193 = .ok (.putfield 200, 3) := by decide +kernel
theorem dX13_stepOn_196 : decode cX13_stepOn 196 = .ok (.aload_n 0, 1) := by decide +kernel
theorem dX13_stepOn_197 : decode cX13_stepOn 197 = .ok (.iload_n 1, 1) := by decide +kernel
theorem dX13_stepOn_198 : decode cX13_stepOn 198 = .ok (.bipush 59, 2) := by decide +kernel
theorem dX13_stepOn_200 : decode cX13_stepOn 200 = .ok (.if_icmp .eq 21, 3) := by decide +kernel
theorem dX13_stepOn_203 : decode cX13_stepOn 203 = .ok (.iload_n 1, 1) := by decide +kernel
theorem dX13_stepOn_204 : decode cX13_stepOn 204 = .ok (.bipush 58, 2) := by decide +kernel
theorem dX13_stepOn_206 : decode cX13_stepOn 206 = .ok (.if_icmp .eq 15, 3) := by decide +kernel
theorem dX13_stepOn_209 : decode cX13_stepOn 209 = .ok (.iload_n 1, 1) := by decide +kernel
theorem dX13_stepOn_210 : decode cX13_stepOn 210 = .ok (.bipush 37, 2) := by decide +kernel
theorem dX13_stepOn_212 : decode cX13_stepOn 212 = .ok (.if_icmp .eq 9, 3) := by decide +kernel
theorem dX13_stepOn_215 : decode cX13_stepOn 215 = .ok (.iload_n 1, 1) := by decide +kernel
theorem dX13_stepOn_216 : decode cX13_stepOn 216 = .ok (.bipush 45, 2) := by decide +kernel
theorem dX13_stepOn_218 : decode cX13_stepOn 218 = .ok (.if_icmp .ne 7, 3) := by decide +kernel
theorem dX13_stepOn_221 : decode cX13_stepOn 221 = .ok (.iconst 4, 1) := by decide +kernel
theorem dX13_stepOn_222 : decode cX13_stepOn 222 = .ok (.goto 4, 3) := by decide +kernel
theorem dX13_stepOn_225 : decode cX13_stepOn 225 = .ok (.iconst 5, 1) := by decide +kernel
theorem dX13_stepOn_226 : decode cX13_stepOn 226 = .ok (.putfield 209, 3) := by decide +kernel
theorem dX13_stepOn_229 : decode cX13_stepOn 229 = .ok (.iload_n 1, 1) := by decide +kernel
theorem dX13_stepOn_230 : decode cX13_stepOn 230 = .ok (.bipush 35, 2) := by decide +kernel
theorem dX13_stepOn_232 : decode cX13_stepOn 232 = .ok (.if_icmp .ne 22, 3) := by decide +kernel
theorem dX13_stepOn_235 : decode cX13_stepOn 235 = .ok (.aload_n 0, 1) := by decide +kernel
theorem dX13_stepOn_236 : decode cX13_stepOn 236 = .ok (.aload_n 0, 1) := by decide +kernel
theorem dX13_stepOn_237 : decode cX13_stepOn 237 = .ok (.getfield 200, 3) := by decide +kernel
theorem dX13_stepOn_240 : decode cX13_stepOn 240 = .ok (.invokevirtual 202, 3) := by decide +kernel
theorem dX13_stepOn_243 : decode cX13_stepOn 243 = .ok (.invokestatic 225, 3) := by decide +kernel
theorem dX13_stepOn_246 : decode cX13_stepOn 246 = .ok (.ifCond .eq 8, 3) := by decide +kernel
theorem dX13_stepOn_249 : decode cX13_stepOn 249 = .ok (.aload_n 0, 1) := by decide +kernel
theorem dX13_stepOn_250 : decode cX13_stepOn 250 = .ok (.iconst 3, 1) := by decide +kernel
theorem dX13_stepOn_251 : decode cX13_stepOn 251 = .ok (.putfield 209, 3) := by decide +kernel
theorem dX13_stepOn_254 : decode cX13_stepOn 254 = .ok (.aload_n 0, 1) := by decide +kernel
theorem dX13_stepOn_255 : decode cX13_stepOn 255 = .ok (.getfield 209, 3) := by decide +kernel
theorem dX13_stepOn_258 : decode cX13_stepOn 258 = .ok (.iconst 3, 1) := by decide +kernel
theorem dX13_stepOn_259 : decode cX13_stepOn 259 = .ok (.if_icmp .ne 30, 3) := by decide +kernel
theorem dX13_stepOn_262 : decode cX13_stepOn 262 = .ok (.aload_n 0, 1) := by decide +kernel
theorem dX13_stepOn_263 : decode cX13_stepOn 263 = .ok (.aload_n 0, 1) := by decide +kernel
theorem dX13_stepOn_264 : decode cX13_stepOn 264 = .ok (.getfield 200, 3) := by decide +kernel
theorem dX13_stepOn_267 : decode cX13_stepOn 267 = .ok (.invokevirtual 202, 3) := by decide +kernel
theorem dX13_stepOn_270 : decode cX13_stepOn 270 = .ok (.invokestatic 225, 3) := by decide +kernel
theorem dX13_stepOn_273 : decode cX13_stepOn 273 = .ok (.ifCond .eq 16, 3) := by decide +kernel
theorem dX13_stepOn_276 : decode cX13_stepOn 276 = .ok (.aload_n 0, 1) := by decide +kernel
theorem dX13_stepOn_277 : decode cX13_stepOn 277 = .ok (.dup, 1) := by decide +kernel
theorem dX13_stepOn_278 : decode cX13_stepOn 278 = .ok (.getfield 200, 3) := by decide +kernel
theorem dX13_stepOn_281 : decode cX13_stepOn 281 = .ok (.iconst 1, 1) := by decide +kernel
theorem dX13_stepOn_282 : decode cX13_stepOn 282 = .ok (.iadd, 1) := by decide +kernel
theorem dX13_stepOn_283 : decode cX13_stepOn 283 = .ok (.putfield 200, 3) := by decide +kernel
theorem dX13_stepOn_286 : decode cX13_stepOn 286 = .ok (.goto (-32), 3) := by decide +kernel
theorem dX13_stepOn_289 : decode cX13_stepOn 289 = .ok (.aload_n 0, 1) := by decide +kernel
theorem dX13_stepOn_290 : decode cX13_stepOn 290 = .ok (.aload_n 0, 1) := by decide +kernel
theorem dX13_stepOn_291 : decode cX13_stepOn 291 = .ok (.getfield 200, 3) := by decide +kernel
theorem dX13_stepOn_294 : decode cX13_stepOn 294 = .ok (.putfield 228, 3) := by decide +kernel
theorem dX13_stepOn_297 : decode cX13_stepOn 297 = .ok (.return_, 1) := by decide +kernel
theorem dX13_wrong_0 : decode cX13_wrong 0 = .ok (.aload_n 0, 1) := by decide +kernel
theorem dX13_wrong_1 : decode cX13_wrong 1 = .ok (.getfield 231, 3) := by decide +kernel
theorem dX13_wrong_4 : decode cX13_wrong 4 = .ok (.ifCond .eq 4, 3) := by decide +kernel
theorem dX13_wrong_7 : decode cX13_wrong 7 = .ok (.return_, 1) := by decide +kernel
theorem dX13_wrong_8 : decode cX13_wrong 8 = .ok (.aload_n 0, 1) := by decide +kernel
theorem dX13_wrong_9 : decode cX13_wrong 9 = .ok (.iload_n 1, 1) := by decide +kernel
theorem dX13_wrong_10 : decode cX13_wrong 10 = .ok (.putfield 231, 3) := by decide +kernel
theorem dX13_wrong_13 : decode cX13_wrong 13 = .ok (.aload_n 0, 1) := by decide +kernel
theorem dX13_wrong_14 : decode cX13_wrong 14 = .ok (.aload_n 0, 1) := by decide +kernel
theorem dX13_wrong_15 : decode cX13_wrong 15 = .ok (.getfield 206, 3) := by decide +kernel
theorem dX13_wrong_18 : decode cX13_wrong 18 = .ok (.putfield 234, 3) := by decide +kernel
theorem dX13_wrong_21 : decode cX13_wrong 21 = .ok (.return_, 1) := by decide +kernel
theorem dX13_is_0 : decode cX13_is 0 = .ok (.aload_n 0, 1) := by decide +kernel
theorem dX13_is_1 : decode cX13_is 1 = .ok (.getfield 231, 3) := by decide +kernel
theorem dX13_is_4 : decode cX13_is 4 = .ok (.ifCond .ne 31, 3) := by decide +kernel
theorem dX13_is_7 : decode cX13_is 7 = .ok (.aload_n 0, 1) := by decide +kernel
theorem dX13_is_8 : decode cX13_is 8 = .ok (.getfield 209, 3) := by decide +kernel
theorem dX13_is_11 : decode cX13_is 11 = .ok (.iconst 1, 1) := by decide +kernel
theorem dX13_is_12 : decode cX13_is 12 = .ok (.if_icmp .ne 23, 3) := by decide +kernel
theorem dX13_is_15 : decode cX13_is 15 = .ok (.aload_n 1, 1) := by decide +kernel
theorem dX13_is_16 : decode cX13_is 16 = .ok (.invokevirtual 237, 3) := by decide +kernel
theorem dX13_is_19 : decode cX13_is 19 = .ok (.aload_n 0, 1) := by decide +kernel
theorem dX13_is_20 : decode cX13_is 20 = .ok (.getfield 228, 3) := by decide +kernel
theorem dX13_is_23 : decode cX13_is 23 = .ok (.aload_n 0, 1) := by decide +kernel
theorem dX13_is_24 : decode cX13_is 24 = .ok (.getfield 206, 3) := by decide +kernel
theorem dX13_is_27 : decode cX13_is 27 = .ok (.isub, 1) := by decide +kernel
theorem dX13_is_28 : decode cX13_is 28 = .ok (.if_icmp .ne 7, 3) := by decide +kernel
theorem dX13_is_31 : decode cX13_is 31 = .ok (.iconst 1, 1) := by decide +kernel
theorem dX13_is_32 : decode cX13_is 32 = .ok (.goto 4, 3) := by decide +kernel
theorem dX13_is_35 : decode cX13_is 35 = .ok (.iconst 0, 1) := by decide +kernel
theorem dX13_is_36 : decode cX13_is 36 = .ok (.istore_n 2, 1) := by decide +kernel
theorem dX13_is_37 : decode cX13_is 37 = .ok (.iconst 0, 1) := by decide +kernel
theorem dX13_is_38 : decode cX13_is 38 = .ok (.istore_n 3, 1) := by decide +kernel
theorem dX13_is_39 : decode cX13_is 39 = .ok (.iload_n 2, 1) := by decide +kernel
theorem dX13_is_40 : decode cX13_is 40 = .ok (.ifCond .eq 42, 3) := by decide +kernel
theorem dX13_is_43 : decode cX13_is 43 = .ok (.iload_n 3, 1) := by decide +kernel
theorem dX13_is_44 : decode cX13_is 44 = .ok (.aload_n 1, 1) := by decide +kernel
theorem dX13_is_45 : decode cX13_is 45 = .ok (.invokevirtual 237, 3) := by decide +kernel
theorem dX13_is_48 : decode cX13_is 48 = .ok (.if_icmp .ge 34, 3) := by decide +kernel
theorem dX13_is_51 : decode cX13_is 51 = .ok (.aload_n 1, 1) := by decide +kernel
theorem dX13_is_52 : decode cX13_is 52 = .ok (.iload_n 3, 1) := by decide +kernel
theorem dX13_is_53 : decode cX13_is 53 = .ok (.invokevirtual 241, 3) := by decide +kernel
theorem dX13_is_56 : decode cX13_is 56 = .ok (.aload_n 0, 1) := by decide +kernel
theorem dX13_is_57 : decode cX13_is 57 = .ok (.getfield 107, 3) := by decide +kernel
theorem dX13_is_60 : decode cX13_is 60 = .ok (.aload_n 0, 1) := by decide +kernel
theorem dX13_is_61 : decode cX13_is 61 = .ok (.getfield 206, 3) := by decide +kernel
theorem dX13_is_64 : decode cX13_is 64 = .ok (.iload_n 3, 1) := by decide +kernel
theorem dX13_is_65 : decode cX13_is 65 = .ok (.iadd, 1) := by decide +kernel
theorem dX13_is_66 : decode cX13_is 66 = .ok (.iaload, 1) := by decide +kernel
theorem dX13_is_67 : decode cX13_is 67 = .ok (.if_icmp .ne 7, 3) := by decide +kernel
theorem dX13_is_70 : decode cX13_is 70 = .ok (.iconst 1, 1) := by decide +kernel
theorem dX13_is_71 : decode cX13_is 71 = .ok (.goto 4, 3) := by decide +kernel
theorem dX13_is_74 : decode cX13_is 74 = .ok (.iconst 0, 1) := by decide +kernel
theorem dX13_is_75 : decode cX13_is 75 = .ok (.istore_n 2, 1) := by decide +kernel
theorem dX13_is_76 : decode cX13_is 76 = .ok (.iinc 3 1, 3) := by decide +kernel
theorem dX13_is_79 : decode cX13_is 79 = .ok (.goto (-40), 3) := by decide +kernel
theorem dX13_is_82 : decode cX13_is 82 = .ok (.iload_n 2, 1) := by decide +kernel
theorem dX13_is_83 : decode cX13_is 83 = .ok (.ireturn, 1) := by decide +kernel
theorem dX13_which_0 : decode cX13_which 0 = .ok (.iconst 0, 1) := by decide +kernel
theorem dX13_which_1 : decode cX13_which 1 = .ok (.istore_n 2, 1) := by decide +kernel
theorem dX13_which_2 : decode cX13_which 2 = .ok (.iload_n 2, 1) := by decide +kernel
theorem dX13_which_3 : decode cX13_which 3 = .ok (.aload_n 1, 1) := by decide +kernel
theorem dX13_which_4 : decode cX13_which 4 = .ok (.arraylength, 1) := by decide +kernel
theorem dX13_which_5 : decode cX13_which 5 = .ok (.if_icmp .ge 21, 3) := by decide +kernel
theorem dX13_which_8 : decode cX13_which 8 = .ok (.aload_n 0, 1) := by decide +kernel
theorem dX13_which_9 : decode cX13_which 9 = .ok (.aload_n 1, 1) := by decide +kernel
theorem dX13_which_10 : decode cX13_which 10 = .ok (.iload_n 2, 1) := by decide +kernel
theorem dX13_which_11 : decode cX13_which 11 = .ok (.aaload, 1) := by decide +kernel
theorem dX13_which_12 : decode cX13_which 12 = .ok (.invokevirtual 245, 3) := by decide +kernel
theorem dX13_which_15 : decode cX13_which 15 = .ok (.ifCond .eq 5, 3) := by decide +kernel
theorem dX13_which_18 : decode cX13_which 18 = .ok (.iload_n 2, 1) := by decide +kernel
theorem dX13_which_19 : decode cX13_which 19 = .ok (.ireturn, 1) := by decide +kernel
theorem dX13_which_20 : decode cX13_which 20 = .ok (.iinc 2 1, 3) := by decide +kernel
theorem dX13_which_23 : decode cX13_which 23 = .ok (.goto (-21), 3) := by decide +kernel
theorem dX13_which_26 : decode cX13_which 26 = .ok (.iconst (-1), 1) := by decide +kernel
theorem dX13_which_27 : decode cX13_which 27 = .ok (.ireturn, 1) := by decide +kernel
theorem dX13_isMarked_0 : decode cX13_isMarked 0 = .ok (.aload_n 0, 1) := by decide +kernel
theorem dX13_isMarked_1 : decode cX13_isMarked 1 = .ok (.getfield 231, 3) := by decide +kernel
theorem dX13_isMarked_4 : decode cX13_isMarked 4 = .ok (.ifCond .ne 28, 3) := by decide +kernel
theorem dX13_isMarked_7 : decode cX13_isMarked 7 = .ok (.aload_n 0, 1) := by decide +kernel
theorem dX13_isMarked_8 : decode cX13_isMarked 8 = .ok (.getfield 209, 3) := by decide +kernel
theorem dX13_isMarked_11 : decode cX13_isMarked 11 = .ok (.iconst 4, 1) := by decide +kernel
theorem dX13_isMarked_12 : decode cX13_isMarked 12 = .ok (.if_icmp .ne 20, 3) := by decide +kernel
theorem dX13_isMarked_15 : decode cX13_isMarked 15 = .ok (.aload_n 0, 1) := by decide +kernel
theorem dX13_isMarked_16 : decode cX13_isMarked 16 = .ok (.getfield 107, 3) := by decide +kernel
theorem dX13_isMarked_19 : decode cX13_isMarked 19 = .ok (.aload_n 0, 1) := by decide +kernel
theorem dX13_isMarked_20 : decode cX13_isMarked 20 = .ok (.getfield 206, 3) := by decide +kernel
theorem dX13_isMarked_23 : decode cX13_isMarked 23 = .ok (.iaload, 1) := by decide +kernel
theorem dX13_isMarked_24 : decode cX13_isMarked 24 = .ok (.iload_n 1, 1) := by decide +kernel
theorem dX13_isMarked_25 : decode cX13_isMarked 25 = .ok (.if_icmp .ne 7, 3) := by decide +kernel
theorem dX13_isMarked_28 : decode cX13_isMarked 28 = .ok (.iconst 1, 1) := by decide +kernel
theorem dX13_isMarked_29 : decode cX13_isMarked 29 = .ok (.goto 4, 3) := by decide +kernel
theorem dX13_isMarked_32 : decode cX13_isMarked 32 = .ok (.iconst 0, 1) := by decide +kernel
theorem dX13_isMarked_33 : decode cX13_isMarked 33 = .ok (.ireturn, 1) := by decide +kernel
theorem dX13_passes_0 : decode cX13_passes 0 = .ok (.aload_n 0, 1) := by decide +kernel
theorem dX13_passes_1 : decode cX13_passes 1 = .ok (.iload_n 1, 1) := by decide +kernel
theorem dX13_passes_2 : decode cX13_passes 2 = .ok (.invokevirtual 249, 3) := by decide +kernel
theorem dX13_passes_5 : decode cX13_passes 5 = .ok (.istore_n 2, 1) := by decide +kernel
theorem dX13_passes_6 : decode cX13_passes 6 = .ok (.iload_n 2, 1) := by decide +kernel
theorem dX13_passes_7 : decode cX13_passes 7 = .ok (.ifCond .eq 7, 3) := by decide +kernel
theorem dX13_passes_10 : decode cX13_passes 10 = .ok (.aload_n 0, 1) := by decide +kernel
theorem dX13_passes_11 : decode cX13_passes 11 = .ok (.invokevirtual 252, 3) := by decide +kernel
theorem dX13_passes_14 : decode cX13_passes 14 = .ok (.iload_n 2, 1) := by decide +kernel
theorem dX13_passes_15 : decode cX13_passes 15 = .ok (.ireturn, 1) := by decide +kernel
theorem dX13_mark_0 : decode cX13_mark 0 = .ok (.aload_n 0, 1) := by decide +kernel
theorem dX13_mark_1 : decode cX13_mark 1 = .ok (.getfield 231, 3) := by decide +kernel
theorem dX13_mark_4 : decode cX13_mark 4 = .ok (.ifCond .ne 16, 3) := by decide +kernel
theorem dX13_mark_7 : decode cX13_mark 7 = .ok (.aload_n 0, 1) := by decide +kernel
theorem dX13_mark_8 : decode cX13_mark 8 = .ok (.iload_n 1, 1) := by decide +kernel
theorem dX13_mark_9 : decode cX13_mark 9 = .ok (.invokevirtual 249, 3) := by decide +kernel
theorem dX13_mark_12 : decode cX13_mark 12 = .ok (.ifCond .ne 8, 3) := by decide +kernel
theorem dX13_mark_15 : decode cX13_mark 15 = .ok (.aload_n 0, 1) := by decide +kernel
theorem dX13_mark_16 : decode cX13_mark 16 = .ok (.iconst 1, 1) := by decide +kernel
theorem dX13_mark_17 : decode cX13_mark 17 = .ok (.invokevirtual 255, 3) := by decide +kernel
theorem dX13_mark_20 : decode cX13_mark 20 = .ok (.aload_n 0, 1) := by decide +kernel
theorem dX13_mark_21 : decode cX13_mark 21 = .ok (.getfield 231, 3) := by decide +kernel
theorem dX13_mark_24 : decode cX13_mark 24 = .ok (.ifCond .ne 7, 3) := by decide +kernel
theorem dX13_mark_27 : decode cX13_mark 27 = .ok (.aload_n 0, 1) := by decide +kernel
theorem dX13_mark_28 : decode cX13_mark 28 = .ok (.invokevirtual 252, 3) := by decide +kernel
theorem dX13_mark_31 : decode cX13_mark 31 = .ok (.return_, 1) := by decide +kernel
theorem dX13_readNumber_0 : decode cX13_readNumber 0 = .ok (.aload_n 0, 1) := by decide +kernel
theorem dX13_readNumber_1 : decode cX13_readNumber 1 = .ok (.getfield 231, 3) := by decide +kernel
theorem dX13_readNumber_4 : decode cX13_readNumber 4 = .ok (.ifCond .eq 5, 3) := by decide +kernel
theorem dX13_readNumber_7 : decode cX13_readNumber 7 = .ok (.iconst 0, 1) := by decide +kernel
theorem dX13_readNumber_8 : decode cX13_readNumber 8 = .ok (.ireturn, 1) := by decide +kernel
theorem dX13_readNumber_9 : decode cX13_readNumber 9 = .ok (.aload_n 0, 1) := by decide +kernel
theorem dX13_readNumber_10 : decode cX13_readNumber 10 = .ok (.getfield 209, 3) := by decide +kernel
theorem dX13_readNumber_13 : decode cX13_readNumber 13 = .ok (.iconst 2, 1) := by decide +kernel
theorem dX13_readNumber_14 : decode cX13_readNumber 14 = .ok (.if_icmp .eq 11, 3) := by decide +kernel
theorem dX13_readNumber_17 : decode cX13_readNumber 17 = .ok (.aload_n 0, 1) := by decide +kernel
theorem dX13_readNumber_18 : decode cX13_readNumber 18 = .ok (.iconst 1, 1) := by decide +kernel
theorem dX13_readNumber_19 : decode cX13_readNumber 19 = .ok (.invokevirtual 255, 3) := by decide +kernel
theorem dX13_readNumber_22 : decode cX13_readNumber 22 = .ok (.goto 24, 3) := by decide +kernel
theorem dX13_readNumber_25 : decode cX13_readNumber 25 = .ok (.aload_n 0, 1) := by decide +kernel
theorem dX13_readNumber_26 : decode cX13_readNumber 26 = .ok (.getfield 215, 3) := by decide +kernel
theorem dX13_readNumber_29 : decode cX13_readNumber 29 = .ok (.iload_n 1, 1) := by decide +kernel
theorem dX13_readNumber_30 : decode cX13_readNumber 30 = .ok (.if_icmp .lt 11, 3) := by decide +kernel
theorem dX13_readNumber_33 : decode cX13_readNumber 33 = .ok (.aload_n 0, 1) := by decide +kernel
theorem dX13_readNumber_34 : decode cX13_readNumber 34 = .ok (.getfield 215, 3) := by decide +kernel
theorem dX13_readNumber_37 : decode cX13_readNumber 37 = .ok (.iload_n 2, 1) := by decide +kernel
theorem dX13_readNumber_38 : decode cX13_readNumber 38 = .ok (.if_icmp .le 8, 3) := by decide +kernel
theorem dX13_readNumber_41 : decode cX13_readNumber 41 = .ok (.aload_n 0, 1) := by decide +kernel
theorem dX13_readNumber_42 : decode cX13_readNumber 42 = .ok (.iconst 2, 1) := by decide +kernel
theorem dX13_readNumber_43 : decode cX13_readNumber 43 = .ok (.invokevirtual 255, 3) := by decide +kernel
theorem dX13_readNumber_46 : decode cX13_readNumber 46 = .ok (.aload_n 0, 1) := by decide +kernel
theorem dX13_readNumber_47 : decode cX13_readNumber 47 = .ok (.getfield 231, 3) := by decide +kernel
theorem dX13_readNumber_50 : decode cX13_readNumber 50 = .ok (.ifCond .ne 10, 3) := by decide +kernel
theorem dX13_readNumber_53 : decode cX13_readNumber 53 = .ok (.aload_n 0, 1) := by decide +kernel
theorem dX13_readNumber_54 : decode cX13_readNumber 54 = .ok (.getfield 215, 3) := by decide +kernel
theorem dX13_readNumber_57 : decode cX13_readNumber 57 = .ok (.goto 4, 3) := by decide +kernel
theorem dX13_readNumber_60 : decode cX13_readNumber 60 = .ok (.iconst 0, 1) := by decide +kernel
theorem dX13_readNumber_61 : decode cX13_readNumber 61 = .ok (.istore_n 3, 1) := by decide +kernel
theorem dX13_readNumber_62 : decode cX13_readNumber 62 = .ok (.aload_n 0, 1) := by decide +kernel
theorem dX13_readNumber_63 : decode cX13_readNumber 63 = .ok (.getfield 231, 3) := by decide +kernel
theorem dX13_readNumber_66 : decode cX13_readNumber 66 = .ok (.ifCond .ne 7, 3) := by decide +kernel
theorem dX13_readNumber_69 : decode cX13_readNumber 69 = .ok (.aload_n 0, 1) := by decide +kernel
theorem dX13_readNumber_70 : decode cX13_readNumber 70 = .ok (.invokevirtual 252, 3) := by decide +kernel
theorem dX13_readNumber_73 : decode cX13_readNumber 73 = .ok (.iload_n 3, 1) := by decide +kernel
theorem dX13_readNumber_74 : decode cX13_readNumber 74 = .ok (.ireturn, 1) := by decide +kernel
theorem dX13_isName_0 : decode cX13_isName 0 = .ok (.aload_n 0, 1) := by decide +kernel
theorem dX13_isName_1 : decode cX13_isName 1 = .ok (.getfield 117, 3) := by decide +kernel
theorem dX13_isName_4 : decode cX13_isName 4 = .ok (.iload_n 3, 1) := by decide +kernel
theorem dX13_isName_5 : decode cX13_isName 5 = .ok (.iaload, 1) := by decide +kernel
theorem dX13_isName_6 : decode cX13_isName 6 = .ok (.iload_n 2, 1) := by decide +kernel
theorem dX13_isName_7 : decode cX13_isName 7 = .ok (.if_icmp .ne 7, 3) := by decide +kernel
theorem dX13_isName_10 : decode cX13_isName 10 = .ok (.iconst 1, 1) := by decide +kernel
theorem dX13_isName_11 : decode cX13_isName 11 = .ok (.goto 4, 3) := by decide +kernel
theorem dX13_isName_14 : decode cX13_isName 14 = .ok (.iconst 0, 1) := by decide +kernel
theorem dX13_isName_15 : decode cX13_isName 15 = .ok (.istore 4, 2) := by decide +kernel
theorem dX13_isName_17 : decode cX13_isName 17 = .ok (.iconst 0, 1) := by decide +kernel
theorem dX13_isName_18 : decode cX13_isName 18 = .ok (.istore 5, 2) := by decide +kernel
theorem dX13_isName_20 : decode cX13_isName 20 = .ok (.iload 4, 2) := by decide +kernel
theorem dX13_isName_22 : decode cX13_isName 22 = .ok (.ifCond .eq 48, 3) := by decide +kernel
theorem dX13_isName_25 : decode cX13_isName 25 = .ok (.iload 5, 2) := by decide +kernel
theorem dX13_isName_27 : decode cX13_isName 27 = .ok (.iload_n 2, 1) := by decide +kernel
theorem dX13_isName_28 : decode cX13_isName 28 = .ok (.if_icmp .ge 42, 3) := by decide +kernel
theorem dX13_isName_31 : decode cX13_isName 31 = .ok (.aload_n 0, 1) := by decide +kernel
theorem dX13_isName_32 : decode cX13_isName 32 = .ok (.getfield 107, 3) := by decide +kernel
theorem dX13_isName_35 : decode cX13_isName 35 = .ok (.iload_n 1, 1) := by decide +kernel
theorem dX13_isName_36 : decode cX13_isName 36 = .ok (.iload 5, 2) := by decide +kernel
theorem dX13_isName_38 : decode cX13_isName 38 = .ok (.iadd, 1) := by decide +kernel
theorem dX13_isName_39 : decode cX13_isName 39 = .ok (.iaload, 1) := by decide +kernel
theorem dX13_isName_40 : decode cX13_isName 40 = .ok (.aload_n 0, 1) := by decide +kernel
theorem dX13_isName_41 : decode cX13_isName 41 = .ok (.getfield 107, 3) := by decide +kernel
theorem dX13_isName_44 : decode cX13_isName 44 = .ok (.aload_n 0, 1) := by decide +kernel
theorem dX13_isName_45 : decode cX13_isName 45 = .ok (.getfield 114, 3) := by decide +kernel
theorem dX13_isName_48 : decode cX13_isName 48 = .ok (.iload_n 3, 1) := by decide +kernel
theorem dX13_isName_49 : decode cX13_isName 49 = .ok (.iaload, 1) := by decide +kernel
theorem dX13_isName_50 : decode cX13_isName 50 = .ok (.iload 5, 2) := by decide +kernel
theorem dX13_isName_52 : decode cX13_isName 52 = .ok (.iadd, 1) := by decide +kernel
theorem dX13_isName_53 : decode cX13_isName 53 = .ok (.iaload, 1) := by decide +kernel
theorem dX13_isName_54 : decode cX13_isName 54 = .ok (.if_icmp .ne 7, 3) := by decide +kernel
theorem dX13_isName_57 : decode cX13_isName 57 = .ok (.iconst 1, 1) := by decide +kernel
theorem dX13_isName_58 : decode cX13_isName 58 = .ok (.goto 4, 3) := by decide +kernel
theorem dX13_isName_61 : decode cX13_isName 61 = .ok (.iconst 0, 1) := by decide +kernel
theorem dX13_isName_62 : decode cX13_isName 62 = .ok (.istore 4, 2) := by decide +kernel
theorem dX13_isName_64 : decode cX13_isName 64 = .ok (.iinc 5 1, 3) := by decide +kernel
theorem dX13_isName_67 : decode cX13_isName 67 = .ok (.goto (-47), 3) := by decide +kernel
theorem dX13_isName_70 : decode cX13_isName 70 = .ok (.iload 4, 2) := by decide +kernel
theorem dX13_isName_72 : decode cX13_isName 72 = .ok (.ireturn, 1) := by decide +kernel
theorem dX13_named_0 : decode cX13_named 0 = .ok (.iconst 0, 1) := by decide +kernel
theorem dX13_named_1 : decode cX13_named 1 = .ok (.istore_n 3, 1) := by decide +kernel
theorem dX13_named_2 : decode cX13_named 2 = .ok (.iload_n 3, 1) := by decide +kernel
theorem dX13_named_3 : decode cX13_named 3 = .ok (.aload_n 0, 1) := by decide +kernel
theorem dX13_named_4 : decode cX13_named 4 = .ok (.getfield 259, 3) := by decide +kernel
theorem dX13_named_7 : decode cX13_named 7 = .ok (.if_icmp .ge 30, 3) := by decide +kernel
theorem dX13_named_10 : decode cX13_named 10 = .ok (.aload_n 0, 1) := by decide +kernel
theorem dX13_named_11 : decode cX13_named 11 = .ok (.getfield 117, 3) := by decide +kernel
theorem dX13_named_14 : decode cX13_named 14 = .ok (.iload_n 3, 1) := by decide +kernel
theorem dX13_named_15 : decode cX13_named 15 = .ok (.iaload, 1) := by decide +kernel
theorem dX13_named_16 : decode cX13_named 16 = .ok (.ifCond .le 15, 3) := by decide +kernel
theorem dX13_named_19 : decode cX13_named 19 = .ok (.aload_n 0, 1) := by decide +kernel
theorem dX13_named_20 : decode cX13_named 20 = .ok (.iload_n 1, 1) := by decide +kernel
theorem dX13_named_21 : decode cX13_named 21 = .ok (.iload_n 2, 1) := by decide +kernel
theorem dX13_named_22 : decode cX13_named 22 = .ok (.iload_n 3, 1) := by decide +kernel
theorem dX13_named_23 : decode cX13_named 23 = .ok (.invokevirtual 262, 3) := by decide +kernel
theorem dX13_named_26 : decode cX13_named 26 = .ok (.ifCond .eq 5, 3) := by decide +kernel
theorem dX13_named_29 : decode cX13_named 29 = .ok (.iload_n 3, 1) := by decide +kernel
theorem dX13_named_30 : decode cX13_named 30 = .ok (.ireturn, 1) := by decide +kernel
theorem dX13_named_31 : decode cX13_named 31 = .ok (.iinc 3 1, 3) := by decide +kernel
theorem dX13_named_34 : decode cX13_named 34 = .ok (.goto (-32), 3) := by decide +kernel
theorem dX13_named_37 : decode cX13_named 37 = .ok (.iconst (-1), 1) := by decide +kernel
theorem dX13_named_38 : decode cX13_named 38 = .ok (.ireturn, 1) := by decide +kernel
theorem dX13_nameHere_0 : decode cX13_nameHere 0 = .ok (.aload_n 0, 1) := by decide +kernel
theorem dX13_nameHere_1 : decode cX13_nameHere 1 = .ok (.getfield 231, 3) := by decide +kernel
theorem dX13_nameHere_4 : decode cX13_nameHere 4 = .ok (.ifCond .eq 5, 3) := by decide +kernel
theorem dX13_nameHere_7 : decode cX13_nameHere 7 = .ok (.iconst 0, 1) := by decide +kernel
theorem dX13_nameHere_8 : decode cX13_nameHere 8 = .ok (.ireturn, 1) := by decide +kernel
theorem dX13_nameHere_9 : decode cX13_nameHere 9 = .ok (.aload_n 0, 1) := by decide +kernel
theorem dX13_nameHere_10 : decode cX13_nameHere 10 = .ok (.getfield 209, 3) := by decide +kernel
theorem dX13_nameHere_13 : decode cX13_nameHere 13 = .ok (.iconst 1, 1) := by decide +kernel
theorem dX13_nameHere_14 : decode cX13_nameHere 14 = .ok (.if_icmp .ne 27, 3) := by decide +kernel
theorem dX13_nameHere_17 : decode cX13_nameHere 17 = .ok (.aload_n 0, 1) := by decide +kernel
theorem dX13_nameHere_18 : decode cX13_nameHere 18 = .ok (.aload_n 0, 1) := by decide +kernel
theorem dX13_nameHere_19 : decode cX13_nameHere 19 = .ok (.getfield 59, 3) := by decide +kernel
theorem dX13_nameHere_22 : decode cX13_nameHere 22 = .ok (.invokevirtual 266, 3) := by decide +kernel
theorem dX13_nameHere_25 : decode cX13_nameHere 25 = .ok (.iconst (-1), 1) := by decide +kernel
theorem dX13_nameHere_26 : decode cX13_nameHere 26 = .ok (.if_icmp .ne 15, 3) := by decide +kernel
theorem dX13_nameHere_29 : decode cX13_nameHere 29 = .ok (.aload_n 0, 1) := by decide +kernel
theorem dX13_nameHere_30 : decode cX13_nameHere 30 = .ok (.aload_n 0, 1) := by decide +kernel
theorem dX13_nameHere_31 : decode cX13_nameHere 31 = .ok (.getfield 73, 3) := by decide +kernel
theorem dX13_nameHere_34 : decode cX13_nameHere 34 = .ok (.invokevirtual 266, 3) := by decide +kernel
theorem dX13_nameHere_37 : decode cX13_nameHere 37 = .ok (.iconst (-1), 1) := by decide +kernel
theorem dX13_nameHere_38 : decode cX13_nameHere 38 = .ok (.if_icmp .eq 11, 3) := by decide +kernel
theorem dX13_nameHere_41 : decode cX13_nameHere 41 = .ok (.aload_n 0, 1) := by decide +kernel
theorem dX13_nameHere_42 : decode cX13_nameHere 42 = .ok (.iconst 1, 1) := by decide +kernel
theorem dX13_nameHere_43 : decode cX13_nameHere 43 = .ok (.invokevirtual 255, 3) := by decide +kernel
theorem dX13_nameHere_46 : decode cX13_nameHere 46 = .ok (.goto 22, 3) := by decide +kernel
theorem dX13_nameHere_49 : decode cX13_nameHere 49 = .ok (.aload_n 0, 1) := by decide +kernel
theorem dX13_nameHere_50 : decode cX13_nameHere 50 = .ok (.getfield 228, 3) := by decide +kernel
theorem dX13_nameHere_53 : decode cX13_nameHere 53 = .ok (.aload_n 0, 1) := by decide +kernel
theorem dX13_nameHere_54 : decode cX13_nameHere 54 = .ok (.getfield 206, 3) := by decide +kernel
theorem dX13_nameHere_57 : decode cX13_nameHere 57 = .ok (.isub, 1) := by decide +kernel
theorem dX13_nameHere_58 : decode cX13_nameHere 58 = .ok (.bipush 8, 2) := by decide +kernel
theorem dX13_nameHere_60 : decode cX13_nameHere 60 = .ok (.if_icmp .le 8, 3) := by decide +kernel
theorem dX13_nameHere_63 : decode cX13_nameHere 63 = .ok (.aload_n 0, 1) := by decide +kernel
theorem dX13_nameHere_64 : decode cX13_nameHere 64 = .ok (.iconst 2, 1) := by decide +kernel
theorem dX13_nameHere_65 : decode cX13_nameHere 65 = .ok (.invokevirtual 255, 3) := by decide +kernel
theorem dX13_nameHere_68 : decode cX13_nameHere 68 = .ok (.aload_n 0, 1) := by decide +kernel
theorem dX13_nameHere_69 : decode cX13_nameHere 69 = .ok (.getfield 231, 3) := by decide +kernel
theorem dX13_nameHere_72 : decode cX13_nameHere 72 = .ok (.ifCond .ne 7, 3) := by decide +kernel
theorem dX13_nameHere_75 : decode cX13_nameHere 75 = .ok (.iconst 1, 1) := by decide +kernel
theorem dX13_nameHere_76 : decode cX13_nameHere 76 = .ok (.goto 4, 3) := by decide +kernel
theorem dX13_nameHere_79 : decode cX13_nameHere 79 = .ok (.iconst 0, 1) := by decide +kernel
theorem dX13_nameHere_80 : decode cX13_nameHere 80 = .ok (.ireturn, 1) := by decide +kernel
theorem dX13_readLabel_0 : decode cX13_readLabel 0 = .ok (.aload_n 0, 1) := by decide +kernel
theorem dX13_readLabel_1 : decode cX13_readLabel 1 = .ok (.invokevirtual 270, 3) := by decide +kernel
theorem dX13_readLabel_4 : decode cX13_readLabel 4 = .ok (.ifCond .ne 4, 3) := by decide +kernel
theorem dX13_readLabel_7 : decode cX13_readLabel 7 = .ok (.return_, 1) := by decide +kernel
theorem dX13_readLabel_8 : decode cX13_readLabel 8 = .ok (.aload_n 0, 1) := by decide +kernel
theorem dX13_readLabel_9 : decode cX13_readLabel 9 = .ok (.aload_n 0, 1) := by decide +kernel
theorem dX13_readLabel_10 : decode cX13_readLabel 10 = .ok (.getfield 206, 3) := by decide +kernel
theorem dX13_readLabel_13 : decode cX13_readLabel 13 = .ok (.aload_n 0, 1) := by decide +kernel
theorem dX13_readLabel_14 : decode cX13_readLabel 14 = .ok (.getfield 228, 3) := by decide +kernel
theorem dX13_readLabel_17 : decode cX13_readLabel 17 = .ok (.aload_n 0, 1) := by decide +kernel
theorem dX13_readLabel_18 : decode cX13_readLabel 18 = .ok (.getfield 206, 3) := by decide +kernel
theorem dX13_readLabel_21 : decode cX13_readLabel 21 = .ok (.isub, 1) := by decide +kernel
theorem dX13_readLabel_22 : decode cX13_readLabel 22 = .ok (.invokevirtual 274, 3) := by decide +kernel
theorem dX13_readLabel_25 : decode cX13_readLabel 25 = .ok (.iconst (-1), 1) := by decide +kernel
theorem dX13_readLabel_26 : decode cX13_readLabel 26 = .ok (.if_icmp .eq 8, 3) := by decide +kernel
theorem dX13_readLabel_29 : decode cX13_readLabel 29 = .ok (.aload_n 0, 1) := by decide +kernel
theorem dX13_readLabel_30 : decode cX13_readLabel 30 = .ok (.iconst 4, 1) := by decide +kernel
theorem dX13_readLabel_31 : decode cX13_readLabel 31 = .ok (.invokevirtual 255, 3) := by decide +kernel
theorem dX13_readLabel_34 : decode cX13_readLabel 34 = .ok (.aload_n 0, 1) := by decide +kernel
theorem dX13_readLabel_35 : decode cX13_readLabel 35 = .ok (.getfield 114, 3) := by decide +kernel
theorem dX13_readLabel_38 : decode cX13_readLabel 38 = .ok (.aload_n 0, 1) := by decide +kernel
theorem dX13_readLabel_39 : decode cX13_readLabel 39 = .ok (.getfield 259, 3) := by decide +kernel
theorem dX13_readLabel_42 : decode cX13_readLabel 42 = .ok (.aload_n 0, 1) := by decide +kernel
theorem dX13_readLabel_43 : decode cX13_readLabel 43 = .ok (.getfield 206, 3) := by decide +kernel
theorem dX13_readLabel_46 : decode cX13_readLabel 46 = .ok (.iastore, 1) := by decide +kernel
theorem dX13_readLabel_47 : decode cX13_readLabel 47 = .ok (.aload_n 0, 1) := by decide +kernel
theorem dX13_readLabel_48 : decode cX13_readLabel 48 = .ok (.getfield 117, 3) := by decide +kernel
theorem dX13_readLabel_51 : decode cX13_readLabel 51 = .ok (.aload_n 0, 1) := by decide +kernel
theorem dX13_readLabel_52 : decode cX13_readLabel 52 = .ok (.getfield 259, 3) := by decide +kernel
theorem dX13_readLabel_55 : decode cX13_readLabel 55 = .ok (.aload_n 0, 1) := by decide +kernel
theorem dX13_readLabel_56 : decode cX13_readLabel 56 = .ok (.getfield 228, 3) := by decide +kernel
theorem dX13_readLabel_59 : decode cX13_readLabel 59 = .ok (.aload_n 0, 1) := by decide +kernel
theorem dX13_readLabel_60 : decode cX13_readLabel 60 = .ok (.getfield 206, 3) := by decide +kernel
theorem dX13_readLabel_63 : decode cX13_readLabel 63 = .ok (.isub, 1) := by decide +kernel
theorem dX13_readLabel_64 : decode cX13_readLabel 64 = .ok (.iastore, 1) := by decide +kernel
theorem dX13_readLabel_65 : decode cX13_readLabel 65 = .ok (.aload_n 0, 1) := by decide +kernel
theorem dX13_readLabel_66 : decode cX13_readLabel 66 = .ok (.getfield 231, 3) := by decide +kernel
theorem dX13_readLabel_69 : decode cX13_readLabel 69 = .ok (.ifCond .ne 7, 3) := by decide +kernel
theorem dX13_readLabel_72 : decode cX13_readLabel 72 = .ok (.aload_n 0, 1) := by decide +kernel
theorem dX13_readLabel_73 : decode cX13_readLabel 73 = .ok (.invokevirtual 252, 3) := by decide +kernel
theorem dX13_readLabel_76 : decode cX13_readLabel 76 = .ok (.aload_n 0, 1) := by decide +kernel
theorem dX13_readLabel_77 : decode cX13_readLabel 77 = .ok (.bipush 58, 2) := by decide +kernel
theorem dX13_readLabel_79 : decode cX13_readLabel 79 = .ok (.invokevirtual 277, 3) := by decide +kernel
theorem dX13_readLabel_82 : decode cX13_readLabel 82 = .ok (.return_, 1) := by decide +kernel
theorem dX13_readTarget_0 : decode cX13_readTarget 0 = .ok (.aload_n 0, 1) := by decide +kernel
theorem dX13_readTarget_1 : decode cX13_readTarget 1 = .ok (.invokevirtual 270, 3) := by decide +kernel
theorem dX13_readTarget_4 : decode cX13_readTarget 4 = .ok (.ifCond .ne 4, 3) := by decide +kernel
theorem dX13_readTarget_7 : decode cX13_readTarget 7 = .ok (.return_, 1) := by decide +kernel
theorem dX13_readTarget_8 : decode cX13_readTarget 8 = .ok (.aload_n 0, 1) := by decide +kernel
theorem dX13_readTarget_9 : decode cX13_readTarget 9 = .ok (.getfield 120, 3) := by decide +kernel
theorem dX13_readTarget_12 : decode cX13_readTarget 12 = .ok (.aload_n 0, 1) := by decide +kernel
theorem dX13_readTarget_13 : decode cX13_readTarget 13 = .ok (.getfield 259, 3) := by decide +kernel
theorem dX13_readTarget_16 : decode cX13_readTarget 16 = .ok (.aload_n 0, 1) := by decide +kernel
theorem dX13_readTarget_17 : decode cX13_readTarget 17 = .ok (.getfield 206, 3) := by decide +kernel
theorem dX13_readTarget_20 : decode cX13_readTarget 20 = .ok (.iastore, 1) := by decide +kernel
theorem dX13_readTarget_21 : decode cX13_readTarget 21 = .ok (.aload_n 0, 1) := by decide +kernel
theorem dX13_readTarget_22 : decode cX13_readTarget 22 = .ok (.getfield 123, 3) := by decide +kernel
theorem dX13_readTarget_25 : decode cX13_readTarget 25 = .ok (.aload_n 0, 1) := by decide +kernel
theorem dX13_readTarget_26 : decode cX13_readTarget 26 = .ok (.getfield 259, 3) := by decide +kernel
theorem dX13_readTarget_29 : decode cX13_readTarget 29 = .ok (.aload_n 0, 1) := by decide +kernel
theorem dX13_readTarget_30 : decode cX13_readTarget 30 = .ok (.getfield 228, 3) := by decide +kernel
theorem dX13_readTarget_33 : decode cX13_readTarget 33 = .ok (.aload_n 0, 1) := by decide +kernel
theorem dX13_readTarget_34 : decode cX13_readTarget 34 = .ok (.getfield 206, 3) := by decide +kernel
theorem dX13_readTarget_37 : decode cX13_readTarget 37 = .ok (.isub, 1) := by decide +kernel
theorem dX13_readTarget_38 : decode cX13_readTarget 38 = .ok (.iastore, 1) := by decide +kernel
theorem dX13_readTarget_39 : decode cX13_readTarget 39 = .ok (.aload_n 0, 1) := by decide +kernel
theorem dX13_readTarget_40 : decode cX13_readTarget 40 = .ok (.invokevirtual 252, 3) := by decide +kernel
theorem dX13_readTarget_43 : decode cX13_readTarget 43 = .ok (.return_, 1) := by decide +kernel
theorem dX13_worthOf_0 : decode cX13_worthOf 0 = .ok (.iload_n 0, 1) := by decide +kernel
theorem dX13_worthOf_1 : decode cX13_worthOf 1 = .ok (.invokestatic 196, 3) := by decide +kernel
theorem dX13_worthOf_4 : decode cX13_worthOf 4 = .ok (.ifCond .eq 10, 3) := by decide +kernel
theorem dX13_worthOf_7 : decode cX13_worthOf 7 = .ok (.iload_n 0, 1) := by decide +kernel
theorem dX13_worthOf_8 : decode cX13_worthOf 8 = .ok (.bipush 48, 2) := by decide +kernel
theorem dX13_worthOf_10 : decode cX13_worthOf 10 = .ok (.isub, 1) := by decide +kernel
theorem dX13_worthOf_11 : decode cX13_worthOf 11 = .ok (.goto 10, 3) := by decide +kernel
theorem dX13_worthOf_14 : decode cX13_worthOf 14 = .ok (.iload_n 0, 1) := by decide +kernel
theorem dX13_worthOf_15 : decode cX13_worthOf 15 = .ok (.bipush 97, 2) := by decide +kernel
theorem dX13_worthOf_17 : decode cX13_worthOf 17 = .ok (.isub, 1) := by decide +kernel
theorem dX13_worthOf_18 : decode cX13_worthOf 18 = .ok (.bipush 10, 2) := by decide +kernel
theorem dX13_worthOf_20 : decode cX13_worthOf 20 = .ok (.iadd, 1) := by decide +kernel
theorem dX13_worthOf_21 : decode cX13_worthOf 21 = .ok (.ireturn, 1) := by decide +kernel
theorem dX13_readHex_0 : decode cX13_readHex 0 = .ok (.aload_n 0, 1) := by decide +kernel
theorem dX13_readHex_1 : decode cX13_readHex 1 = .ok (.getfield 228, 3) := by decide +kernel
theorem dX13_readHex_4 : decode cX13_readHex 4 = .ok (.aload_n 0, 1) := by decide +kernel
theorem dX13_readHex_5 : decode cX13_readHex 5 = .ok (.getfield 206, 3) := by decide +kernel
theorem dX13_readHex_8 : decode cX13_readHex 8 = .ok (.isub, 1) := by decide +kernel
theorem dX13_readHex_9 : decode cX13_readHex 9 = .ok (.iconst 1, 1) := by decide +kernel
theorem dX13_readHex_10 : decode cX13_readHex 10 = .ok (.isub, 1) := by decide +kernel
theorem dX13_readHex_11 : decode cX13_readHex 11 = .ok (.istore_n 2, 1) := by decide +kernel
theorem dX13_readHex_12 : decode cX13_readHex 12 = .ok (.iload_n 2, 1) := by decide +kernel
theorem dX13_readHex_13 : decode cX13_readHex 13 = .ok (.iconst 2, 1) := by decide +kernel
theorem dX13_readHex_14 : decode cX13_readHex 14 = .ok (.irem, 1) := by decide +kernel
theorem dX13_readHex_15 : decode cX13_readHex 15 = .ok (.iconst 1, 1) := by decide +kernel
theorem dX13_readHex_16 : decode cX13_readHex 16 = .ok (.if_icmp .eq 14, 3) := by decide +kernel
theorem dX13_readHex_19 : decode cX13_readHex 19 = .ok (.iload_n 1, 1) := by decide +kernel
theorem dX13_readHex_20 : decode cX13_readHex 20 = .ok (.iload_n 2, 1) := by decide +kernel
theorem dX13_readHex_21 : decode cX13_readHex 21 = .ok (.iconst 2, 1) := by decide +kernel
theorem dX13_readHex_22 : decode cX13_readHex 22 = .ok (.idiv, 1) := by decide +kernel
theorem dX13_readHex_23 : decode cX13_readHex 23 = .ok (.iadd, 1) := by decide +kernel
theorem dX13_readHex_24 : decode cX13_readHex 24 = .ok (.sipush 256, 3) := by decide +kernel
theorem dX13_readHex_27 : decode cX13_readHex 27 = .ok (.if_icmp .le 8, 3) := by decide +kernel
theorem dX13_readHex_30 : decode cX13_readHex 30 = .ok (.aload_n 0, 1) := by decide +kernel
theorem dX13_readHex_31 : decode cX13_readHex 31 = .ok (.iconst 2, 1) := by decide +kernel
theorem dX13_readHex_32 : decode cX13_readHex 32 = .ok (.invokevirtual 255, 3) := by decide +kernel
theorem dX13_readHex_35 : decode cX13_readHex 35 = .ok (.iconst 0, 1) := by decide +kernel
theorem dX13_readHex_36 : decode cX13_readHex 36 = .ok (.istore_n 3, 1) := by decide +kernel
theorem dX13_readHex_37 : decode cX13_readHex 37 = .ok (.aload_n 0, 1) := by decide +kernel
theorem dX13_readHex_38 : decode cX13_readHex 38 = .ok (.getfield 231, 3) := by decide +kernel
theorem dX13_readHex_41 : decode cX13_readHex 41 = .ok (.ifCond .ne 64, 3) := by decide +kernel
theorem dX13_readHex_44 : decode cX13_readHex 44 = .ok (.iload_n 3, 1) := by decide +kernel
theorem dX13_readHex_45 : decode cX13_readHex 45 = .ok (.iload_n 2, 1) := by decide +kernel
theorem dX13_readHex_46 : decode cX13_readHex 46 = .ok (.if_icmp .ge 59, 3) := by decide +kernel
theorem dX13_readHex_49 : decode cX13_readHex 49 = .ok (.aload_n 0, 1) := by decide +kernel
theorem dX13_readHex_50 : decode cX13_readHex 50 = .ok (.getfield 104, 3) := by decide +kernel
theorem dX13_readHex_53 : decode cX13_readHex 53 = .ok (.sipush 256, 3) := by decide +kernel
theorem dX13_readHex_56 : decode cX13_readHex 56 = .ok (.iload_n 1, 1) := by decide +kernel
theorem dX13_readHex_57 : decode cX13_readHex 57 = .ok (.iadd, 1) := by decide +kernel
theorem dX13_readHex_58 : decode cX13_readHex 58 = .ok (.iload_n 3, 1) := by decide +kernel
theorem dX13_readHex_59 : decode cX13_readHex 59 = .ok (.iconst 2, 1) := by decide +kernel
theorem dX13_readHex_60 : decode cX13_readHex 60 = .ok (.idiv, 1) := by decide +kernel
theorem dX13_readHex_61 : decode cX13_readHex 61 = .ok (.iadd, 1) := by decide +kernel
theorem dX13_readHex_62 : decode cX13_readHex 62 = .ok (.bipush 16, 2) := by decide +kernel
theorem dX13_readHex_64 : decode cX13_readHex 64 = .ok (.aload_n 0, 1) := by decide +kernel
theorem dX13_readHex_65 : decode cX13_readHex 65 = .ok (.getfield 107, 3) := by decide +kernel
theorem dX13_readHex_68 : decode cX13_readHex 68 = .ok (.aload_n 0, 1) := by decide +kernel
theorem dX13_readHex_69 : decode cX13_readHex 69 = .ok (.getfield 206, 3) := by decide +kernel
theorem dX13_readHex_72 : decode cX13_readHex 72 = .ok (.iconst 1, 1) := by decide +kernel
theorem dX13_readHex_73 : decode cX13_readHex 73 = .ok (.iadd, 1) := by decide +kernel
theorem dX13_readHex_74 : decode cX13_readHex 74 = .ok (.iload_n 3, 1) := by decide +kernel
theorem dX13_readHex_75 : decode cX13_readHex 75 = .ok (.iadd, 1) := by decide +kernel
theorem dX13_readHex_76 : decode cX13_readHex 76 = .ok (.iaload, 1) := by decide +kernel
theorem dX13_readHex_77 : decode cX13_readHex 77 = .ok (.invokestatic 279, 3) := by decide +kernel
theorem dX13_readHex_80 : decode cX13_readHex 80 = .ok (.imul, 1) := by decide +kernel
theorem dX13_readHex_81 : decode cX13_readHex 81 = .ok (.aload_n 0, 1) := by decide +kernel
theorem dX13_readHex_82 : decode cX13_readHex 82 = .ok (.getfield 107, 3) := by decide +kernel
theorem dX13_readHex_85 : decode cX13_readHex 85 = .ok (.aload_n 0, 1) := by decide +kernel
theorem dX13_readHex_86 : decode cX13_readHex 86 = .ok (.getfield 206, 3) := by decide +kernel
theorem dX13_readHex_89 : decode cX13_readHex 89 = .ok (.iconst 2, 1) := by decide +kernel
theorem dX13_readHex_90 : decode cX13_readHex 90 = .ok (.iadd, 1) := by decide +kernel
theorem dX13_readHex_91 : decode cX13_readHex 91 = .ok (.iload_n 3, 1) := by decide +kernel
theorem dX13_readHex_92 : decode cX13_readHex 92 = .ok (.iadd, 1) := by decide +kernel
theorem dX13_readHex_93 : decode cX13_readHex 93 = .ok (.iaload, 1) := by decide +kernel
theorem dX13_readHex_94 : decode cX13_readHex 94 = .ok (.invokestatic 279, 3) := by decide +kernel
theorem dX13_readHex_97 : decode cX13_readHex 97 = .ok (.iadd, 1) := by decide +kernel
theorem dX13_readHex_98 : decode cX13_readHex 98 = .ok (.iastore, 1) := by decide +kernel
theorem dX13_readHex_99 : decode cX13_readHex 99 = .ok (.iinc 3 2, 3) := by decide +kernel
theorem dX13_readHex_102 : decode cX13_readHex 102 = .ok (.goto (-65), 3) := by decide +kernel
theorem dX13_readHex_105 : decode cX13_readHex 105 = .ok (.aload_n 0, 1) := by decide +kernel
theorem dX13_readHex_106 : decode cX13_readHex 106 = .ok (.getfield 231, 3) := by decide +kernel
theorem dX13_readHex_109 : decode cX13_readHex 109 = .ok (.ifCond .ne 7, 3) := by decide +kernel
theorem dX13_readHex_112 : decode cX13_readHex 112 = .ok (.aload_n 0, 1) := by decide +kernel
theorem dX13_readHex_113 : decode cX13_readHex 113 = .ok (.invokevirtual 252, 3) := by decide +kernel
theorem dX13_readHex_116 : decode cX13_readHex 116 = .ok (.return_, 1) := by decide +kernel
theorem dX13_readDigits_0 : decode cX13_readDigits 0 = .ok (.aload_n 0, 1) := by decide +kernel
theorem dX13_readDigits_1 : decode cX13_readDigits 1 = .ok (.invokevirtual 252, 3) := by decide +kernel
theorem dX13_readDigits_4 : decode cX13_readDigits 4 = .ok (.aload_n 0, 1) := by decide +kernel
theorem dX13_readDigits_5 : decode cX13_readDigits 5 = .ok (.bipush 45, 2) := by decide +kernel
theorem dX13_readDigits_7 : decode cX13_readDigits 7 = .ok (.invokevirtual 282, 3) := by decide +kernel
theorem dX13_readDigits_10 : decode cX13_readDigits 10 = .ok (.ifCond .eq 8, 3) := by decide +kernel
theorem dX13_readDigits_13 : decode cX13_readDigits 13 = .ok (.bipush 13, 2) := by decide +kernel
theorem dX13_readDigits_15 : decode cX13_readDigits 15 = .ok (.goto 5, 3) := by decide +kernel
theorem dX13_readDigits_18 : decode cX13_readDigits 18 = .ok (.bipush 12, 2) := by decide +kernel
theorem dX13_readDigits_20 : decode cX13_readDigits 20 = .ok (.istore_n 3, 1) := by decide +kernel
theorem dX13_readDigits_21 : decode cX13_readDigits 21 = .ok (.aload_n 0, 1) := by decide +kernel
theorem dX13_readDigits_22 : decode cX13_readDigits 22 = .ok (.getfield 231, 3) := by decide +kernel
theorem dX13_readDigits_25 : decode cX13_readDigits 25 = .ok (.ifCond .ne 16, 3) := by decide +kernel
theorem dX13_readDigits_28 : decode cX13_readDigits 28 = .ok (.aload_n 0, 1) := by decide +kernel
theorem dX13_readDigits_29 : decode cX13_readDigits 29 = .ok (.getfield 209, 3) := by decide +kernel
theorem dX13_readDigits_32 : decode cX13_readDigits 32 = .ok (.iconst 2, 1) := by decide +kernel
theorem dX13_readDigits_33 : decode cX13_readDigits 33 = .ok (.if_icmp .eq 8, 3) := by decide +kernel
theorem dX13_readDigits_36 : decode cX13_readDigits 36 = .ok (.aload_n 0, 1) := by decide +kernel
theorem dX13_readDigits_37 : decode cX13_readDigits 37 = .ok (.iconst 1, 1) := by decide +kernel
theorem dX13_readDigits_38 : decode cX13_readDigits 38 = .ok (.invokevirtual 255, 3) := by decide +kernel
theorem dX13_readDigits_41 : decode cX13_readDigits 41 = .ok (.aload_n 0, 1) := by decide +kernel
theorem dX13_readDigits_42 : decode cX13_readDigits 42 = .ok (.getfield 206, 3) := by decide +kernel
theorem dX13_readDigits_45 : decode cX13_readDigits 45 = .ok (.istore 4, 2) := by decide +kernel
theorem dX13_readDigits_47 : decode cX13_readDigits 47 = .ok (.aload_n 0, 1) := by decide +kernel
theorem dX13_readDigits_48 : decode cX13_readDigits 48 = .ok (.getfield 228, 3) := by decide +kernel
theorem dX13_readDigits_51 : decode cX13_readDigits 51 = .ok (.aload_n 0, 1) := by decide +kernel
theorem dX13_readDigits_52 : decode cX13_readDigits 52 = .ok (.getfield 206, 3) := by decide +kernel
theorem dX13_readDigits_55 : decode cX13_readDigits 55 = .ok (.isub, 1) := by decide +kernel
theorem dX13_readDigits_56 : decode cX13_readDigits 56 = .ok (.istore 5, 2) := by decide +kernel
theorem dX13_readDigits_58 : decode cX13_readDigits 58 = .ok (.aload_n 0, 1) := by decide +kernel
theorem dX13_readDigits_59 : decode cX13_readDigits 59 = .ok (.getfield 231, 3) := by decide +kernel
theorem dX13_readDigits_62 : decode cX13_readDigits 62 = .ok (.ifCond .ne 7, 3) := by decide +kernel
theorem dX13_readDigits_65 : decode cX13_readDigits 65 = .ok (.aload_n 0, 1) := by decide +kernel
theorem dX13_readDigits_66 : decode cX13_readDigits 66 = .ok (.invokevirtual 252, 3) := by decide +kernel
theorem dX13_readDigits_69 : decode cX13_readDigits 69 = .ok (.aload_n 0, 1) := by decide +kernel
theorem dX13_readDigits_70 : decode cX13_readDigits 70 = .ok (.getfield 231, 3) := by decide +kernel
theorem dX13_readDigits_73 : decode cX13_readDigits 73 = .ok (.ifCond .ne 17, 3) := by decide +kernel
theorem dX13_readDigits_76 : decode cX13_readDigits 76 = .ok (.aload_n 0, 1) := by decide +kernel
theorem dX13_readDigits_77 : decode cX13_readDigits 77 = .ok (.ldc 71, 2) := by decide +kernel
theorem dX13_readDigits_79 : decode cX13_readDigits 79 = .ok (.invokevirtual 245, 3) := by decide +kernel
theorem dX13_readDigits_82 : decode cX13_readDigits 82 = .ok (.ifCond .ne 8, 3) := by decide +kernel
theorem dX13_readDigits_85 : decode cX13_readDigits 85 = .ok (.aload_n 0, 1) := by decide +kernel
theorem dX13_readDigits_86 : decode cX13_readDigits 86 = .ok (.iconst 1, 1) := by decide +kernel
theorem dX13_readDigits_87 : decode cX13_readDigits 87 = .ok (.invokevirtual 255, 3) := by decide +kernel
theorem dX13_readDigits_90 : decode cX13_readDigits 90 = .ok (.aload_n 0, 1) := by decide +kernel
theorem dX13_readDigits_91 : decode cX13_readDigits 91 = .ok (.getfield 231, 3) := by decide +kernel
theorem dX13_readDigits_94 : decode cX13_readDigits 94 = .ok (.ifCond .ne 7, 3) := by decide +kernel
theorem dX13_readDigits_97 : decode cX13_readDigits 97 = .ok (.aload_n 0, 1) := by decide +kernel
theorem dX13_readDigits_98 : decode cX13_readDigits 98 = .ok (.invokevirtual 252, 3) := by decide +kernel
theorem dX13_readDigits_101 : decode cX13_readDigits 101 = .ok (.aload_n 0, 1) := by decide +kernel
theorem dX13_readDigits_102 : decode cX13_readDigits 102 = .ok (.getfield 231, 3) := by decide +kernel
theorem dX13_readDigits_105 : decode cX13_readDigits 105 = .ok (.ifCond .eq 4, 3) := by decide +kernel
theorem dX13_readDigits_108 : decode cX13_readDigits 108 = .ok (.return_, 1) := by decide +kernel
theorem dX13_readDigits_109 : decode cX13_readDigits 109 = .ok (.aload_n 0, 1) := by decide +kernel
theorem dX13_readDigits_110 : decode cX13_readDigits 110 = .ok (.getfield 209, 3) := by decide +kernel
theorem dX13_readDigits_113 : decode cX13_readDigits 113 = .ok (.iconst 2, 1) := by decide +kernel
theorem dX13_readDigits_114 : decode cX13_readDigits 114 = .ok (.if_icmp .ne 10, 3) := by decide +kernel
theorem dX13_readDigits_117 : decode cX13_readDigits 117 = .ok (.aload_n 0, 1) := by decide +kernel
theorem dX13_readDigits_118 : decode cX13_readDigits 118 = .ok (.getfield 215, 3) := by decide +kernel
theorem dX13_readDigits_121 : decode cX13_readDigits 121 = .ok (.goto 4, 3) := by decide +kernel
theorem dX13_readDigits_124 : decode cX13_readDigits 124 = .ok (.iconst 1, 1) := by decide +kernel
theorem dX13_readDigits_125 : decode cX13_readDigits 125 = .ok (.istore 6, 2) := by decide +kernel
theorem dX13_readDigits_127 : decode cX13_readDigits 127 = .ok (.aload_n 0, 1) := by decide +kernel
theorem dX13_readDigits_128 : decode cX13_readDigits 128 = .ok (.getfield 209, 3) := by decide +kernel
theorem dX13_readDigits_131 : decode cX13_readDigits 131 = .ok (.iconst 2, 1) := by decide +kernel
theorem dX13_readDigits_132 : decode cX13_readDigits 132 = .ok (.if_icmp .eq 11, 3) := by decide +kernel
theorem dX13_readDigits_135 : decode cX13_readDigits 135 = .ok (.aload_n 0, 1) := by decide +kernel
theorem dX13_readDigits_136 : decode cX13_readDigits 136 = .ok (.iconst 1, 1) := by decide +kernel
theorem dX13_readDigits_137 : decode cX13_readDigits 137 = .ok (.invokevirtual 255, 3) := by decide +kernel
theorem dX13_readDigits_140 : decode cX13_readDigits 140 = .ok (.goto 51, 3) := by decide +kernel
theorem dX13_readDigits_143 : decode cX13_readDigits 143 = .ok (.iload 6, 2) := by decide +kernel
theorem dX13_readDigits_145 : decode cX13_readDigits 145 = .ok (.i2l, 1) := by decide +kernel
theorem dX13_readDigits_146 : decode cX13_readDigits 146 = .ok (.lconst 1, 1) := by decide +kernel
theorem dX13_readDigits_147 : decode cX13_readDigits 147 = .ok (.ldc2_w 285, 3) := by decide +kernel
theorem dX13_readDigits_150 : decode cX13_readDigits 150 = .ok (.invokestatic 287, 3) := by decide +kernel
theorem dX13_readDigits_153 : decode cX13_readDigits 153 = .ok (.ifCond .eq 33, 3) := by decide +kernel
theorem dX13_readDigits_156 : decode cX13_readDigits 156 = .ok (.iload_n 1, 1) := by decide +kernel
theorem dX13_readDigits_157 : decode cX13_readDigits 157 = .ok (.iload 6, 2) := by decide +kernel
theorem dX13_readDigits_159 : decode cX13_readDigits 159 = .ok (.iadd, 1) := by decide +kernel
theorem dX13_readDigits_160 : decode cX13_readDigits 160 = .ok (.sipush 256, 3) := by decide +kernel
theorem dX13_readDigits_163 : decode cX13_readDigits 163 = .ok (.if_icmp .gt 23, 3) := by decide +kernel
theorem dX13_readDigits_166 : decode cX13_readDigits 166 = .ok (.iload 5, 2) := by decide +kernel
theorem dX13_readDigits_168 : decode cX13_readDigits 168 = .ok (.iload_n 2, 1) := by decide +kernel
theorem dX13_readDigits_169 : decode cX13_readDigits 169 = .ok (.ifCond .eq 12, 3) := by decide +kernel
theorem dX13_readDigits_172 : decode cX13_readDigits 172 = .ok (.iconst 2, 1) := by decide +kernel
theorem dX13_readDigits_173 : decode cX13_readDigits 173 = .ok (.iload 6, 2) := by decide +kernel
theorem dX13_readDigits_175 : decode cX13_readDigits 175 = .ok (.imul, 1) := by decide +kernel
theorem dX13_readDigits_176 : decode cX13_readDigits 176 = .ok (.iconst 1, 1) := by decide +kernel
theorem dX13_readDigits_177 : decode cX13_readDigits 177 = .ok (.isub, 1) := by decide +kernel
theorem dX13_readDigits_178 : decode cX13_readDigits 178 = .ok (.goto 5, 3) := by decide +kernel
theorem dX13_readDigits_181 : decode cX13_readDigits 181 = .ok (.iload 6, 2) := by decide +kernel
theorem dX13_readDigits_183 : decode cX13_readDigits 183 = .ok (.if_icmp .le 8, 3) := by decide +kernel
theorem dX13_readDigits_186 : decode cX13_readDigits 186 = .ok (.aload_n 0, 1) := by decide +kernel
theorem dX13_readDigits_187 : decode cX13_readDigits 187 = .ok (.iconst 2, 1) := by decide +kernel
theorem dX13_readDigits_188 : decode cX13_readDigits 188 = .ok (.invokevirtual 255, 3) := by decide +kernel
theorem dX13_readDigits_191 : decode cX13_readDigits 191 = .ok (.aload_n 0, 1) := by decide +kernel
theorem dX13_readDigits_192 : decode cX13_readDigits 192 = .ok (.getfield 231, 3) := by decide +kernel
theorem dX13_readDigits_195 : decode cX13_readDigits 195 = .ok (.ifCond .eq 4, 3) := by decide +kernel
theorem dX13_readDigits_198 : decode cX13_readDigits 198 = .ok (.return_, 1) := by decide +kernel
theorem dX13_readDigits_199 : decode cX13_readDigits 199 = .ok (.aload_n 0, 1) := by decide +kernel
theorem dX13_readDigits_200 : decode cX13_readDigits 200 = .ok (.invokevirtual 252, 3) := by decide +kernel
theorem dX13_readDigits_203 : decode cX13_readDigits 203 = .ok (.iconst 0, 1) := by decide +kernel
theorem dX13_readDigits_204 : decode cX13_readDigits 204 = .ok (.istore 7, 2) := by decide +kernel
theorem dX13_readDigits_206 : decode cX13_readDigits 206 = .ok (.iload 7, 2) := by decide +kernel
theorem dX13_readDigits_208 : decode cX13_readDigits 208 = .ok (.iload 6, 2) := by decide +kernel
theorem dX13_readDigits_210 : decode cX13_readDigits 210 = .ok (.if_icmp .ge 33, 3) := by decide +kernel
theorem dX13_readDigits_213 : decode cX13_readDigits 213 = .ok (.aload_n 0, 1) := by decide +kernel
theorem dX13_readDigits_214 : decode cX13_readDigits 214 = .ok (.getfield 104, 3) := by decide +kernel
theorem dX13_readDigits_217 : decode cX13_readDigits 217 = .ok (.sipush 256, 3) := by decide +kernel
theorem dX13_readDigits_220 : decode cX13_readDigits 220 = .ok (.iload_n 1, 1) := by decide +kernel
theorem dX13_readDigits_221 : decode cX13_readDigits 221 = .ok (.iadd, 1) := by decide +kernel
theorem dX13_readDigits_222 : decode cX13_readDigits 222 = .ok (.iload 7, 2) := by decide +kernel
theorem dX13_readDigits_224 : decode cX13_readDigits 224 = .ok (.iadd, 1) := by decide +kernel
theorem dX13_readDigits_225 : decode cX13_readDigits 225 = .ok (.iload_n 2, 1) := by decide +kernel
theorem dX13_readDigits_226 : decode cX13_readDigits 226 = .ok (.ifCond .eq 7, 3) := by decide +kernel
theorem dX13_readDigits_229 : decode cX13_readDigits 229 = .ok (.iconst 0, 1) := by decide +kernel
theorem dX13_readDigits_230 : decode cX13_readDigits 230 = .ok (.goto 6, 3) := by decide +kernel
theorem dX13_readDigits_233 : decode cX13_readDigits 233 = .ok (.sipush 240, 3) := by decide +kernel
theorem dX13_readDigits_236 : decode cX13_readDigits 236 = .ok (.iastore, 1) := by decide +kernel
theorem dX13_readDigits_237 : decode cX13_readDigits 237 = .ok (.iinc 7 1, 3) := by decide +kernel
theorem dX13_readDigits_240 : decode cX13_readDigits 240 = .ok (.goto (-34), 3) := by decide +kernel
theorem dX13_readDigits_243 : decode cX13_readDigits 243 = .ok (.iconst 0, 1) := by decide +kernel
theorem dX13_readDigits_244 : decode cX13_readDigits 244 = .ok (.istore 7, 2) := by decide +kernel
theorem dX13_readDigits_246 : decode cX13_readDigits 246 = .ok (.iload 7, 2) := by decide +kernel
theorem dX13_readDigits_248 : decode cX13_readDigits 248 = .ok (.iload 5, 2) := by decide +kernel
theorem dX13_readDigits_250 : decode cX13_readDigits 250 = .ok (.if_icmp .ge 101, 3) := by decide +kernel
theorem dX13_readDigits_253 : decode cX13_readDigits 253 = .ok (.aload_n 0, 1) := by decide +kernel
theorem dX13_readDigits_254 : decode cX13_readDigits 254 = .ok (.getfield 107, 3) := by decide +kernel
theorem dX13_readDigits_257 : decode cX13_readDigits 257 = .ok (.iload 4, 2) := by decide +kernel
theorem dX13_readDigits_259 : decode cX13_readDigits 259 = .ok (.iload 5, 2) := by decide +kernel
theorem dX13_readDigits_261 : decode cX13_readDigits 261 = .ok (.iadd, 1) := by decide +kernel
theorem dX13_readDigits_262 : decode cX13_readDigits 262 = .ok (.iconst 1, 1) := by decide +kernel
theorem dX13_readDigits_263 : decode cX13_readDigits 263 = .ok (.isub, 1) := by decide +kernel
theorem dX13_readDigits_264 : decode cX13_readDigits 264 = .ok (.iload 7, 2) := by decide +kernel
theorem dX13_readDigits_266 : decode cX13_readDigits 266 = .ok (.isub, 1) := by decide +kernel
theorem dX13_readDigits_267 : decode cX13_readDigits 267 = .ok (.iaload, 1) := by decide +kernel
theorem dX13_readDigits_268 : decode cX13_readDigits 268 = .ok (.bipush 48, 2) := by decide +kernel
theorem dX13_readDigits_270 : decode cX13_readDigits 270 = .ok (.isub, 1) := by decide +kernel
theorem dX13_readDigits_271 : decode cX13_readDigits 271 = .ok (.istore 8, 2) := by decide +kernel
theorem dX13_readDigits_273 : decode cX13_readDigits 273 = .ok (.iload_n 2, 1) := by decide +kernel
theorem dX13_readDigits_274 : decode cX13_readDigits 274 = .ok (.ifCond .eq 48, 3) := by decide +kernel
theorem dX13_readDigits_277 : decode cX13_readDigits 277 = .ok (.aload_n 0, 1) := by decide +kernel
theorem dX13_readDigits_278 : decode cX13_readDigits 278 = .ok (.getfield 104, 3) := by decide +kernel
theorem dX13_readDigits_281 : decode cX13_readDigits 281 = .ok (.sipush 256, 3) := by decide +kernel
theorem dX13_readDigits_284 : decode cX13_readDigits 284 = .ok (.iload_n 1, 1) := by decide +kernel
theorem dX13_readDigits_285 : decode cX13_readDigits 285 = .ok (.iadd, 1) := by decide +kernel
theorem dX13_readDigits_286 : decode cX13_readDigits 286 = .ok (.iload 6, 2) := by decide +kernel
theorem dX13_readDigits_288 : decode cX13_readDigits 288 = .ok (.iadd, 1) := by decide +kernel
theorem dX13_readDigits_289 : decode cX13_readDigits 289 = .ok (.iconst 1, 1) := by decide +kernel
theorem dX13_readDigits_290 : decode cX13_readDigits 290 = .ok (.isub, 1) := by decide +kernel
theorem dX13_readDigits_291 : decode cX13_readDigits 291 = .ok (.iload 7, 2) := by decide +kernel
theorem dX13_readDigits_293 : decode cX13_readDigits 293 = .ok (.iconst 1, 1) := by decide +kernel
theorem dX13_readDigits_294 : decode cX13_readDigits 294 = .ok (.iadd, 1) := by decide +kernel
theorem dX13_readDigits_295 : decode cX13_readDigits 295 = .ok (.iconst 2, 1) := by decide +kernel
theorem dX13_readDigits_296 : decode cX13_readDigits 296 = .ok (.idiv, 1) := by decide +kernel
theorem dX13_readDigits_297 : decode cX13_readDigits 297 = .ok (.isub, 1) := by decide +kernel
theorem dX13_readDigits_298 : decode cX13_readDigits 298 = .ok (.dup2, 1) := by decide +kernel
theorem dX13_readDigits_299 : decode cX13_readDigits 299 = .ok (.iaload, 1) := by decide +kernel
theorem dX13_readDigits_300 : decode cX13_readDigits 300 = .ok (.iload 7, 2) := by decide +kernel
theorem dX13_readDigits_302 : decode cX13_readDigits 302 = .ok (.iconst 2, 1) := by decide +kernel
theorem dX13_readDigits_303 : decode cX13_readDigits 303 = .ok (.irem, 1) := by decide +kernel
theorem dX13_readDigits_304 : decode cX13_readDigits 304 = .ok (.ifCond .ne 11, 3) := by decide +kernel
theorem dX13_readDigits_307 : decode cX13_readDigits 307 = .ok (.bipush 16, 2) := by decide +kernel
theorem dX13_readDigits_309 : decode cX13_readDigits 309 = .ok (.iload 8, 2) := by decide +kernel
theorem dX13_readDigits_311 : decode cX13_readDigits 311 = .ok (.imul, 1) := by decide +kernel
theorem dX13_readDigits_312 : decode cX13_readDigits 312 = .ok (.goto 5, 3) := by decide +kernel
theorem dX13_readDigits_315 : decode cX13_readDigits 315 = .ok (.iload 8, 2) := by decide +kernel
theorem dX13_readDigits_317 : decode cX13_readDigits 317 = .ok (.iadd, 1) := by decide +kernel
theorem dX13_readDigits_318 : decode cX13_readDigits 318 = .ok (.iastore, 1) := by decide +kernel
theorem dX13_readDigits_319 : decode cX13_readDigits 319 = .ok (.goto 26, 3) := by decide +kernel
theorem dX13_readDigits_322 : decode cX13_readDigits 322 = .ok (.aload_n 0, 1) := by decide +kernel
theorem dX13_readDigits_323 : decode cX13_readDigits 323 = .ok (.getfield 104, 3) := by decide +kernel
theorem dX13_readDigits_326 : decode cX13_readDigits 326 = .ok (.sipush 256, 3) := by decide +kernel
theorem dX13_readDigits_329 : decode cX13_readDigits 329 = .ok (.iload_n 1, 1) := by decide +kernel
theorem dX13_readDigits_330 : decode cX13_readDigits 330 = .ok (.iadd, 1) := by decide +kernel
theorem dX13_readDigits_331 : decode cX13_readDigits 331 = .ok (.iload 6, 2) := by decide +kernel
theorem dX13_readDigits_333 : decode cX13_readDigits 333 = .ok (.iadd, 1) := by decide +kernel
theorem dX13_readDigits_334 : decode cX13_readDigits 334 = .ok (.iconst 1, 1) := by decide +kernel
theorem dX13_readDigits_335 : decode cX13_readDigits 335 = .ok (.isub, 1) := by decide +kernel
theorem dX13_readDigits_336 : decode cX13_readDigits 336 = .ok (.iload 7, 2) := by decide +kernel
theorem dX13_readDigits_338 : decode cX13_readDigits 338 = .ok (.isub, 1) := by decide +kernel
theorem dX13_readDigits_339 : decode cX13_readDigits 339 = .ok (.dup2, 1) := by decide +kernel
theorem dX13_readDigits_340 : decode cX13_readDigits 340 = .ok (.iaload, 1) := by decide +kernel
theorem dX13_readDigits_341 : decode cX13_readDigits 341 = .ok (.iload 8, 2) := by decide +kernel
theorem dX13_readDigits_343 : decode cX13_readDigits 343 = .ok (.iadd, 1) := by decide +kernel
theorem dX13_readDigits_344 : decode cX13_readDigits 344 = .ok (.iastore, 1) := by decide +kernel
theorem dX13_readDigits_345 : decode cX13_readDigits 345 = .ok (.iinc 7 1, 3) := by decide +kernel
theorem dX13_readDigits_348 : decode cX13_readDigits 348 = .ok (.goto (-102), 3) := by decide +kernel
theorem dX13_readDigits_351 : decode cX13_readDigits 351 = .ok (.sipush 256, 3) := by decide +kernel
theorem dX13_readDigits_354 : decode cX13_readDigits 354 = .ok (.iload_n 1, 1) := by decide +kernel
theorem dX13_readDigits_355 : decode cX13_readDigits 355 = .ok (.iadd, 1) := by decide +kernel
theorem dX13_readDigits_356 : decode cX13_readDigits 356 = .ok (.iload 6, 2) := by decide +kernel
theorem dX13_readDigits_358 : decode cX13_readDigits 358 = .ok (.iadd, 1) := by decide +kernel
theorem dX13_readDigits_359 : decode cX13_readDigits 359 = .ok (.iconst 1, 1) := by decide +kernel
theorem dX13_readDigits_360 : decode cX13_readDigits 360 = .ok (.isub, 1) := by decide +kernel
theorem dX13_readDigits_361 : decode cX13_readDigits 361 = .ok (.istore 7, 2) := by decide +kernel
theorem dX13_readDigits_363 : decode cX13_readDigits 363 = .ok (.aload_n 0, 1) := by decide +kernel
theorem dX13_readDigits_364 : decode cX13_readDigits 364 = .ok (.getfield 104, 3) := by decide +kernel
theorem dX13_readDigits_367 : decode cX13_readDigits 367 = .ok (.iload 7, 2) := by decide +kernel
theorem dX13_readDigits_369 : decode cX13_readDigits 369 = .ok (.iload_n 2, 1) := by decide +kernel
theorem dX13_readDigits_370 : decode cX13_readDigits 370 = .ok (.ifCond .eq 15, 3) := by decide +kernel
theorem dX13_readDigits_373 : decode cX13_readDigits 373 = .ok (.aload_n 0, 1) := by decide +kernel
theorem dX13_readDigits_374 : decode cX13_readDigits 374 = .ok (.getfield 104, 3) := by decide +kernel
theorem dX13_readDigits_377 : decode cX13_readDigits 377 = .ok (.iload 7, 2) := by decide +kernel
theorem dX13_readDigits_379 : decode cX13_readDigits 379 = .ok (.iaload, 1) := by decide +kernel
theorem dX13_readDigits_380 : decode cX13_readDigits 380 = .ok (.iload_n 3, 1) := by decide +kernel
theorem dX13_readDigits_381 : decode cX13_readDigits 381 = .ok (.iadd, 1) := by decide +kernel
theorem dX13_readDigits_382 : decode cX13_readDigits 382 = .ok (.goto 18, 3) := by decide +kernel
theorem dX13_readDigits_385 : decode cX13_readDigits 385 = .ok (.bipush 16, 2) := by decide +kernel
theorem dX13_readDigits_387 : decode cX13_readDigits 387 = .ok (.iload_n 3, 1) := by decide +kernel
theorem dX13_readDigits_388 : decode cX13_readDigits 388 = .ok (.imul, 1) := by decide +kernel
theorem dX13_readDigits_389 : decode cX13_readDigits 389 = .ok (.aload_n 0, 1) := by decide +kernel
theorem dX13_readDigits_390 : decode cX13_readDigits 390 = .ok (.getfield 104, 3) := by decide +kernel
theorem dX13_readDigits_393 : decode cX13_readDigits 393 = .ok (.iload 7, 2) := by decide +kernel
theorem dX13_readDigits_395 : decode cX13_readDigits 395 = .ok (.iaload, 1) := by decide +kernel
theorem dX13_readDigits_396 : decode cX13_readDigits 396 = .ok (.bipush 16, 2) := by decide +kernel
theorem dX13_readDigits_398 : decode cX13_readDigits 398 = .ok (.irem, 1) := by decide +kernel
theorem dX13_readDigits_399 : decode cX13_readDigits 399 = .ok (.iadd, 1) := by decide +kernel
theorem dX13_readDigits_400 : decode cX13_readDigits 400 = .ok (.iastore, 1) := by decide +kernel
theorem dX13_readDigits_401 : decode cX13_readDigits 401 = .ok (.return_, 1) := by decide +kernel
theorem dX13_readAt_0 : decode cX13_readAt 0 = .ok (.aload_n 0, 1) := by decide +kernel
theorem dX13_readAt_1 : decode cX13_readAt 1 = .ok (.invokevirtual 252, 3) := by decide +kernel
theorem dX13_readAt_4 : decode cX13_readAt 4 = .ok (.aload_n 0, 1) := by decide +kernel
theorem dX13_readAt_5 : decode cX13_readAt 5 = .ok (.iconst 0, 1) := by decide +kernel
theorem dX13_readAt_6 : decode cX13_readAt 6 = .ok (.sipush 255, 3) := by decide +kernel
theorem dX13_readAt_9 : decode cX13_readAt 9 = .ok (.invokevirtual 291, 3) := by decide +kernel
theorem dX13_readAt_12 : decode cX13_readAt 12 = .ok (.istore_n 1, 1) := by decide +kernel
theorem dX13_readAt_13 : decode cX13_readAt 13 = .ok (.aload_n 0, 1) := by decide +kernel
theorem dX13_readAt_14 : decode cX13_readAt 14 = .ok (.getfield 231, 3) := by decide +kernel
theorem dX13_readAt_17 : decode cX13_readAt 17 = .ok (.ifCond .eq 4, 3) := by decide +kernel
theorem dX13_readAt_20 : decode cX13_readAt 20 = .ok (.return_, 1) := by decide +kernel
theorem dX13_readAt_21 : decode cX13_readAt 21 = .ok (.aload_n 0, 1) := by decide +kernel
theorem dX13_readAt_22 : decode cX13_readAt 22 = .ok (.getfield 209, 3) := by decide +kernel
theorem dX13_readAt_25 : decode cX13_readAt 25 = .ok (.iconst 3, 1) := by decide +kernel
theorem dX13_readAt_26 : decode cX13_readAt 26 = .ok (.if_icmp .ne 11, 3) := by decide +kernel
theorem dX13_readAt_29 : decode cX13_readAt 29 = .ok (.aload_n 0, 1) := by decide +kernel
theorem dX13_readAt_30 : decode cX13_readAt 30 = .ok (.iload_n 1, 1) := by decide +kernel
theorem dX13_readAt_31 : decode cX13_readAt 31 = .ok (.invokevirtual 294, 3) := by decide +kernel
theorem dX13_readAt_34 : decode cX13_readAt 34 = .ok (.goto 44, 3) := by decide +kernel
theorem dX13_readAt_37 : decode cX13_readAt 37 = .ok (.aload_n 0, 1) := by decide +kernel
theorem dX13_readAt_38 : decode cX13_readAt 38 = .ok (.ldc 67, 2) := by decide +kernel
theorem dX13_readAt_40 : decode cX13_readAt 40 = .ok (.invokevirtual 245, 3) := by decide +kernel
theorem dX13_readAt_43 : decode cX13_readAt 43 = .ok (.ifCond .eq 12, 3) := by decide +kernel
theorem dX13_readAt_46 : decode cX13_readAt 46 = .ok (.aload_n 0, 1) := by decide +kernel
theorem dX13_readAt_47 : decode cX13_readAt 47 = .ok (.iload_n 1, 1) := by decide +kernel
theorem dX13_readAt_48 : decode cX13_readAt 48 = .ok (.iconst 1, 1) := by decide +kernel
theorem dX13_readAt_49 : decode cX13_readAt 49 = .ok (.invokevirtual 297, 3) := by decide +kernel
theorem dX13_readAt_52 : decode cX13_readAt 52 = .ok (.goto 26, 3) := by decide +kernel
theorem dX13_readAt_55 : decode cX13_readAt 55 = .ok (.aload_n 0, 1) := by decide +kernel
theorem dX13_readAt_56 : decode cX13_readAt 56 = .ok (.ldc 69, 2) := by decide +kernel
theorem dX13_readAt_58 : decode cX13_readAt 58 = .ok (.invokevirtual 245, 3) := by decide +kernel
theorem dX13_readAt_61 : decode cX13_readAt 61 = .ok (.ifCond .eq 12, 3) := by decide +kernel
theorem dX13_readAt_64 : decode cX13_readAt 64 = .ok (.aload_n 0, 1) := by decide +kernel
theorem dX13_readAt_65 : decode cX13_readAt 65 = .ok (.iload_n 1, 1) := by decide +kernel
theorem dX13_readAt_66 : decode cX13_readAt 66 = .ok (.iconst 0, 1) := by decide +kernel
theorem dX13_readAt_67 : decode cX13_readAt 67 = .ok (.invokevirtual 297, 3) := by decide +kernel
theorem dX13_readAt_70 : decode cX13_readAt 70 = .ok (.goto 8, 3) := by decide +kernel
theorem dX13_readAt_73 : decode cX13_readAt 73 = .ok (.aload_n 0, 1) := by decide +kernel
theorem dX13_readAt_74 : decode cX13_readAt 74 = .ok (.iconst 1, 1) := by decide +kernel
theorem dX13_readAt_75 : decode cX13_readAt 75 = .ok (.invokevirtual 255, 3) := by decide +kernel
theorem dX13_readAt_78 : decode cX13_readAt 78 = .ok (.return_, 1) := by decide +kernel
theorem dX13_readRegister_0 : decode cX13_readRegister 0 = .ok (.aload_n 0, 1) := by decide +kernel
theorem dX13_readRegister_1 : decode cX13_readRegister 1 = .ok (.bipush 37, 2) := by decide +kernel
theorem dX13_readRegister_3 : decode cX13_readRegister 3 = .ok (.invokevirtual 277, 3) := by decide +kernel
theorem dX13_readRegister_6 : decode cX13_readRegister 6 = .ok (.aload_n 0, 1) := by decide +kernel
theorem dX13_readRegister_7 : decode cX13_readRegister 7 = .ok (.iconst 0, 1) := by decide +kernel
theorem dX13_readRegister_8 : decode cX13_readRegister 8 = .ok (.bipush 7, 2) := by decide +kernel
theorem dX13_readRegister_10 : decode cX13_readRegister 10 = .ok (.invokevirtual 291, 3) := by decide +kernel
theorem dX13_readRegister_13 : decode cX13_readRegister 13 = .ok (.ireturn, 1) := by decide +kernel
theorem dX13_readAddress_0 : decode cX13_readAddress 0 = .ok (.iconst 2, 1) := by decide +kernel
theorem dX13_readAddress_1 : decode cX13_readAddress 1 = .ok (.bipush 60, 2) := by decide +kernel
theorem dX13_readAddress_3 : decode cX13_readAddress 3 = .ok (.aload_n 0, 1) := by decide +kernel
theorem dX13_readAddress_4 : decode cX13_readAddress 4 = .ok (.getfield 259, 3) := by decide +kernel
theorem dX13_readAddress_7 : decode cX13_readAddress 7 = .ok (.iadd, 1) := by decide +kernel
theorem dX13_readAddress_8 : decode cX13_readAddress 8 = .ok (.imul, 1) := by decide +kernel
theorem dX13_readAddress_9 : decode cX13_readAddress 9 = .ok (.iload_n 1, 1) := by decide +kernel
theorem dX13_readAddress_10 : decode cX13_readAddress 10 = .ok (.iadd, 1) := by decide +kernel
theorem dX13_readAddress_11 : decode cX13_readAddress 11 = .ok (.istore_n 2, 1) := by decide +kernel
theorem dX13_readAddress_12 : decode cX13_readAddress 12 = .ok (.aload_n 0, 1) := by decide +kernel
theorem dX13_readAddress_13 : decode cX13_readAddress 13 = .ok (.getfield 86, 3) := by decide +kernel
theorem dX13_readAddress_16 : decode cX13_readAddress 16 = .ok (.iload_n 2, 1) := by decide +kernel
theorem dX13_readAddress_17 : decode cX13_readAddress 17 = .ok (.aload_n 0, 1) := by decide +kernel
theorem dX13_readAddress_18 : decode cX13_readAddress 18 = .ok (.iconst 0, 1) := by decide +kernel
theorem dX13_readAddress_19 : decode cX13_readAddress 19 = .ok (.sipush 255, 3) := by decide +kernel
theorem dX13_readAddress_22 : decode cX13_readAddress 22 = .ok (.invokevirtual 291, 3) := by decide +kernel
theorem dX13_readAddress_25 : decode cX13_readAddress 25 = .ok (.iastore, 1) := by decide +kernel
theorem dX13_readAddress_26 : decode cX13_readAddress 26 = .ok (.aload_n 0, 1) := by decide +kernel
theorem dX13_readAddress_27 : decode cX13_readAddress 27 = .ok (.getfield 89, 3) := by decide +kernel
theorem dX13_readAddress_30 : decode cX13_readAddress 30 = .ok (.iload_n 2, 1) := by decide +kernel
theorem dX13_readAddress_31 : decode cX13_readAddress 31 = .ok (.aload_n 0, 1) := by decide +kernel
theorem dX13_readAddress_32 : decode cX13_readAddress 32 = .ok (.bipush 37, 2) := by decide +kernel
theorem dX13_readAddress_34 : decode cX13_readAddress 34 = .ok (.invokevirtual 249, 3) := by decide +kernel
theorem dX13_readAddress_37 : decode cX13_readAddress 37 = .ok (.ifCond .eq 10, 3) := by decide +kernel
theorem dX13_readAddress_40 : decode cX13_readAddress 40 = .ok (.aload_n 0, 1) := by decide +kernel
theorem dX13_readAddress_41 : decode cX13_readAddress 41 = .ok (.invokevirtual 301, 3) := by decide +kernel
theorem dX13_readAddress_44 : decode cX13_readAddress 44 = .ok (.goto 4, 3) := by decide +kernel
theorem dX13_readAddress_47 : decode cX13_readAddress 47 = .ok (.iconst (-1), 1) := by decide +kernel
theorem dX13_readAddress_48 : decode cX13_readAddress 48 = .ok (.iastore, 1) := by decide +kernel
theorem dX13_readAddress_49 : decode cX13_readAddress 49 = .ok (.aload_n 0, 1) := by decide +kernel
theorem dX13_readAddress_50 : decode cX13_readAddress 50 = .ok (.getfield 92, 3) := by decide +kernel
theorem dX13_readAddress_53 : decode cX13_readAddress 53 = .ok (.iload_n 2, 1) := by decide +kernel
theorem dX13_readAddress_54 : decode cX13_readAddress 54 = .ok (.iconst 0, 1) := by decide +kernel
theorem dX13_readAddress_55 : decode cX13_readAddress 55 = .ok (.iastore, 1) := by decide +kernel
theorem dX13_readAddress_56 : decode cX13_readAddress 56 = .ok (.return_, 1) := by decide +kernel
theorem dX13_readField_0 : decode cX13_readField 0 = .ok (.aload_n 0, 1) := by decide +kernel
theorem dX13_readField_1 : decode cX13_readField 1 = .ok (.iload_n 1, 1) := by decide +kernel
theorem dX13_readField_2 : decode cX13_readField 2 = .ok (.invokevirtual 304, 3) := by decide +kernel
theorem dX13_readField_5 : decode cX13_readField 5 = .ok (.aload_n 0, 1) := by decide +kernel
theorem dX13_readField_6 : decode cX13_readField 6 = .ok (.bipush 58, 2) := by decide +kernel
theorem dX13_readField_8 : decode cX13_readField 8 = .ok (.invokevirtual 277, 3) := by decide +kernel
theorem dX13_readField_11 : decode cX13_readField 11 = .ok (.aload_n 0, 1) := by decide +kernel
theorem dX13_readField_12 : decode cX13_readField 12 = .ok (.getfield 92, 3) := by decide +kernel
theorem dX13_readField_15 : decode cX13_readField 15 = .ok (.iconst 2, 1) := by decide +kernel
theorem dX13_readField_16 : decode cX13_readField 16 = .ok (.bipush 60, 2) := by decide +kernel
theorem dX13_readField_18 : decode cX13_readField 18 = .ok (.aload_n 0, 1) := by decide +kernel
theorem dX13_readField_19 : decode cX13_readField 19 = .ok (.getfield 259, 3) := by decide +kernel
theorem dX13_readField_22 : decode cX13_readField 22 = .ok (.iadd, 1) := by decide +kernel
theorem dX13_readField_23 : decode cX13_readField 23 = .ok (.imul, 1) := by decide +kernel
theorem dX13_readField_24 : decode cX13_readField 24 = .ok (.iload_n 1, 1) := by decide +kernel
theorem dX13_readField_25 : decode cX13_readField 25 = .ok (.iadd, 1) := by decide +kernel
theorem dX13_readField_26 : decode cX13_readField 26 = .ok (.aload_n 0, 1) := by decide +kernel
theorem dX13_readField_27 : decode cX13_readField 27 = .ok (.iconst 1, 1) := by decide +kernel
theorem dX13_readField_28 : decode cX13_readField 28 = .ok (.iload_n 2, 1) := by decide +kernel
theorem dX13_readField_29 : decode cX13_readField 29 = .ok (.invokevirtual 291, 3) := by decide +kernel
theorem dX13_readField_32 : decode cX13_readField 32 = .ok (.iastore, 1) := by decide +kernel
theorem dX13_readField_33 : decode cX13_readField 33 = .ok (.return_, 1) := by decide +kernel
theorem dX13_beginNow_0 : decode cX13_beginNow 0 = .ok (.iconst 0, 1) := by decide +kernel
theorem dX13_beginNow_1 : decode cX13_beginNow 1 = .ok (.istore_n 1, 1) := by decide +kernel
theorem dX13_beginNow_2 : decode cX13_beginNow 2 = .ok (.iload_n 1, 1) := by decide +kernel
theorem dX13_beginNow_3 : decode cX13_beginNow 3 = .ok (.sipush 277, 3) := by decide +kernel
theorem dX13_beginNow_6 : decode cX13_beginNow 6 = .ok (.if_icmp .ge 32, 3) := by decide +kernel
theorem dX13_beginNow_9 : decode cX13_beginNow 9 = .ok (.aload_n 0, 1) := by decide +kernel
theorem dX13_beginNow_10 : decode cX13_beginNow 10 = .ok (.getfield 76, 3) := by decide +kernel
theorem dX13_beginNow_13 : decode cX13_beginNow 13 = .ok (.iload_n 1, 1) := by decide +kernel
theorem dX13_beginNow_14 : decode cX13_beginNow 14 = .ok (.iload_n 1, 1) := by decide +kernel
theorem dX13_beginNow_15 : decode cX13_beginNow 15 = .ok (.sipush 256, 3) := by decide +kernel
theorem dX13_beginNow_18 : decode cX13_beginNow 18 = .ok (.if_icmp .ge 12, 3) := by decide +kernel
theorem dX13_beginNow_21 : decode cX13_beginNow 21 = .ok (.aload_n 0, 1) := by decide +kernel
theorem dX13_beginNow_22 : decode cX13_beginNow 22 = .ok (.getfield 104, 3) := by decide +kernel
theorem dX13_beginNow_25 : decode cX13_beginNow 25 = .ok (.iload_n 1, 1) := by decide +kernel
theorem dX13_beginNow_26 : decode cX13_beginNow 26 = .ok (.iaload, 1) := by decide +kernel
theorem dX13_beginNow_27 : decode cX13_beginNow 27 = .ok (.goto 4, 3) := by decide +kernel
theorem dX13_beginNow_30 : decode cX13_beginNow 30 = .ok (.iconst 0, 1) := by decide +kernel
theorem dX13_beginNow_31 : decode cX13_beginNow 31 = .ok (.iastore, 1) := by decide +kernel
theorem dX13_beginNow_32 : decode cX13_beginNow 32 = .ok (.iinc 1 1, 3) := by decide +kernel
theorem dX13_beginNow_35 : decode cX13_beginNow 35 = .ok (.goto (-33), 3) := by decide +kernel
theorem dX13_beginNow_38 : decode cX13_beginNow 38 = .ok (.aload_n 0, 1) := by decide +kernel
theorem dX13_beginNow_39 : decode cX13_beginNow 39 = .ok (.getfield 76, 3) := by decide +kernel
theorem dX13_beginNow_42 : decode cX13_beginNow 42 = .ok (.sipush 266, 3) := by decide +kernel
theorem dX13_beginNow_45 : decode cX13_beginNow 45 = .ok (.iconst (-1), 1) := by decide +kernel
theorem dX13_beginNow_46 : decode cX13_beginNow 46 = .ok (.iastore, 1) := by decide +kernel
theorem dX13_beginNow_47 : decode cX13_beginNow 47 = .ok (.iconst 0, 1) := by decide +kernel
theorem dX13_beginNow_48 : decode cX13_beginNow 48 = .ok (.istore_n 1, 1) := by decide +kernel
theorem dX13_beginNow_49 : decode cX13_beginNow 49 = .ok (.iload_n 1, 1) := by decide +kernel
theorem dX13_beginNow_50 : decode cX13_beginNow 50 = .ok (.bipush 8, 2) := by decide +kernel
theorem dX13_beginNow_52 : decode cX13_beginNow 52 = .ok (.if_icmp .gt 20, 3) := by decide +kernel
theorem dX13_beginNow_55 : decode cX13_beginNow 55 = .ok (.aload_n 0, 1) := by decide +kernel
theorem dX13_beginNow_56 : decode cX13_beginNow 56 = .ok (.getfield 76, 3) := by decide +kernel
theorem dX13_beginNow_59 : decode cX13_beginNow 59 = .ok (.sipush 267, 3) := by decide +kernel
theorem dX13_beginNow_62 : decode cX13_beginNow 62 = .ok (.iload_n 1, 1) := by decide +kernel
theorem dX13_beginNow_63 : decode cX13_beginNow 63 = .ok (.iadd, 1) := by decide +kernel
theorem dX13_beginNow_64 : decode cX13_beginNow 64 = .ok (.iconst (-1), 1) := by decide +kernel
theorem dX13_beginNow_65 : decode cX13_beginNow 65 = .ok (.iastore, 1) := by decide +kernel
theorem dX13_beginNow_66 : decode cX13_beginNow 66 = .ok (.iinc 1 1, 3) := by decide +kernel
theorem dX13_beginNow_69 : decode cX13_beginNow 69 = .ok (.goto (-20), 3) := by decide +kernel
theorem dX13_beginNow_72 : decode cX13_beginNow 72 = .ok (.aload_n 0, 1) := by decide +kernel
theorem dX13_beginNow_73 : decode cX13_beginNow 73 = .ok (.getfield 76, 3) := by decide +kernel
theorem dX13_beginNow_76 : decode cX13_beginNow 76 = .ok (.sipush 276, 3) := by decide +kernel
theorem dX13_beginNow_79 : decode cX13_beginNow 79 = .ok (.aload_n 0, 1) := by decide +kernel
theorem dX13_beginNow_80 : decode cX13_beginNow 80 = .ok (.getfield 345, 3) := by decide +kernel
theorem dX13_beginNow_83 : decode cX13_beginNow 83 = .ok (.ifCond .ne 7, 3) := by decide +kernel
theorem dX13_beginNow_86 : decode cX13_beginNow 86 = .ok (.iconst 1, 1) := by decide +kernel
theorem dX13_beginNow_87 : decode cX13_beginNow 87 = .ok (.goto 4, 3) := by decide +kernel
theorem dX13_beginNow_90 : decode cX13_beginNow 90 = .ok (.iconst 0, 1) := by decide +kernel
theorem dX13_beginNow_91 : decode cX13_beginNow 91 = .ok (.iastore, 1) := by decide +kernel
theorem dX13_beginNow_92 : decode cX13_beginNow 92 = .ok (.return_, 1) := by decide +kernel
