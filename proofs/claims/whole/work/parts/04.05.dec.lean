theorem dX13_readTarget_39 : decode cX13_readTarget 39 = .ok (.aload_n 0, 1) := by decide +kernel
theorem dX13_readTarget_40 : decode cX13_readTarget 40 = .ok (.invokevirtual 252, 3) := by decide +kernel
theorem dX13_readTarget_43 : decode cX13_readTarget 43 = .ok (.return_, 1) := by decide +kernel
theorem dX13_worthOf_0 : decode cX13_worthOf 0 = .ok (.iload_n 0, 1) := by decide +kernel
theorem dX13_worthOf_1 : decode cX13_worthOf 1 = .ok (.invokestatic 196, 3) := by decide +kernel
theorem dX13_worthOf_4 : decode cX13_worthOf 4 = .ok (.ifCond .eq 10, 3) := by decide +kernel
theorem dX13_worthOf_7 : decode cX13_worthOf 7 = .ok (.iload_n 0, 1) := by decide +kernel
theorem dX13_worthOf_8 : decode cX13_worthOf 8 = .ok (.bipush 48, 2) := by decide +kernel
theorem dX13_worthOf_10 : decode cX13_worthOf 10 = .ok (.isub, 1) := by decide +kernel
theorem dX13_worthOf_11 : decode cX13_worthOf 11 = .ok (.goto 10, 3) := by decide +kernel
theorem dX13_worthOf_14 : decode cX13_worthOf 14 = .ok (.iload_n 0, 1) := by decide +kernel
theorem dX13_worthOf_15 : decode cX13_worthOf 15 = .ok (.bipush 97, 2) := by decide +kernel
theorem dX13_worthOf_17 : decode cX13_worthOf 17 = .ok (.isub, 1) := by decide +kernel
theorem dX13_worthOf_18 : decode cX13_worthOf 18 = .ok (.bipush 10, 2) := by decide +kernel
theorem dX13_worthOf_20 : decode cX13_worthOf 20 = .ok (.iadd, 1) := by decide +kernel
theorem dX13_worthOf_21 : decode cX13_worthOf 21 = .ok (.ireturn, 1) := by decide +kernel
theorem dX13_readHex_0 : decode cX13_readHex 0 = .ok (.aload_n 0, 1) := by decide +kernel
theorem dX13_readHex_1 : decode cX13_readHex 1 = .ok (.getfield 228, 3) := by decide +kernel
theorem dX13_readHex_4 : decode cX13_readHex 4 = .ok (.aload_n 0, 1) := by decide +kernel
theorem dX13_readHex_5 : decode cX13_readHex 5 = .ok (.getfield 206, 3) := by decide +kernel
theorem dX13_readHex_8 : decode cX13_readHex 8 = .ok (.isub, 1) := by decide +kernel
theorem dX13_readHex_9 : decode cX13_readHex 9 = .ok (.iconst 1, 1) := by decide +kernel
theorem dX13_readHex_10 : decode cX13_readHex 10 = .ok (.isub, 1) := by decide +kernel
theorem dX13_readHex_11 : decode cX13_readHex 11 = .ok (.istore_n 2, 1) := by decide +kernel
theorem dX13_readHex_12 : decode cX13_readHex 12 = .ok (.iload_n 2, 1) := by decide +kernel
theorem dX13_readHex_13 : decode cX13_readHex 13 = .ok (.iconst 2, 1) := by decide +kernel
theorem dX13_readHex_14 : decode cX13_readHex 14 = .ok (.irem, 1) := by decide +kernel
theorem dX13_readHex_15 : decode cX13_readHex 15 = .ok (.iconst 1, 1) := by decide +kernel
theorem dX13_readHex_16 : decode cX13_readHex 16 = .ok (.if_icmp .eq 14, 3) := by decide +kernel
theorem dX13_readHex_19 : decode cX13_readHex 19 = .ok (.iload_n 1, 1) := by decide +kernel
theorem dX13_readHex_20 : decode cX13_readHex 20 = .ok (.iload_n 2, 1) := by decide +kernel
theorem dX13_readHex_21 : decode cX13_readHex 21 = .ok (.iconst 2, 1) := by decide +kernel
theorem dX13_readHex_22 : decode cX13_readHex 22 = .ok (.idiv, 1) := by decide +kernel
theorem dX13_readHex_23 : decode cX13_readHex 23 = .ok (.iadd, 1) := by decide +kernel
theorem dX13_readHex_24 : decode cX13_readHex 24 = .ok (.sipush 256, 3) := by decide +kernel
theorem dX13_readHex_27 : decode cX13_readHex 27 = .ok (.if_icmp .le 8, 3) := by decide +kernel
theorem dX13_readHex_30 : decode cX13_readHex 30 = .ok (.aload_n 0, 1) := by decide +kernel
theorem dX13_readHex_31 : decode cX13_readHex 31 = .ok (.iconst 2, 1) := by decide +kernel
theorem dX13_readHex_32 : decode cX13_readHex 32 = .ok (.invokevirtual 255, 3) := by decide +kernel
theorem dX13_readHex_35 : decode cX13_readHex 35 = .ok (.iconst 0, 1) := by decide +kernel
theorem dX13_readHex_36 : decode cX13_readHex 36 = .ok (.istore_n 3, 1) := by decide +kernel
theorem dX13_readHex_37 : decode cX13_readHex 37 = .ok (.aload_n 0, 1) := by decide +kernel
theorem dX13_readHex_38 : decode cX13_readHex 38 = .ok (.getfield 231, 3) := by decide +kernel
theorem dX13_readHex_41 : decode cX13_readHex 41 = .ok (.ifCond .ne 64, 3) := by decide +kernel
theorem dX13_readHex_44 : decode cX13_readHex 44 = .ok (.iload_n 3, 1) := by decide +kernel
theorem dX13_readHex_45 : decode cX13_readHex 45 = .ok (.iload_n 2, 1) := by decide +kernel
theorem dX13_readHex_46 : decode cX13_readHex 46 = .ok (.if_icmp .ge 59, 3) := by decide +kernel
theorem dX13_readHex_49 : decode cX13_readHex 49 = .ok (.aload_n 0, 1) := by decide +kernel
theorem dX13_readHex_50 : decode cX13_readHex 50 = .ok (.getfield 104, 3) := by decide +kernel
theorem dX13_readHex_53 : decode cX13_readHex 53 = .ok (.sipush 256, 3) := by decide +kernel
theorem dX13_readHex_56 : decode cX13_readHex 56 = .ok (.iload_n 1, 1) := by decide +kernel
theorem dX13_readHex_57 : decode cX13_readHex 57 = .ok (.iadd, 1) := by decide +kernel
theorem dX13_readHex_58 : decode cX13_readHex 58 = .ok (.iload_n 3, 1) := by decide +kernel
theorem dX13_readHex_59 : decode cX13_readHex 59 = .ok (.iconst 2, 1) := by decide +kernel
theorem dX13_readHex_60 : decode cX13_readHex 60 = .ok (.idiv, 1) := by decide +kernel
theorem dX13_readHex_61 : decode cX13_readHex 61 = .ok (.iadd, 1) := by decide +kernel
theorem dX13_readHex_62 : decode cX13_readHex 62 = .ok (.bipush 16, 2) := by decide +kernel
theorem dX13_readHex_64 : decode cX13_readHex 64 = .ok (.aload_n 0, 1) := by decide +kernel
theorem dX13_readHex_65 : decode cX13_readHex 65 = .ok (.getfield 107, 3) := by decide +kernel
theorem dX13_readHex_68 : decode cX13_readHex 68 = .ok (.aload_n 0, 1) := by decide +kernel
theorem dX13_readHex_69 : decode cX13_readHex 69 = .ok (.getfield 206, 3) := by decide +kernel
theorem dX13_readHex_72 : decode cX13_readHex 72 = .ok (.iconst 1, 1) := by decide +kernel
theorem dX13_readHex_73 : decode cX13_readHex 73 = .ok (.iadd, 1) := by decide +kernel
theorem dX13_readHex_74 : decode cX13_readHex 74 = .ok (.iload_n 3, 1) := by decide +kernel
theorem dX13_readHex_75 : decode cX13_readHex 75 = .ok (.iadd, 1) := by decide +kernel
theorem dX13_readHex_76 : decode cX13_readHex 76 = .ok (.iaload, 1) := by decide +kernel
theorem dX13_readHex_77 : decode cX13_readHex 77 = .ok (.invokestatic 279, 3) := by decide +kernel
theorem dX13_readHex_80 : decode cX13_readHex 80 = .ok (.imul, 1) := by decide +kernel
theorem dX13_readHex_81 : decode cX13_readHex 81 = .ok (.aload_n 0, 1) := by decide +kernel
theorem dX13_readHex_82 : decode cX13_readHex 82 = .ok (.getfield 107, 3) := by decide +kernel
theorem dX13_readHex_85 : decode cX13_readHex 85 = .ok (.aload_n 0, 1) := by decide +kernel
theorem dX13_readHex_86 : decode cX13_readHex 86 = .ok (.getfield 206, 3) := by decide +kernel
theorem dX13_readHex_89 : decode cX13_readHex 89 = .ok (.iconst 2, 1) := by decide +kernel
theorem dX13_readHex_90 : decode cX13_readHex 90 = .ok (.iadd, 1) := by decide +kernel
theorem dX13_readHex_91 : decode cX13_readHex 91 = .ok (.iload_n 3, 1) := by decide +kernel
theorem dX13_readHex_92 : decode cX13_readHex 92 = .ok (.iadd, 1) := by decide +kernel
theorem dX13_readHex_93 : decode cX13_readHex 93 = .ok (.iaload, 1) := by decide +kernel
theorem dX13_readHex_94 : decode cX13_readHex 94 = .ok (.invokestatic 279, 3) := by decide +kernel
theorem dX13_readHex_97 : decode cX13_readHex 97 = .ok (.iadd, 1) := by decide +kernel
theorem dX13_readHex_98 : decode cX13_readHex 98 = .ok (.iastore, 1) := by decide +kernel
theorem dX13_readHex_99 : decode cX13_readHex 99 = .ok (.iinc 3 2, 3) := by decide +kernel
theorem dX13_readHex_102 : decode cX13_readHex 102 = .ok (.goto (-65), 3) := by decide +kernel
theorem dX13_readHex_105 : decode cX13_readHex 105 = .ok (.aload_n 0, 1) := by decide +kernel
theorem dX13_readHex_106 : decode cX13_readHex 106 = .ok (.getfield 231, 3) := by decide +kernel
theorem dX13_readHex_109 : decode cX13_readHex 109 = .ok (.ifCond .ne 7, 3) := by decide +kernel
theorem dX13_readHex_112 : decode cX13_readHex 112 = .ok (.aload_n 0, 1) := by decide +kernel
theorem dX13_readHex_113 : decode cX13_readHex 113 = .ok (.invokevirtual 252, 3) := by decide +kernel
theorem dX13_readHex_116 : decode cX13_readHex 116 = .ok (.return_, 1) := by decide +kernel
theorem dX13_readDigits_0 : decode cX13_readDigits 0 = .ok (.aload_n 0, 1) := by decide +kernel
theorem dX13_readDigits_1 : decode cX13_readDigits 1 = .ok (.invokevirtual 252, 3) := by decide +kernel
theorem dX13_readDigits_4 : decode cX13_readDigits 4 = .ok (.aload_n 0, 1) := by decide +kernel
theorem dX13_readDigits_5 : decode cX13_readDigits 5 = .ok (.bipush 45, 2) := by decide +kernel
theorem dX13_readDigits_7 : decode cX13_readDigits 7 = .ok (.invokevirtual 282, 3) := by decide +kernel
theorem dX13_readDigits_10 : decode cX13_readDigits 10 = .ok (.ifCond .eq 8, 3) := by decide +kernel
theorem dX13_readDigits_13 : decode cX13_readDigits 13 = .ok (.bipush 13, 2) := by decide +kernel
theorem dX13_readDigits_15 : decode cX13_readDigits 15 = .ok (.goto 5, 3) := by decide +kernel
theorem dX13_readDigits_18 : decode cX13_readDigits 18 = .ok (.bipush 12, 2) := by decide +kernel
theorem dX13_readDigits_20 : decode cX13_readDigits 20 = .ok (.istore_n 3, 1) := by decide +kernel
theorem dX13_readDigits_21 : decode cX13_readDigits 21 = .ok (.aload_n 0, 1) := by decide +kernel
theorem dX13_readDigits_22 : decode cX13_readDigits 22 = .ok (.getfield 231, 3) := by decide +kernel
theorem dX13_readDigits_25 : decode cX13_readDigits 25 = .ok (.ifCond .ne 16, 3) := by decide +kernel
theorem dX13_readDigits_28 : decode cX13_readDigits 28 = .ok (.aload_n 0, 1) := by decide +kernel
theorem dX13_readDigits_29 : decode cX13_readDigits 29 = .ok (.getfield 209, 3) := by decide +kernel
theorem dX13_readDigits_32 : decode cX13_readDigits 32 = .ok (.iconst 2, 1) := by decide +kernel
theorem dX13_readDigits_33 : decode cX13_readDigits 33 = .ok (.if_icmp .eq 8, 3) := by decide +kernel
theorem dX13_readDigits_36 : decode cX13_readDigits 36 = .ok (.aload_n 0, 1) := by decide +kernel
theorem dX13_readDigits_37 : decode cX13_readDigits 37 = .ok (.iconst 1, 1) := by decide +kernel
theorem dX13_readDigits_38 : decode cX13_readDigits 38 = .ok (.invokevirtual 255, 3) := by decide +kernel
theorem dX13_readDigits_41 : decode cX13_readDigits 41 = .ok (.aload_n 0, 1) := by decide +kernel
theorem dX13_readDigits_42 : decode cX13_readDigits 42 = .ok (.getfield 206, 3) := by decide +kernel
theorem dX13_readDigits_45 : decode cX13_readDigits 45 = .ok (.istore 4, 2) := by decide +kernel
theorem dX13_readDigits_47 : decode cX13_readDigits 47 = .ok (.aload_n 0, 1) := by decide +kernel
theorem dX13_readDigits_48 : decode cX13_readDigits 48 = .ok (.getfield 228, 3) := by decide +kernel
theorem dX13_readDigits_51 : decode cX13_readDigits 51 = .ok (.aload_n 0, 1) := by decide +kernel
theorem dX13_readDigits_52 : decode cX13_readDigits 52 = .ok (.getfield 206, 3) := by decide +kernel
theorem dX13_readDigits_55 : decode cX13_readDigits 55 = .ok (.isub, 1) := by decide +kernel
theorem dX13_readDigits_56 : decode cX13_readDigits 56 = .ok (.istore 5, 2) := by decide +kernel
theorem dX13_readDigits_58 : decode cX13_readDigits 58 = .ok (.aload_n 0, 1) := by decide +kernel
theorem dX13_readDigits_59 : decode cX13_readDigits 59 = .ok (.getfield 231, 3) := by decide +kernel
theorem dX13_readDigits_62 : decode cX13_readDigits 62 = .ok (.ifCond .ne 7, 3) := by decide +kernel
theorem dX13_readDigits_65 : decode cX13_readDigits 65 = .ok (.aload_n 0, 1) := by decide +kernel
theorem dX13_readDigits_66 : decode cX13_readDigits 66 = .ok (.invokevirtual 252, 3) := by decide +kernel
theorem dX13_readDigits_69 : decode cX13_readDigits 69 = .ok (.aload_n 0, 1) := by decide +kernel
theorem dX13_readDigits_70 : decode cX13_readDigits 70 = .ok (.getfield 231, 3) := by decide +kernel
theorem dX13_readDigits_73 : decode cX13_readDigits 73 = .ok (.ifCond .ne 17, 3) := by decide +kernel
theorem dX13_readDigits_76 : decode cX13_readDigits 76 = .ok (.aload_n 0, 1) := by decide +kernel
theorem dX13_readDigits_77 : decode cX13_readDigits 77 = .ok (.ldc 71, 2) := by decide +kernel
theorem dX13_readDigits_79 : decode cX13_readDigits 79 = .ok (.invokevirtual 245, 3) := by decide +kernel
theorem dX13_readDigits_82 : decode cX13_readDigits 82 = .ok (.ifCond .ne 8, 3) := by decide +kernel
theorem dX13_readDigits_85 : decode cX13_readDigits 85 = .ok (.aload_n 0, 1) := by decide +kernel
theorem dX13_readDigits_86 : decode cX13_readDigits 86 = .ok (.iconst 1, 1) := by decide +kernel
theorem dX13_readDigits_87 : decode cX13_readDigits 87 = .ok (.invokevirtual 255, 3) := by decide +kernel
theorem dX13_readDigits_90 : decode cX13_readDigits 90 = .ok (.aload_n 0, 1) := by decide +kernel
theorem dX13_readDigits_91 : decode cX13_readDigits 91 = .ok (.getfield 231, 3) := by decide +kernel
theorem dX13_readDigits_94 : decode cX13_readDigits 94 = .ok (.ifCond .ne 7, 3) := by decide +kernel
theorem dX13_readDigits_97 : decode cX13_readDigits 97 = .ok (.aload_n 0, 1) := by decide +kernel
theorem dX13_readDigits_98 : decode cX13_readDigits 98 = .ok (.invokevirtual 252, 3) := by decide +kernel
theorem dX13_readDigits_101 : decode cX13_readDigits 101 = .ok (.aload_n 0, 1) := by decide +kernel
theorem dX13_readDigits_102 : decode cX13_readDigits 102 = .ok (.getfield 231, 3) := by decide +kernel
theorem dX13_readDigits_105 : decode cX13_readDigits 105 = .ok (.ifCond .eq 4, 3) := by decide +kernel
theorem dX13_readDigits_108 : decode cX13_readDigits 108 = .ok (.return_, 1) := by decide +kernel
theorem dX13_readDigits_109 : decode cX13_readDigits 109 = .ok (.aload_n 0, 1) := by decide +kernel
theorem dX13_readDigits_110 : decode cX13_readDigits 110 = .ok (.getfield 209, 3) := by decide +kernel
theorem dX13_readDigits_113 : decode cX13_readDigits 113 = .ok (.iconst 2, 1) := by decide +kernel
theorem dX13_readDigits_114 : decode cX13_readDigits 114 = .ok (.if_icmp .ne 10, 3) := by decide +kernel
theorem dX13_readDigits_117 : decode cX13_readDigits 117 = .ok (.aload_n 0, 1) := by decide +kernel
theorem dX13_readDigits_118 : decode cX13_readDigits 118 = .ok (.getfield 215, 3) := by decide +kernel
theorem dX13_readDigits_121 : decode cX13_readDigits 121 = .ok (.goto 4, 3) := by decide +kernel
theorem dX13_readDigits_124 : decode cX13_readDigits 124 = .ok (.iconst 1, 1) := by decide +kernel
theorem dX13_readDigits_125 : decode cX13_readDigits 125 = .ok (.istore 6, 2) := by decide +kernel
theorem dX13_readDigits_127 : decode cX13_readDigits 127 = .ok (.aload_n 0, 1) := by decide +kernel
theorem dX13_readDigits_128 : decode cX13_readDigits 128 = .ok (.getfield 209, 3) := by decide +kernel
theorem dX13_readDigits_131 : decode cX13_readDigits 131 = .ok (.iconst 2, 1) := by decide +kernel
theorem dX13_readDigits_132 : decode cX13_readDigits 132 = .ok (.if_icmp .eq 11, 3) := by decide +kernel
theorem dX13_readDigits_135 : decode cX13_readDigits 135 = .ok (.aload_n 0, 1) := by decide +kernel
theorem dX13_readDigits_136 : decode cX13_readDigits 136 = .ok (.iconst 1, 1) := by decide +kernel
theorem dX13_readDigits_137 : decode cX13_readDigits 137 = .ok (.invokevirtual 255, 3) := by decide +kernel
theorem dX13_readDigits_140 : decode cX13_readDigits 140 = .ok (.goto 51, 3) := by decide +kernel
theorem dX13_readDigits_143 : decode cX13_readDigits 143 = .ok (.iload 6, 2) := by decide +kernel
theorem dX13_readDigits_145 : decode cX13_readDigits 145 = .ok (.i2l, 1) := by decide +kernel
theorem dX13_readDigits_146 : decode cX13_readDigits 146 = .ok (.lconst 1, 1) := by decide +kernel
theorem dX13_readDigits_147 : decode cX13_readDigits 147 = .ok (.ldc2_w 285, 3) := by decide +kernel
theorem dX13_readDigits_150 : decode cX13_readDigits 150 = .ok (.invokestatic 287, 3) := by decide +kernel
theorem dX13_readDigits_153 : decode cX13_readDigits 153 = .ok (.ifCond .eq 33, 3) := by decide +kernel
theorem dX13_readDigits_156 : decode cX13_readDigits 156 = .ok (.iload_n 1, 1) := by decide +kernel
theorem dX13_readDigits_157 : decode cX13_readDigits 157 = .ok (.iload 6, 2) := by decide +kernel
theorem dX13_readDigits_159 : decode cX13_readDigits 159 = .ok (.iadd, 1) := by decide +kernel
theorem dX13_readDigits_160 : decode cX13_readDigits 160 = .ok (.sipush 256, 3) := by decide +kernel
theorem dX13_readDigits_163 : decode cX13_readDigits 163 = .ok (.if_icmp .gt 23, 3) := by decide +kernel
theorem dX13_readDigits_166 : decode cX13_readDigits 166 = .ok (.iload 5, 2) := by decide +kernel
theorem dX13_readDigits_168 : decode cX13_readDigits 168 = .ok (.iload_n 2, 1) := by decide +kernel
theorem dX13_readDigits_169 : decode cX13_readDigits 169 = .ok (.ifCond .eq 12, 3) := by decide +kernel
theorem dX13_readDigits_172 : decode cX13_readDigits 172 = .ok (.iconst 2, 1) := by decide +kernel
theorem dX13_readDigits_173 : decode cX13_readDigits 173 = .ok (.iload 6, 2) := by decide +kernel
theorem dX13_readDigits_175 : decode cX13_readDigits 175 = .ok (.imul, 1) := by decide +kernel
theorem dX13_readDigits_176 : decode cX13_readDigits 176 = .ok (.iconst 1, 1) := by decide +kernel
theorem dX13_readDigits_177 : decode cX13_readDigits 177 = .ok (.isub, 1) := by decide +kernel
theorem dX13_readDigits_178 : decode cX13_readDigits 178 = .ok (.goto 5, 3) := by decide +kernel
theorem dX13_readDigits_181 : decode cX13_readDigits 181 = .ok (.iload 6, 2) := by decide +kernel
theorem dX13_readDigits_183 : decode cX13_readDigits 183 = .ok (.if_icmp .le 8, 3) := by decide +kernel
theorem dX13_readDigits_186 : decode cX13_readDigits 186 = .ok (.aload_n 0, 1) := by decide +kernel
theorem dX13_readDigits_187 : decode cX13_readDigits 187 = .ok (.iconst 2, 1) := by decide +kernel
theorem dX13_readDigits_188 : decode cX13_readDigits 188 = .ok (.invokevirtual 255, 3) := by decide +kernel
theorem dX13_readDigits_191 : decode cX13_readDigits 191 = .ok (.aload_n 0, 1) := by decide +kernel
theorem dX13_readDigits_192 : decode cX13_readDigits 192 = .ok (.getfield 231, 3) := by decide +kernel
theorem dX13_readDigits_195 : decode cX13_readDigits 195 = .ok (.ifCond .eq 4, 3) := by decide +kernel
theorem dX13_readDigits_198 : decode cX13_readDigits 198 = .ok (.return_, 1) := by decide +kernel
theorem dX13_readDigits_199 : decode cX13_readDigits 199 = .ok (.aload_n 0, 1) := by decide +kernel
theorem dX13_readDigits_200 : decode cX13_readDigits 200 = .ok (.invokevirtual 252, 3) := by decide +kernel
theorem dX13_readDigits_203 : decode cX13_readDigits 203 = .ok (.iconst 0, 1) := by decide +kernel
theorem dX13_readDigits_204 : decode cX13_readDigits 204 = .ok (.istore 7, 2) := by decide +kernel
theorem dX13_readDigits_206 : decode cX13_readDigits 206 = .ok (.iload 7, 2) := by decide +kernel
theorem dX13_readDigits_208 : decode cX13_readDigits 208 = .ok (.iload 6, 2) := by decide +kernel
theorem dX13_readDigits_210 : decode cX13_readDigits 210 = .ok (.if_icmp .ge 33, 3) := by decide +kernel
theorem dX13_readDigits_213 : decode cX13_readDigits 213 = .ok (.aload_n 0, 1) := by decide +kernel
theorem dX13_readDigits_214 : decode cX13_readDigits 214 = .ok (.getfield 104, 3) := by decide +kernel
theorem dX13_readDigits_217 : decode cX13_readDigits 217 = .ok (.sipush 256, 3) := by decide +kernel
theorem dX13_readDigits_220 : decode cX13_readDigits 220 = .ok (.iload_n 1, 1) := by decide +kernel
theorem dX13_readDigits_221 : decode cX13_readDigits 221 = .ok (.iadd, 1) := by decide +kernel
theorem dX13_readDigits_222 : decode cX13_readDigits 222 = .ok (.iload 7, 2) := by decide +kernel
theorem dX13_readDigits_224 : decode cX13_readDigits 224 = .ok (.iadd, 1) := by decide +kernel
theorem dX13_readDigits_225 : decode cX13_readDigits 225 = .ok (.iload_n 2, 1) := by decide +kernel
theorem dX13_readDigits_226 : decode cX13_readDigits 226 = .ok (.ifCond .eq 7, 3) := by decide +kernel
theorem dX13_readDigits_229 : decode cX13_readDigits 229 = .ok (.iconst 0, 1) := by decide +kernel
theorem dX13_readDigits_230 : decode cX13_readDigits 230 = .ok (.goto 6, 3) := by decide +kernel
theorem dX13_readDigits_233 : decode cX13_readDigits 233 = .ok (.sipush 240, 3) := by decide +kernel
theorem dX13_readDigits_236 : decode cX13_readDigits 236 = .ok (.iastore, 1) := by decide +kernel
theorem dX13_readDigits_237 : decode cX13_readDigits 237 = .ok (.iinc 7 1, 3) := by decide +kernel
theorem dX13_readDigits_240 : decode cX13_readDigits 240 = .ok (.goto (-34), 3) := by decide +kernel
theorem dX13_readDigits_243 : decode cX13_readDigits 243 = .ok (.iconst 0, 1) := by decide +kernel
theorem dX13_readDigits_244 : decode cX13_readDigits 244 = .ok (.istore 7, 2) := by decide +kernel
theorem dX13_readDigits_246 : decode cX13_readDigits 246 = .ok (.iload 7, 2) := by decide +kernel
theorem dX13_readDigits_248 : decode cX13_readDigits 248 = .ok (.iload 5, 2) := by decide +kernel
theorem dX13_readDigits_250 : decode cX13_readDigits 250 = .ok (.if_icmp .ge 101, 3) := by decide +kernel
theorem dX13_readDigits_253 : decode cX13_readDigits 253 = .ok (.aload_n 0, 1) := by decide +kernel
theorem dX13_readDigits_254 : decode cX13_readDigits 254 = .ok (.getfield 107, 3) := by decide +kernel
theorem dX13_readDigits_257 : decode cX13_readDigits 257 = .ok (.iload 4, 2) := by decide +kernel
theorem dX13_readDigits_259 : decode cX13_readDigits 259 = .ok (.iload 5, 2) := by decide +kernel
theorem dX13_readDigits_261 : decode cX13_readDigits 261 = .ok (.iadd, 1) := by decide +kernel
theorem dX13_readDigits_262 : decode cX13_readDigits 262 = .ok (.iconst 1, 1) := by decide +kernel
theorem dX13_readDigits_263 : decode cX13_readDigits 263 = .ok (.isub, 1) := by decide +kernel
theorem dX13_readDigits_264 : decode cX13_readDigits 264 = .ok (.iload 7, 2) := by decide +kernel
theorem dX13_readDigits_266 : decode cX13_readDigits 266 = .ok (.isub, 1) := by decide +kernel
theorem dX13_readDigits_267 : decode cX13_readDigits 267 = .ok (.iaload, 1) := by decide +kernel
theorem dX13_readDigits_268 : decode cX13_readDigits 268 = .ok (.bipush 48, 2) := by decide +kernel
theorem dX13_readDigits_270 : decode cX13_readDigits 270 = .ok (.isub, 1) := by decide +kernel
theorem dX13_readDigits_271 : decode cX13_readDigits 271 = .ok (.istore 8, 2) := by decide +kernel
theorem dX13_readDigits_273 : decode cX13_readDigits 273 = .ok (.iload_n 2, 1) := by decide +kernel
theorem dX13_readDigits_274 : decode cX13_readDigits 274 = .ok (.ifCond .eq 48, 3) := by decide +kernel
theorem dX13_readDigits_277 : decode cX13_readDigits 277 = .ok (.aload_n 0, 1) := by decide +kernel
theorem dX13_readDigits_278 : decode cX13_readDigits 278 = .ok (.getfield 104, 3) := by decide +kernel
theorem dX13_readDigits_281 : decode cX13_readDigits 281 = .ok (.sipush 256, 3) := by decide +kernel
theorem dX13_readDigits_284 : decode cX13_readDigits 284 = .ok (.iload_n 1, 1) := by decide +kernel
theorem dX13_readDigits_285 : decode cX13_readDigits 285 = .ok (.iadd, 1) := by decide +kernel
theorem dX13_readDigits_286 : decode cX13_readDigits 286 = .ok (.iload 6, 2) := by decide +kernel
theorem dX13_readDigits_288 : decode cX13_readDigits 288 = .ok (.iadd, 1) := by decide +kernel
theorem dX13_readDigits_289 : decode cX13_readDigits 289 = .ok (.iconst 1, 1) := by decide +kernel
theorem dX13_readDigits_290 : decode cX13_readDigits 290 = .ok (.isub, 1) := by decide +kernel
theorem dX13_readDigits_291 : decode cX13_readDigits 291 = .ok (.iload 7, 2) := by decide +kernel
theorem dX13_readDigits_293 : decode cX13_readDigits 293 = .ok (.iconst 1, 1) := by decide +kernel
theorem dX13_readDigits_294 : decode cX13_readDigits 294 = .ok (.iadd, 1) := by decide +kernel
theorem dX13_readDigits_295 : decode cX13_readDigits 295 = .ok (.iconst 2, 1) := by decide +kernel
theorem dX13_readDigits_296 : decode cX13_readDigits 296 = .ok (.idiv, 1) := by decide +kernel
theorem dX13_readDigits_297 : decode cX13_readDigits 297 = .ok (.isub, 1) := by decide +kernel
theorem dX13_readDigits_298 : decode cX13_readDigits 298 = .ok (.dup2, 1) := by decide +kernel
theorem dX13_readDigits_299 : decode cX13_readDigits 299 = .ok (.iaload, 1) := by decide +kernel
theorem dX13_readDigits_300 : decode cX13_readDigits 300 = .ok (.iload 7, 2) := by decide +kernel
theorem dX13_readDigits_302 : decode cX13_readDigits 302 = .ok (.iconst 2, 1) := by decide +kernel
theorem dX13_readDigits_303 : decode cX13_readDigits 303 = .ok (.irem, 1) := by decide +kernel
theorem dX13_readDigits_304 : decode cX13_readDigits 304 = .ok (.ifCond .ne 11, 3) := by decide +kernel
theorem dX13_readDigits_307 : decode cX13_readDigits 307 = .ok (.bipush 16, 2) := by decide +kernel
theorem dX13_readDigits_309 : decode cX13_readDigits 309 = .ok (.iload 8, 2) := by decide +kernel
theorem dX13_readDigits_311 : decode cX13_readDigits 311 = .ok (.imul, 1) := by decide +kernel
theorem dX13_readDigits_312 : decode cX13_readDigits 312 = .ok (.goto 5, 3) := by decide +kernel
theorem dX13_readDigits_315 : decode cX13_readDigits 315 = .ok (.iload 8, 2) := by decide +kernel
theorem dX13_readDigits_317 : decode cX13_readDigits 317 = .ok (.iadd, 1) := by decide +kernel
theorem dX13_readDigits_318 : decode cX13_readDigits 318 = .ok (.iastore, 1) := by decide +kernel
theorem dX13_readDigits_319 : decode cX13_readDigits 319 = .ok (.goto 26, 3) := by decide +kernel
theorem dX13_readDigits_322 : decode cX13_readDigits 322 = .ok (.aload_n 0, 1) := by decide +kernel
theorem dX13_readDigits_323 : decode cX13_readDigits 323 = .ok (.getfield 104, 3) := by decide +kernel
theorem dX13_readDigits_326 : decode cX13_readDigits 326 = .ok (.sipush 256, 3) := by decide +kernel
theorem dX13_readDigits_329 : decode cX13_readDigits 329 = .ok (.iload_n 1, 1) := by decide +kernel
theorem dX13_readDigits_330 : decode cX13_readDigits 330 = .ok (.iadd, 1) := by decide +kernel
theorem dX13_readDigits_331 : decode cX13_readDigits 331 = .ok (.iload 6, 2) := by decide +kernel
theorem dX13_readDigits_333 : decode cX13_readDigits 333 = .ok (.iadd, 1) := by decide +kernel
theorem dX13_readDigits_334 : decode cX13_readDigits 334 = .ok (.iconst 1, 1) := by decide +kernel
theorem dX13_readDigits_335 : decode cX13_readDigits 335 = .ok (.isub, 1) := by decide +kernel
theorem dX13_readDigits_336 : decode cX13_readDigits 336 = .ok (.iload 7, 2) := by decide +kernel
theorem dX13_readDigits_338 : decode cX13_readDigits 338 = .ok (.isub, 1) := by decide +kernel
theorem dX13_readDigits_339 : decode cX13_readDigits 339 = .ok (.dup2, 1) := by decide +kernel
theorem dX13_readDigits_340 : decode cX13_readDigits 340 = .ok (.iaload, 1) := by decide +kernel
theorem dX13_readDigits_341 : decode cX13_readDigits 341 = .ok (.iload 8, 2) := by decide +kernel
theorem dX13_readDigits_343 : decode cX13_readDigits 343 = .ok (.iadd, 1) := by decide +kernel
theorem dX13_readDigits_344 : decode cX13_readDigits 344 = .ok (.iastore, 1) := by decide +kernel
theorem dX13_readDigits_345 : decode cX13_readDigits 345 = .ok (.iinc 7 1, 3) := by decide +kernel
theorem dX13_readDigits_348 : decode cX13_readDigits 348 = .ok (.goto (-102), 3) := by decide +kernel
theorem dX13_readDigits_351 : decode cX13_readDigits 351 = .ok (.sipush 256, 3) := by decide +kernel
theorem dX13_readDigits_354 : decode cX13_readDigits 354 = .ok (.iload_n 1, 1) := by decide +kernel
theorem dX13_readDigits_355 : decode cX13_readDigits 355 = .ok (.iadd, 1) := by decide +kernel
theorem dX13_readDigits_356 : decode cX13_readDigits 356 = .ok (.iload 6, 2) := by decide +kernel
theorem dX13_readDigits_358 : decode cX13_readDigits 358 = .ok (.iadd, 1) := by decide +kernel
theorem dX13_readDigits_359 : decode cX13_readDigits 359 = .ok (.iconst 1, 1) := by decide +kernel
theorem dX13_readDigits_360 : decode cX13_readDigits 360 = .ok (.isub, 1) := by decide +kernel
theorem dX13_readDigits_361 : decode cX13_readDigits 361 = .ok (.istore 7, 2) := by decide +kernel
theorem dX13_readDigits_363 : decode cX13_readDigits 363 = .ok (.aload_n 0, 1) := by decide +kernel
theorem dX13_readDigits_364 : decode cX13_readDigits 364 = .ok (.getfield 104, 3) := by decide +kernel
theorem dX13_readDigits_367 : decode cX13_readDigits 367 = .ok (.iload 7, 2) := by decide +kernel
theorem dX13_readDigits_369 : decode cX13_readDigits 369 = .ok (.iload_n 2, 1) := by decide +kernel
theorem dX13_readDigits_370 : decode cX13_readDigits 370 = .ok (.ifCond .eq 15, 3) := by decide +kernel
theorem dX13_readDigits_373 : decode cX13_readDigits 373 = .ok (.aload_n 0, 1) := by decide +kernel
theorem dX13_readDigits_374 : decode cX13_readDigits 374 = .ok (.getfield 104, 3) := by decide +kernel
theorem dX13_readDigits_377 : decode cX13_readDigits 377 = .ok (.iload 7, 2) := by decide +kernel
theorem dX13_readDigits_379 : decode cX13_readDigits 379 = .ok (.iaload, 1) := by decide +kernel
theorem dX13_readDigits_380 : decode cX13_readDigits 380 = .ok (.iload_n 3, 1) := by decide +kernel
theorem dX13_readDigits_381 : decode cX13_readDigits 381 = .ok (.iadd, 1) := by decide +kernel
theorem dX13_readDigits_382 : decode cX13_readDigits 382 = .ok (.goto 18, 3) := by decide +kernel
theorem dX13_readDigits_385 : decode cX13_readDigits 385 = .ok (.bipush 16, 2) := by decide +kernel
theorem dX13_readDigits_387 : decode cX13_readDigits 387 = .ok (.iload_n 3, 1) := by decide +kernel
theorem dX13_readDigits_388 : decode cX13_readDigits 388 = .ok (.imul, 1) := by decide +kernel
theorem dX13_readDigits_389 : decode cX13_readDigits 389 = .ok (.aload_n 0, 1) := by decide +kernel
theorem dX13_readDigits_390 : decode cX13_readDigits 390 = .ok (.getfield 104, 3) := by decide +kernel
theorem dX13_readDigits_393 : decode cX13_readDigits 393 = .ok (.iload 7, 2) := by decide +kernel
theorem dX13_readDigits_395 : decode cX13_readDigits 395 = .ok (.iaload, 1) := by decide +kernel
theorem dX13_readDigits_396 : decode cX13_readDigits 396 = .ok (.bipush 16, 2) := by decide +kernel
theorem dX13_readDigits_398 : decode cX13_readDigits 398 = .ok (.irem, 1) := by decide +kernel
theorem dX13_readDigits_399 : decode cX13_readDigits 399 = .ok (.iadd, 1) := by decide +kernel
theorem dX13_readDigits_400 : decode cX13_readDigits 400 = .ok (.iastore, 1) := by decide +kernel
theorem dX13_readDigits_401 : decode cX13_readDigits 401 = .ok (.return_, 1) := by decide +kernel
theorem dX13_readAt_0 : decode cX13_readAt 0 = .ok (.aload_n 0, 1) := by decide +kernel
theorem dX13_readAt_1 : decode cX13_readAt 1 = .ok (.invokevirtual 252, 3) := by decide +kernel
theorem dX13_readAt_4 : decode cX13_readAt 4 = .ok (.aload_n 0, 1) := by decide +kernel
theorem dX13_readAt_5 : decode cX13_readAt 5 = .ok (.iconst 0, 1) := by decide +kernel
theorem dX13_readAt_6 : decode cX13_readAt 6 = .ok (.sipush 255, 3) := by decide +kernel
theorem dX13_readAt_9 : decode cX13_readAt 9 = .ok (.invokevirtual 291, 3) := by decide +kernel
theorem dX13_readAt_12 : decode cX13_readAt 12 = .ok (.istore_n 1, 1) := by decide +kernel
theorem dX13_readAt_13 : decode cX13_readAt 13 = .ok (.aload_n 0, 1) := by decide +kernel
theorem dX13_readAt_14 : decode cX13_readAt 14 = .ok (.getfield 231, 3) := by decide +kernel
theorem dX13_readAt_17 : decode cX13_readAt 17 = .ok (.ifCond .eq 4, 3) := by decide +kernel
theorem dX13_readAt_20 : decode cX13_readAt 20 = .ok (.return_, 1) := by decide +kernel
theorem dX13_readAt_21 : decode cX13_readAt 21 = .ok (.aload_n 0, 1) := by decide +kernel
theorem dX13_readAt_22 : decode cX13_readAt 22 = .ok (.getfield 209, 3) := by decide +kernel
theorem dX13_readAt_25 : decode cX13_readAt 25 = .ok (.iconst 3, 1) := by decide +kernel
theorem dX13_readAt_26 : decode cX13_readAt 26 = .ok (.if_icmp .ne 11, 3) := by decide +kernel
theorem dX13_readAt_29 : decode cX13_readAt 29 = .ok (.aload_n 0, 1) := by decide +kernel
theorem dX13_readAt_30 : decode cX13_readAt 30 = .ok (.iload_n 1, 1) := by decide +kernel
theorem dX13_readAt_31 : decode cX13_readAt 31 = .ok (.invokevirtual 294, 3) := by decide +kernel
theorem dX13_readAt_34 : decode cX13_readAt 34 = .ok (.goto 44, 3) := by decide +kernel
theorem dX13_readAt_37 : decode cX13_readAt 37 = .ok (.aload_n 0, 1) := by decide +kernel
theorem dX13_readAt_38 : decode cX13_readAt 38 = .ok (.ldc 67, 2) := by decide +kernel
theorem dX13_readAt_40 : decode cX13_readAt 40 = .ok (.invokevirtual 245, 3) := by decide +kernel
theorem dX13_readAt_43 : decode cX13_readAt 43 = .ok (.ifCond .eq 12, 3) := by decide +kernel
theorem dX13_readAt_46 : decode cX13_readAt 46 = .ok (.aload_n 0, 1) := by decide +kernel
theorem dX13_readAt_47 : decode cX13_readAt 47 = .ok (.iload_n 1, 1) := by decide +kernel
theorem dX13_readAt_48 : decode cX13_readAt 48 = .ok (.iconst 1, 1) := by decide +kernel
theorem dX13_readAt_49 : decode cX13_readAt 49 = .ok (.invokevirtual 297, 3) := by decide +kernel
theorem dX13_readAt_52 : decode cX13_readAt 52 = .ok (.goto 26, 3) := by decide +kernel
theorem dX13_readAt_55 : decode cX13_readAt 55 = .ok (.aload_n 0, 1) := by decide +kernel
theorem dX13_readAt_56 : decode cX13_readAt 56 = .ok (.ldc 69, 2) := by decide +kernel
theorem dX13_readAt_58 : decode cX13_readAt 58 = .ok (.invokevirtual 245, 3) := by decide +kernel
theorem dX13_readAt_61 : decode cX13_readAt 61 = .ok (.ifCond .eq 12, 3) := by decide +kernel
theorem dX13_readAt_64 : decode cX13_readAt 64 = .ok (.aload_n 0, 1) := by decide +kernel
theorem dX13_readAt_65 : decode cX13_readAt 65 = .ok (.iload_n 1, 1) := by decide +kernel
theorem dX13_readAt_66 : decode cX13_readAt 66 = .ok (.iconst 0, 1) := by decide +kernel
theorem dX13_readAt_67 : decode cX13_readAt 67 = .ok (.invokevirtual 297, 3) := by decide +kernel
theorem dX13_readAt_70 : decode cX13_readAt 70 = .ok (.goto 8, 3) := by decide +kernel
theorem dX13_readAt_73 : decode cX13_readAt 73 = .ok (.aload_n 0, 1) := by decide +kernel
theorem dX13_readAt_74 : decode cX13_readAt 74 = .ok (.iconst 1, 1) := by decide +kernel
theorem dX13_readAt_75 : decode cX13_readAt 75 = .ok (.invokevirtual 255, 3) := by decide +kernel
theorem dX13_readAt_78 : decode cX13_readAt 78 = .ok (.return_, 1) := by decide +kernel
theorem dX13_readRegister_0 : decode cX13_readRegister 0 = .ok (.aload_n 0, 1) := by decide +kernel
theorem dX13_readRegister_1 : decode cX13_readRegister 1 = .ok (.bipush 37, 2) := by decide +kernel
theorem dX13_readRegister_3 : decode cX13_readRegister 3 = .ok (.invokevirtual 277, 3) := by decide +kernel
theorem dX13_readRegister_6 : decode cX13_readRegister 6 = .ok (.aload_n 0, 1) := by decide +kernel
theorem dX13_readRegister_7 : decode cX13_readRegister 7 = .ok (.iconst 0, 1) := by decide +kernel
theorem dX13_readRegister_8 : decode cX13_readRegister 8 = .ok (.bipush 7, 2) := by decide +kernel
theorem dX13_readRegister_10 : decode cX13_readRegister 10 = .ok (.invokevirtual 291, 3) := by decide +kernel
theorem dX13_readRegister_13 : decode cX13_readRegister 13 = .ok (.ireturn, 1) := by decide +kernel
theorem dX13_readAddress_0 : decode cX13_readAddress 0 = .ok (.iconst 2, 1) := by decide +kernel
theorem dX13_readAddress_1 : decode cX13_readAddress 1 = .ok (.bipush 60, 2) := by decide +kernel
theorem dX13_readAddress_3 : decode cX13_readAddress 3 = .ok (.aload_n 0, 1) := by decide +kernel
theorem dX13_readAddress_4 : decode cX13_readAddress 4 = .ok (.getfield 259, 3) := by decide +kernel
theorem dX13_readAddress_7 : decode cX13_readAddress 7 = .ok (.iadd, 1) := by decide +kernel
theorem dX13_readAddress_8 : decode cX13_readAddress 8 = .ok (.imul, 1) := by decide +kernel
theorem dX13_readAddress_9 : decode cX13_readAddress 9 = .ok (.iload_n 1, 1) := by decide +kernel
theorem dX13_readAddress_10 : decode cX13_readAddress 10 = .ok (.iadd, 1) := by decide +kernel
theorem dX13_readAddress_11 : decode cX13_readAddress 11 = .ok (.istore_n 2, 1) := by decide +kernel
theorem dX13_readAddress_12 : decode cX13_readAddress 12 = .ok (.aload_n 0, 1) := by decide +kernel
theorem dX13_readAddress_13 : decode cX13_readAddress 13 = .ok (.getfield 86, 3) := by decide +kernel
theorem dX13_readAddress_16 : decode cX13_readAddress 16 = .ok (.iload_n 2, 1) := by decide +kernel
theorem dX13_readAddress_17 : decode cX13_readAddress 17 = .ok (.aload_n 0, 1) := by decide +kernel
theorem dX13_readAddress_18 : decode cX13_readAddress 18 = .ok (.iconst 0, 1) := by decide +kernel
theorem dX13_readAddress_19 : decode cX13_readAddress 19 = .ok (.sipush 255, 3) := by decide +kernel
theorem dX13_readAddress_22 : decode cX13_readAddress 22 = .ok (.invokevirtual 291, 3) := by decide +kernel
theorem dX13_readAddress_25 : decode cX13_readAddress 25 = .ok (.iastore, 1) := by decide +kernel
theorem dX13_readAddress_26 : decode cX13_readAddress 26 = .ok (.aload_n 0, 1) := by decide +kernel
theorem dX13_readAddress_27 : decode cX13_readAddress 27 = .ok (.getfield 89, 3) := by decide +kernel
theorem dX13_readAddress_30 : decode cX13_readAddress 30 = .ok (.iload_n 2, 1) := by decide +kernel
theorem dX13_readAddress_31 : decode cX13_readAddress 31 = .ok (.aload_n 0, 1) := by decide +kernel
theorem dX13_readAddress_32 : decode cX13_readAddress 32 = .ok (.bipush 37, 2) := by decide +kernel
theorem dX13_readAddress_34 : decode cX13_readAddress 34 = .ok (.invokevirtual 249, 3) := by decide +kernel
theorem dX13_readAddress_37 : decode cX13_readAddress 37 = .ok (.ifCond .eq 10, 3) := by decide +kernel
theorem dX13_readAddress_40 : decode cX13_readAddress 40 = .ok (.aload_n 0, 1) := by decide +kernel
theorem dX13_readAddress_41 : decode cX13_readAddress 41 = .ok (.invokevirtual 301, 3) := by decide +kernel
theorem dX13_readAddress_44 : decode cX13_readAddress 44 = .ok (.goto 4, 3) := by decide +kernel
theorem dX13_readAddress_47 : decode cX13_readAddress 47 = .ok (.iconst (-1), 1) := by decide +kernel
theorem dX13_readAddress_48 : decode cX13_readAddress 48 = .ok (.iastore, 1) := by decide +kernel
theorem dX13_readAddress_49 : decode cX13_readAddress 49 = .ok (.aload_n 0, 1) := by decide +kernel
theorem dX13_readAddress_50 : decode cX13_readAddress 50 = .ok (.getfield 92, 3) := by decide +kernel
theorem dX13_readAddress_53 : decode cX13_readAddress 53 = .ok (.iload_n 2, 1) := by decide +kernel
theorem dX13_readAddress_54 : decode cX13_readAddress 54 = .ok (.iconst 0, 1) := by decide +kernel
theorem dX13_readAddress_55 : decode cX13_readAddress 55 = .ok (.iastore, 1) := by decide +kernel
theorem dX13_readAddress_56 : decode cX13_readAddress 56 = .ok (.return_, 1) := by decide +kernel
theorem dX13_readField_0 : decode cX13_readField 0 = .ok (.aload_n 0, 1) := by decide +kernel
theorem dX13_readField_1 : decode cX13_readField 1 = .ok (.iload_n 1, 1) := by decide +kernel
theorem dX13_readField_2 : decode cX13_readField 2 = .ok (.invokevirtual 304, 3) := by decide +kernel
theorem dX13_readField_5 : decode cX13_readField 5 = .ok (.aload_n 0, 1) := by decide +kernel
theorem dX13_readField_6 : decode cX13_readField 6 = .ok (.bipush 58, 2) := by decide +kernel
theorem dX13_readField_8 : decode cX13_readField 8 = .ok (.invokevirtual 277, 3) := by decide +kernel
theorem dX13_readField_11 : decode cX13_readField 11 = .ok (.aload_n 0, 1) := by decide +kernel
theorem dX13_readField_12 : decode cX13_readField 12 = .ok (.getfield 92, 3) := by decide +kernel
theorem dX13_readField_15 : decode cX13_readField 15 = .ok (.iconst 2, 1) := by decide +kernel
theorem dX13_readField_16 : decode cX13_readField 16 = .ok (.bipush 60, 2) := by decide +kernel
theorem dX13_readField_18 : decode cX13_readField 18 = .ok (.aload_n 0, 1) := by decide +kernel
theorem dX13_readField_19 : decode cX13_readField 19 = .ok (.getfield 259, 3) := by decide +kernel
theorem dX13_readField_22 : decode cX13_readField 22 = .ok (.iadd, 1) := by decide +kernel
theorem dX13_readField_23 : decode cX13_readField 23 = .ok (.imul, 1) := by decide +kernel
theorem dX13_readField_24 : decode cX13_readField 24 = .ok (.iload_n 1, 1) := by decide +kernel
theorem dX13_readField_25 : decode cX13_readField 25 = .ok (.iadd, 1) := by decide +kernel
theorem dX13_readField_26 : decode cX13_readField 26 = .ok (.aload_n 0, 1) := by decide +kernel
theorem dX13_readField_27 : decode cX13_readField 27 = .ok (.iconst 1, 1) := by decide +kernel
theorem dX13_readField_28 : decode cX13_readField 28 = .ok (.iload_n 2, 1) := by decide +kernel
theorem dX13_readField_29 : decode cX13_readField 29 = .ok (.invokevirtual 291, 3) := by decide +kernel
theorem dX13_readField_32 : decode cX13_readField 32 = .ok (.iastore, 1) := by decide +kernel
theorem dX13_readField_33 : decode cX13_readField 33 = .ok (.return_, 1) := by decide +kernel
theorem dX13_readOperands_0 : decode cX13_readOperands 0 = .ok (.bipush 60, 2) := by decide +kernel
theorem dX13_readOperands_2 : decode cX13_readOperands 2 = .ok (.aload_n 0, 1) := by decide +kernel
theorem dX13_readOperands_3 : decode cX13_readOperands 3 = .ok (.getfield 259, 3) := by decide +kernel
theorem dX13_readOperands_6 : decode cX13_readOperands 6 = .ok (.iadd, 1) := by decide +kernel
theorem dX13_readOperands_7 : decode cX13_readOperands 7 = .ok (.istore_n 2, 1) := by decide +kernel
theorem dX13_readOperands_8 : decode cX13_readOperands 8 = .ok (.iload_n 1, 1) := by decide +kernel
theorem dX13_readOperands_9 : decode cX13_readOperands 9 = .ok (.bipush 8, 2) := by decide +kernel
theorem dX13_readOperands_11 : decode cX13_readOperands 11 = .ok (.if_icmp .gt 20, 3) := by decide +kernel
theorem dX13_readOperands_14 : decode cX13_readOperands 14 = .ok (.aload_n 0, 1) := by decide +kernel
theorem dX13_readOperands_15 : decode cX13_readOperands 15 = .ok (.iconst 0, 1) := by decide +kernel
theorem dX13_readOperands_16 : decode cX13_readOperands 16 = .ok (.bipush 16, 2) := by decide +kernel
theorem dX13_readOperands_18 : decode cX13_readOperands 18 = .ok (.invokevirtual 307, 3) := by decide +kernel
theorem dX13_readOperands_21 : decode cX13_readOperands 21 = .ok (.aload_n 0, 1) := by decide +kernel
theorem dX13_readOperands_22 : decode cX13_readOperands 22 = .ok (.iconst 1, 1) := by decide +kernel
theorem dX13_readOperands_23 : decode cX13_readOperands 23 = .ok (.bipush 16, 2) := by decide +kernel
theorem dX13_readOperands_25 : decode cX13_readOperands 25 = .ok (.invokevirtual 307, 3) := by decide +kernel
theorem dX13_readOperands_28 : decode cX13_readOperands 28 = .ok (.goto 196, 3) := by decide +kernel
theorem dX13_readOperands_31 : decode cX13_readOperands 31 = .ok (.iload_n 1, 1) := by decide +kernel
theorem dX13_readOperands_32 : decode cX13_readOperands 32 = .ok (.bipush 13, 2) := by decide +kernel
theorem dX13_readOperands_34 : decode cX13_readOperands 34 = .ok (.if_icmp .gt 18, 3) := by decide +kernel
theorem dX13_readOperands_37 : decode cX13_readOperands 37 = .ok (.aload_n 0, 1) := by decide +kernel
theorem dX13_readOperands_38 : decode cX13_readOperands 38 = .ok (.iconst 0, 1) := by decide +kernel
theorem dX13_readOperands_39 : decode cX13_readOperands 39 = .ok (.bipush 64, 2) := by decide +kernel
theorem dX13_readOperands_41 : decode cX13_readOperands 41 = .ok (.invokevirtual 307, 3) := by decide +kernel
theorem dX13_readOperands_44 : decode cX13_readOperands 44 = .ok (.aload_n 0, 1) := by decide +kernel
theorem dX13_readOperands_45 : decode cX13_readOperands 45 = .ok (.iconst 1, 1) := by decide +kernel
theorem dX13_readOperands_46 : decode cX13_readOperands 46 = .ok (.invokevirtual 304, 3) := by decide +kernel
theorem dX13_readOperands_49 : decode cX13_readOperands 49 = .ok (.goto 175, 3) := by decide +kernel
theorem dX13_readOperands_52 : decode cX13_readOperands 52 = .ok (.iload_n 1, 1) := by decide +kernel
theorem dX13_readOperands_53 : decode cX13_readOperands 53 = .ok (.bipush 14, 2) := by decide +kernel
theorem dX13_readOperands_55 : decode cX13_readOperands 55 = .ok (.if_icmp .ne 69, 3) := by decide +kernel
theorem dX13_readOperands_58 : decode cX13_readOperands 58 = .ok (.aload_n 0, 1) := by decide +kernel
theorem dX13_readOperands_59 : decode cX13_readOperands 59 = .ok (.iconst 0, 1) := by decide +kernel
theorem dX13_readOperands_60 : decode cX13_readOperands 60 = .ok (.bipush 16, 2) := by decide +kernel
theorem dX13_readOperands_62 : decode cX13_readOperands 62 = .ok (.invokevirtual 307, 3) := by decide +kernel
theorem dX13_readOperands_65 : decode cX13_readOperands 65 = .ok (.aload_n 0, 1) := by decide +kernel
theorem dX13_readOperands_66 : decode cX13_readOperands 66 = .ok (.bipush 45, 2) := by decide +kernel
theorem dX13_readOperands_68 : decode cX13_readOperands 68 = .ok (.invokevirtual 282, 3) := by decide +kernel
theorem dX13_readOperands_71 : decode cX13_readOperands 71 = .ok (.istore_n 3, 1) := by decide +kernel
theorem dX13_readOperands_72 : decode cX13_readOperands 72 = .ok (.aload_n 0, 1) := by decide +kernel
theorem dX13_readOperands_73 : decode cX13_readOperands 73 = .ok (.iconst 0, 1) := by decide +kernel
theorem dX13_readOperands_74 : decode cX13_readOperands 74 = .ok (.iload_n 3, 1) := by decide +kernel
theorem dX13_readOperands_75 : decode cX13_readOperands 75 = .ok (.ifCond .eq 8, 3) := by decide +kernel
theorem dX13_readOperands_78 : decode cX13_readOperands 78 = .ok (.bipush 32, 2) := by decide +kernel
theorem dX13_readOperands_80 : decode cX13_readOperands 80 = .ok (.goto 5, 3) := by decide +kernel
theorem dX13_readOperands_83 : decode cX13_readOperands 83 = .ok (.bipush 31, 2) := by decide +kernel
theorem dX13_readOperands_85 : decode cX13_readOperands 85 = .ok (.invokevirtual 291, 3) := by decide +kernel
theorem dX13_readOperands_88 : decode cX13_readOperands 88 = .ok (.istore 4, 2) := by decide +kernel
theorem dX13_readOperands_90 : decode cX13_readOperands 90 = .ok (.aload_n 0, 1) := by decide +kernel
theorem dX13_readOperands_91 : decode cX13_readOperands 91 = .ok (.getfield 95, 3) := by decide +kernel
theorem dX13_readOperands_94 : decode cX13_readOperands 94 = .ok (.iload_n 2, 1) := by decide +kernel
theorem dX13_readOperands_95 : decode cX13_readOperands 95 = .ok (.iload_n 3, 1) := by decide +kernel
theorem dX13_readOperands_96 : decode cX13_readOperands 96 = .ok (.ifCond .eq 9, 3) := by decide +kernel
theorem dX13_readOperands_99 : decode cX13_readOperands 99 = .ok (.iload 4, 2) := by decide +kernel
theorem dX13_readOperands_101 : decode cX13_readOperands 101 = .ok (.ineg, 1) := by decide +kernel
theorem dX13_readOperands_102 : decode cX13_readOperands 102 = .ok (.goto 5, 3) := by decide +kernel
theorem dX13_readOperands_105 : decode cX13_readOperands 105 = .ok (.iload 4, 2) := by decide +kernel
theorem dX13_readOperands_107 : decode cX13_readOperands 107 = .ok (.iastore, 1) := by decide +kernel
theorem dX13_readOperands_108 : decode cX13_readOperands 108 = .ok (.aload_n 0, 1) := by decide +kernel
theorem dX13_readOperands_109 : decode cX13_readOperands 109 = .ok (.getfield 98, 3) := by decide +kernel
theorem dX13_readOperands_112 : decode cX13_readOperands 112 = .ok (.iload_n 2, 1) := by decide +kernel
theorem dX13_readOperands_113 : decode cX13_readOperands 113 = .ok (.aload_n 0, 1) := by decide +kernel
theorem dX13_readOperands_114 : decode cX13_readOperands 114 = .ok (.iconst 0, 1) := by decide +kernel
theorem dX13_readOperands_115 : decode cX13_readOperands 115 = .ok (.bipush 9, 2) := by decide +kernel
theorem dX13_readOperands_117 : decode cX13_readOperands 117 = .ok (.invokevirtual 291, 3) := by decide +kernel
theorem dX13_readOperands_120 : decode cX13_readOperands 120 = .ok (.iastore, 1) := by decide +kernel
theorem dX13_readOperands_121 : decode cX13_readOperands 121 = .ok (.goto 103, 3) := by decide +kernel
theorem dX13_readOperands_124 : decode cX13_readOperands 124 = .ok (.iload_n 1, 1) := by decide +kernel
theorem dX13_readOperands_125 : decode cX13_readOperands 125 = .ok (.bipush 15, 2) := by decide +kernel
theorem dX13_readOperands_127 : decode cX13_readOperands 127 = .ok (.if_icmp .ne 13, 3) := by decide +kernel
theorem dX13_readOperands_130 : decode cX13_readOperands 130 = .ok (.aload_n 0, 1) := by decide +kernel
theorem dX13_readOperands_131 : decode cX13_readOperands 131 = .ok (.iconst 0, 1) := by decide +kernel
theorem dX13_readOperands_132 : decode cX13_readOperands 132 = .ok (.bipush 16, 2) := by decide +kernel
theorem dX13_readOperands_134 : decode cX13_readOperands 134 = .ok (.invokevirtual 307, 3) := by decide +kernel
theorem dX13_readOperands_137 : decode cX13_readOperands 137 = .ok (.goto 87, 3) := by decide +kernel
theorem dX13_readOperands_140 : decode cX13_readOperands 140 = .ok (.iload_n 1, 1) := by decide +kernel
theorem dX13_readOperands_141 : decode cX13_readOperands 141 = .ok (.bipush 18, 2) := by decide +kernel
theorem dX13_readOperands_143 : decode cX13_readOperands 143 = .ok (.if_icmp .gt 21, 3) := by decide +kernel
theorem dX13_readOperands_146 : decode cX13_readOperands 146 = .ok (.aload_n 0, 1) := by decide +kernel
theorem dX13_readOperands_147 : decode cX13_readOperands 147 = .ok (.getfield 95, 3) := by decide +kernel
theorem dX13_readOperands_150 : decode cX13_readOperands 150 = .ok (.iload_n 2, 1) := by decide +kernel
theorem dX13_readOperands_151 : decode cX13_readOperands 151 = .ok (.aload_n 0, 1) := by decide +kernel
theorem dX13_readOperands_152 : decode cX13_readOperands 152 = .ok (.invokevirtual 301, 3) := by decide +kernel
theorem dX13_readOperands_155 : decode cX13_readOperands 155 = .ok (.iastore, 1) := by decide +kernel
theorem dX13_readOperands_156 : decode cX13_readOperands 156 = .ok (.aload_n 0, 1) := by decide +kernel
theorem dX13_readOperands_157 : decode cX13_readOperands 157 = .ok (.iconst 0, 1) := by decide +kernel
theorem dX13_readOperands_158 : decode cX13_readOperands 158 = .ok (.invokevirtual 304, 3) := by decide +kernel
theorem dX13_readOperands_161 : decode cX13_readOperands 161 = .ok (.goto 63, 3) := by decide +kernel
theorem dX13_readOperands_164 : decode cX13_readOperands 164 = .ok (.iload_n 1, 1) := by decide +kernel
theorem dX13_readOperands_165 : decode cX13_readOperands 165 = .ok (.bipush 19, 2) := by decide +kernel
theorem dX13_readOperands_167 : decode cX13_readOperands 167 = .ok (.if_icmp .ne 51, 3) := by decide +kernel
theorem dX13_readOperands_170 : decode cX13_readOperands 170 = .ok (.aload_n 0, 1) := by decide +kernel
theorem dX13_readOperands_171 : decode cX13_readOperands 171 = .ok (.getfield 95, 3) := by decide +kernel
theorem dX13_readOperands_174 : decode cX13_readOperands 174 = .ok (.iload_n 2, 1) := by decide +kernel
theorem dX13_readOperands_175 : decode cX13_readOperands 175 = .ok (.aload_n 0, 1) := by decide +kernel
theorem dX13_readOperands_176 : decode cX13_readOperands 176 = .ok (.invokevirtual 301, 3) := by decide +kernel
theorem dX13_readOperands_179 : decode cX13_readOperands 179 = .ok (.iastore, 1) := by decide +kernel
theorem dX13_readOperands_180 : decode cX13_readOperands 180 = .ok (.aload_n 0, 1) := by decide +kernel
theorem dX13_readOperands_181 : decode cX13_readOperands 181 = .ok (.bipush 45, 2) := by decide +kernel
theorem dX13_readOperands_183 : decode cX13_readOperands 183 = .ok (.invokevirtual 282, 3) := by decide +kernel
theorem dX13_readOperands_186 : decode cX13_readOperands 186 = .ok (.istore_n 3, 1) := by decide +kernel
theorem dX13_readOperands_187 : decode cX13_readOperands 187 = .ok (.aload_n 0, 1) := by decide +kernel
theorem dX13_readOperands_188 : decode cX13_readOperands 188 = .ok (.iconst 0, 1) := by decide +kernel
theorem dX13_readOperands_189 : decode cX13_readOperands 189 = .ok (.sipush 9999, 3) := by decide +kernel
theorem dX13_readOperands_192 : decode cX13_readOperands 192 = .ok (.invokevirtual 291, 3) := by decide +kernel
theorem dX13_readOperands_195 : decode cX13_readOperands 195 = .ok (.istore 4, 2) := by decide +kernel
theorem dX13_readOperands_197 : decode cX13_readOperands 197 = .ok (.aload_n 0, 1) := by decide +kernel
theorem dX13_readOperands_198 : decode cX13_readOperands 198 = .ok (.getfield 98, 3) := by decide +kernel
theorem dX13_readOperands_201 : decode cX13_readOperands 201 = .ok (.iload_n 2, 1) := by decide +kernel
theorem dX13_readOperands_202 : decode cX13_readOperands 202 = .ok (.iload_n 3, 1) := by decide +kernel
theorem dX13_readOperands_203 : decode cX13_readOperands 203 = .ok (.ifCond .eq 9, 3) := by decide +kernel
theorem dX13_readOperands_206 : decode cX13_readOperands 206 = .ok (.iload 4, 2) := by decide +kernel
theorem dX13_readOperands_208 : decode cX13_readOperands 208 = .ok (.ineg, 1) := by decide +kernel
theorem dX13_readOperands_209 : decode cX13_readOperands 209 = .ok (.goto 5, 3) := by decide +kernel
theorem dX13_readOperands_212 : decode cX13_readOperands 212 = .ok (.iload 4, 2) := by decide +kernel
theorem dX13_readOperands_214 : decode cX13_readOperands 214 = .ok (.iastore, 1) := by decide +kernel
theorem dX13_readOperands_215 : decode cX13_readOperands 215 = .ok (.goto 9, 3) := by decide +kernel
theorem dX13_readOperands_218 : decode cX13_readOperands 218 = .ok (.aload_n 0, 1) := by decide +kernel
theorem dX13_readOperands_219 : decode cX13_readOperands 219 = .ok (.iload_n 1, 1) := by decide +kernel
theorem dX13_readOperands_220 : decode cX13_readOperands 220 = .ok (.iload_n 2, 1) := by decide +kernel
theorem dX13_readOperands_221 : decode cX13_readOperands 221 = .ok (.invokevirtual 311, 3) := by decide +kernel
theorem dX13_readOperands_224 : decode cX13_readOperands 224 = .ok (.return_, 1) := by decide +kernel
theorem dX13_readJump_0 : decode cX13_readJump 0 = .ok (.iload_n 1, 1) := by decide +kernel
theorem dX13_readJump_1 : decode cX13_readJump 1 = .ok (.bipush 20, 2) := by decide +kernel
theorem dX13_readJump_3 : decode cX13_readJump 3 = .ok (.if_icmp .ne 16, 3) := by decide +kernel
theorem dX13_readJump_6 : decode cX13_readJump 6 = .ok (.aload_n 0, 1) := by decide +kernel
theorem dX13_readJump_7 : decode cX13_readJump 7 = .ok (.getfield 95, 3) := by decide +kernel
theorem dX13_readJump_10 : decode cX13_readJump 10 = .ok (.iload_n 2, 1) := by decide +kernel
theorem dX13_readJump_11 : decode cX13_readJump 11 = .ok (.aload_n 0, 1) := by decide +kernel
theorem dX13_readJump_12 : decode cX13_readJump 12 = .ok (.invokevirtual 301, 3) := by decide +kernel
theorem dX13_readJump_15 : decode cX13_readJump 15 = .ok (.iastore, 1) := by decide +kernel
theorem dX13_readJump_16 : decode cX13_readJump 16 = .ok (.goto 44, 3) := by decide +kernel
theorem dX13_readJump_19 : decode cX13_readJump 19 = .ok (.iload_n 1, 1) := by decide +kernel
theorem dX13_readJump_20 : decode cX13_readJump 20 = .ok (.bipush 21, 2) := by decide +kernel
theorem dX13_readJump_22 : decode cX13_readJump 22 = .ok (.if_icmp .ne 19, 3) := by decide +kernel
theorem dX13_readJump_25 : decode cX13_readJump 25 = .ok (.aload_n 0, 1) := by decide +kernel
theorem dX13_readJump_26 : decode cX13_readJump 26 = .ok (.getfield 95, 3) := by decide +kernel
theorem dX13_readJump_29 : decode cX13_readJump 29 = .ok (.iload_n 2, 1) := by decide +kernel
theorem dX13_readJump_30 : decode cX13_readJump 30 = .ok (.aload_n 0, 1) := by decide +kernel
theorem dX13_readJump_31 : decode cX13_readJump 31 = .ok (.iconst 0, 1) := by decide +kernel
theorem dX13_readJump_32 : decode cX13_readJump 32 = .ok (.bipush 15, 2) := by decide +kernel
theorem dX13_readJump_34 : decode cX13_readJump 34 = .ok (.invokevirtual 291, 3) := by decide +kernel
theorem dX13_readJump_37 : decode cX13_readJump 37 = .ok (.iastore, 1) := by decide +kernel
theorem dX13_readJump_38 : decode cX13_readJump 38 = .ok (.goto 22, 3) := by decide +kernel
theorem dX13_readJump_41 : decode cX13_readJump 41 = .ok (.iload_n 1, 1) := by decide +kernel
theorem dX13_readJump_42 : decode cX13_readJump 42 = .ok (.bipush 22, 2) := by decide +kernel
theorem dX13_readJump_44 : decode cX13_readJump 44 = .ok (.if_icmp .ne 16, 3) := by decide +kernel
theorem dX13_readJump_47 : decode cX13_readJump 47 = .ok (.aload_n 0, 1) := by decide +kernel
theorem dX13_readJump_48 : decode cX13_readJump 48 = .ok (.getfield 95, 3) := by decide +kernel
theorem dX13_readJump_51 : decode cX13_readJump 51 = .ok (.iload_n 2, 1) := by decide +kernel
theorem dX13_readJump_52 : decode cX13_readJump 52 = .ok (.aload_n 0, 1) := by decide +kernel
theorem dX13_readJump_53 : decode cX13_readJump 53 = .ok (.iconst 1, 1) := by decide +kernel
theorem dX13_readJump_54 : decode cX13_readJump 54 = .ok (.bipush 8, 2) := by decide +kernel
theorem dX13_readJump_56 : decode cX13_readJump 56 = .ok (.invokevirtual 291, 3) := by decide +kernel
theorem dX13_readJump_59 : decode cX13_readJump 59 = .ok (.iastore, 1) := by decide +kernel
theorem dX13_readJump_60 : decode cX13_readJump 60 = .ok (.iload_n 1, 1) := by decide +kernel
theorem dX13_readJump_61 : decode cX13_readJump 61 = .ok (.bipush 20, 2) := by decide +kernel
theorem dX13_readJump_63 : decode cX13_readJump 63 = .ok (.if_icmp .eq 31, 3) := by decide +kernel
theorem dX13_readJump_66 : decode cX13_readJump 66 = .ok (.iload_n 1, 1) := by decide +kernel
theorem dX13_readJump_67 : decode cX13_readJump 67 = .ok (.bipush 21, 2) := by decide +kernel
theorem dX13_readJump_69 : decode cX13_readJump 69 = .ok (.if_icmp .eq 25, 3) := by decide +kernel
theorem dX13_readJump_72 : decode cX13_readJump 72 = .ok (.iload_n 1, 1) := by decide +kernel
theorem dX13_readJump_73 : decode cX13_readJump 73 = .ok (.bipush 22, 2) := by decide +kernel
theorem dX13_readJump_75 : decode cX13_readJump 75 = .ok (.if_icmp .ne 23, 3) := by decide +kernel
theorem dX13_readJump_78 : decode cX13_readJump 78 = .ok (.aload_n 0, 1) := by decide +kernel
theorem dX13_readJump_79 : decode cX13_readJump 79 = .ok (.getfield 231, 3) := by decide +kernel
theorem dX13_readJump_82 : decode cX13_readJump 82 = .ok (.ifCond .ne 16, 3) := by decide +kernel
theorem dX13_readJump_85 : decode cX13_readJump 85 = .ok (.aload_n 0, 1) := by decide +kernel
theorem dX13_readJump_86 : decode cX13_readJump 86 = .ok (.bipush 59, 2) := by decide +kernel
theorem dX13_readJump_88 : decode cX13_readJump 88 = .ok (.invokevirtual 249, 3) := by decide +kernel
theorem dX13_readJump_91 : decode cX13_readJump 91 = .ok (.ifCond .ne 7, 3) := by decide +kernel
theorem dX13_readJump_94 : decode cX13_readJump 94 = .ok (.aload_n 0, 1) := by decide +kernel
theorem dX13_readJump_95 : decode cX13_readJump 95 = .ok (.invokevirtual 314, 3) := by decide +kernel
theorem dX13_readJump_98 : decode cX13_readJump 98 = .ok (.return_, 1) := by decide +kernel
theorem dX13_readInstruction_0 : decode cX13_readInstruction 0 = .ok (.aload_n 0, 1) := by decide +kernel
theorem dX13_readInstruction_1 : decode cX13_readInstruction 1 = .ok (.getfield 117, 3) := by decide +kernel
theorem dX13_readInstruction_4 : decode cX13_readInstruction 4 = .ok (.aload_n 0, 1) := by decide +kernel
theorem dX13_readInstruction_5 : decode cX13_readInstruction 5 = .ok (.getfield 259, 3) := by decide +kernel
theorem dX13_readInstruction_8 : decode cX13_readInstruction 8 = .ok (.iconst 0, 1) := by decide +kernel
theorem dX13_readInstruction_9 : decode cX13_readInstruction 9 = .ok (.iastore, 1) := by decide +kernel
theorem dX13_readInstruction_10 : decode cX13_readInstruction 10 = .ok (.aload_n 0, 1) := by decide +kernel
theorem dX13_readInstruction_11 : decode cX13_readInstruction 11 = .ok (.getfield 123, 3) := by decide +kernel
theorem dX13_readInstruction_14 : decode cX13_readInstruction 14 = .ok (.aload_n 0, 1) := by decide +kernel
theorem dX13_readInstruction_15 : decode cX13_readInstruction 15 = .ok (.getfield 259, 3) := by decide +kernel
theorem dX13_readInstruction_18 : decode cX13_readInstruction 18 = .ok (.iconst 0, 1) := by decide +kernel
theorem dX13_readInstruction_19 : decode cX13_readInstruction 19 = .ok (.iastore, 1) := by decide +kernel
theorem dX13_readInstruction_20 : decode cX13_readInstruction 20 = .ok (.aload_n 0, 1) := by decide +kernel
theorem dX13_readInstruction_21 : decode cX13_readInstruction 21 = .ok (.aload_n 0, 1) := by decide +kernel
theorem dX13_readInstruction_22 : decode cX13_readInstruction 22 = .ok (.getfield 59, 3) := by decide +kernel
theorem dX13_readInstruction_25 : decode cX13_readInstruction 25 = .ok (.invokevirtual 266, 3) := by decide +kernel
theorem dX13_readInstruction_28 : decode cX13_readInstruction 28 = .ok (.iconst (-1), 1) := by decide +kernel
theorem dX13_readInstruction_29 : decode cX13_readInstruction 29 = .ok (.if_icmp .ne 7, 3) := by decide +kernel
theorem dX13_readInstruction_32 : decode cX13_readInstruction 32 = .ok (.aload_n 0, 1) := by decide +kernel
theorem dX13_readInstruction_33 : decode cX13_readInstruction 33 = .ok (.invokevirtual 317, 3) := by decide +kernel
theorem dX13_readInstruction_36 : decode cX13_readInstruction 36 = .ok (.aload_n 0, 1) := by decide +kernel
theorem dX13_readInstruction_37 : decode cX13_readInstruction 37 = .ok (.aload_n 0, 1) := by decide +kernel
theorem dX13_readInstruction_38 : decode cX13_readInstruction 38 = .ok (.getfield 59, 3) := by decide +kernel
theorem dX13_readInstruction_41 : decode cX13_readInstruction 41 = .ok (.invokevirtual 266, 3) := by decide +kernel
theorem dX13_readInstruction_44 : decode cX13_readInstruction 44 = .ok (.istore_n 1, 1) := by decide +kernel
theorem dX13_readInstruction_45 : decode cX13_readInstruction 45 = .ok (.aload_n 0, 1) := by decide +kernel
theorem dX13_readInstruction_46 : decode cX13_readInstruction 46 = .ok (.getfield 231, 3) := by decide +kernel
theorem dX13_readInstruction_49 : decode cX13_readInstruction 49 = .ok (.ifCond .ne 13, 3) := by decide +kernel
theorem dX13_readInstruction_52 : decode cX13_readInstruction 52 = .ok (.iload_n 1, 1) := by decide +kernel
theorem dX13_readInstruction_53 : decode cX13_readInstruction 53 = .ok (.iconst (-1), 1) := by decide +kernel
theorem dX13_readInstruction_54 : decode cX13_readInstruction 54 = .ok (.if_icmp .ne 8, 3) := by decide +kernel
theorem dX13_readInstruction_57 : decode cX13_readInstruction 57 = .ok (.aload_n 0, 1) := by decide +kernel
theorem dX13_readInstruction_58 : decode cX13_readInstruction 58 = .ok (.iconst 1, 1) := by decide +kernel
theorem dX13_readInstruction_59 : decode cX13_readInstruction 59 = .ok (.invokevirtual 255, 3) := by decide +kernel
theorem dX13_readInstruction_62 : decode cX13_readInstruction 62 = .ok (.aload_n 0, 1) := by decide +kernel
theorem dX13_readInstruction_63 : decode cX13_readInstruction 63 = .ok (.getfield 231, 3) := by decide +kernel
theorem dX13_readInstruction_66 : decode cX13_readInstruction 66 = .ok (.ifCond .ne 17, 3) := by decide +kernel
theorem dX13_readInstruction_69 : decode cX13_readInstruction 69 = .ok (.aload_n 0, 1) := by decide +kernel
theorem dX13_readInstruction_70 : decode cX13_readInstruction 70 = .ok (.getfield 259, 3) := by decide +kernel
theorem dX13_readInstruction_73 : decode cX13_readInstruction 73 = .ok (.bipush 60, 2) := by decide +kernel
theorem dX13_readInstruction_75 : decode cX13_readInstruction 75 = .ok (.if_icmp .ne 8, 3) := by decide +kernel
theorem dX13_readInstruction_78 : decode cX13_readInstruction 78 = .ok (.aload_n 0, 1) := by decide +kernel
theorem dX13_readInstruction_79 : decode cX13_readInstruction 79 = .ok (.iconst 2, 1) := by decide +kernel
theorem dX13_readInstruction_80 : decode cX13_readInstruction 80 = .ok (.invokevirtual 255, 3) := by decide +kernel
theorem dX13_readInstruction_83 : decode cX13_readInstruction 83 = .ok (.aload_n 0, 1) := by decide +kernel
theorem dX13_readInstruction_84 : decode cX13_readInstruction 84 = .ok (.getfield 231, 3) := by decide +kernel
theorem dX13_readInstruction_87 : decode cX13_readInstruction 87 = .ok (.ifCond .eq 4, 3) := by decide +kernel
theorem dX13_readInstruction_90 : decode cX13_readInstruction 90 = .ok (.return_, 1) := by decide +kernel
theorem dX13_readInstruction_91 : decode cX13_readInstruction 91 = .ok (.aload_n 0, 1) := by decide +kernel
theorem dX13_readInstruction_92 : decode cX13_readInstruction 92 = .ok (.invokevirtual 252, 3) := by decide +kernel
theorem dX13_readInstruction_95 : decode cX13_readInstruction 95 = .ok (.aload_n 0, 1) := by decide +kernel
theorem dX13_readInstruction_96 : decode cX13_readInstruction 96 = .ok (.getfield 83, 3) := by decide +kernel
theorem dX13_readInstruction_99 : decode cX13_readInstruction 99 = .ok (.bipush 60, 2) := by decide +kernel
theorem dX13_readInstruction_101 : decode cX13_readInstruction 101 = .ok (.aload_n 0, 1) := by decide +kernel
theorem dX13_readInstruction_102 : decode cX13_readInstruction 102 = .ok (.getfield 259, 3) := by decide +kernel
theorem dX13_readInstruction_105 : decode cX13_readInstruction 105 = .ok (.iadd, 1) := by decide +kernel
theorem dX13_readInstruction_106 : decode cX13_readInstruction 106 = .ok (.iload_n 1, 1) := by decide +kernel
theorem dX13_readInstruction_107 : decode cX13_readInstruction 107 = .ok (.iastore, 1) := by decide +kernel
theorem dX13_readInstruction_108 : decode cX13_readInstruction 108 = .ok (.aload_n 0, 1) := by decide +kernel
theorem dX13_readInstruction_109 : decode cX13_readInstruction 109 = .ok (.iload_n 1, 1) := by decide +kernel
theorem dX13_readInstruction_110 : decode cX13_readInstruction 110 = .ok (.invokevirtual 320, 3) := by decide +kernel
theorem dX13_readInstruction_113 : decode cX13_readInstruction 113 = .ok (.aload_n 0, 1) := by decide +kernel
theorem dX13_readInstruction_114 : decode cX13_readInstruction 114 = .ok (.dup, 1) := by decide +kernel
theorem dX13_readInstruction_115 : decode cX13_readInstruction 115 = .ok (.getfield 259, 3) := by decide +kernel
theorem dX13_readInstruction_118 : decode cX13_readInstruction 118 = .ok (.iconst 1, 1) := by decide +kernel
theorem dX13_readInstruction_119 : decode cX13_readInstruction 119 = .ok (.iadd, 1) := by decide +kernel
theorem dX13_readInstruction_120 : decode cX13_readInstruction 120 = .ok (.putfield 259, 3) := by decide +kernel
theorem dX13_readInstruction_123 : decode cX13_readInstruction 123 = .ok (.return_, 1) := by decide +kernel
theorem dX13_readLine_0 : decode cX13_readLine 0 = .ok (.aload_n 0, 1) := by decide +kernel
theorem dX13_readLine_1 : decode cX13_readLine 1 = .ok (.getfield 209, 3) := by decide +kernel
theorem dX13_readLine_4 : decode cX13_readLine 4 = .ok (.iconst 1, 1) := by decide +kernel
theorem dX13_readLine_5 : decode cX13_readLine 5 = .ok (.if_icmp .eq 8, 3) := by decide +kernel
theorem dX13_readLine_8 : decode cX13_readLine 8 = .ok (.aload_n 0, 1) := by decide +kernel
theorem dX13_readLine_9 : decode cX13_readLine 9 = .ok (.iconst 1, 1) := by decide +kernel
theorem dX13_readLine_10 : decode cX13_readLine 10 = .ok (.invokevirtual 255, 3) := by decide +kernel
theorem dX13_readLine_13 : decode cX13_readLine 13 = .ok (.aload_n 0, 1) := by decide +kernel
theorem dX13_readLine_14 : decode cX13_readLine 14 = .ok (.ldc 65, 2) := by decide +kernel
theorem dX13_readLine_16 : decode cX13_readLine 16 = .ok (.invokevirtual 245, 3) := by decide +kernel
theorem dX13_readLine_19 : decode cX13_readLine 19 = .ok (.ifCond .eq 10, 3) := by decide +kernel
theorem dX13_readLine_22 : decode cX13_readLine 22 = .ok (.aload_n 0, 1) := by decide +kernel
theorem dX13_readLine_23 : decode cX13_readLine 23 = .ok (.invokevirtual 323, 3) := by decide +kernel
theorem dX13_readLine_26 : decode cX13_readLine 26 = .ok (.goto 14, 3) := by decide +kernel
theorem dX13_readLine_29 : decode cX13_readLine 29 = .ok (.aload_n 0, 1) := by decide +kernel
theorem dX13_readLine_30 : decode cX13_readLine 30 = .ok (.getfield 231, 3) := by decide +kernel
theorem dX13_readLine_33 : decode cX13_readLine 33 = .ok (.ifCond .ne 7, 3) := by decide +kernel
theorem dX13_readLine_36 : decode cX13_readLine 36 = .ok (.aload_n 0, 1) := by decide +kernel
theorem dX13_readLine_37 : decode cX13_readLine 37 = .ok (.invokevirtual 326, 3) := by decide +kernel
theorem dX13_readLine_40 : decode cX13_readLine 40 = .ok (.aload_n 0, 1) := by decide +kernel
theorem dX13_readLine_41 : decode cX13_readLine 41 = .ok (.bipush 59, 2) := by decide +kernel
theorem dX13_readLine_43 : decode cX13_readLine 43 = .ok (.invokevirtual 277, 3) := by decide +kernel
theorem dX13_readLine_46 : decode cX13_readLine 46 = .ok (.return_, 1) := by decide +kernel
theorem dX13_findNames_0 : decode cX13_findNames 0 = .ok (.iconst 0, 1) := by decide +kernel
theorem dX13_findNames_1 : decode cX13_findNames 1 = .ok (.istore_n 1, 1) := by decide +kernel
theorem dX13_findNames_2 : decode cX13_findNames 2 = .ok (.iload_n 1, 1) := by decide +kernel
theorem dX13_findNames_3 : decode cX13_findNames 3 = .ok (.aload_n 0, 1) := by decide +kernel
theorem dX13_findNames_4 : decode cX13_findNames 4 = .ok (.getfield 259, 3) := by decide +kernel
theorem dX13_findNames_7 : decode cX13_findNames 7 = .ok (.if_icmp .ge 94, 3) := by decide +kernel
theorem dX13_findNames_10 : decode cX13_findNames 10 = .ok (.aload_n 0, 1) := by decide +kernel
theorem dX13_findNames_11 : decode cX13_findNames 11 = .ok (.getfield 231, 3) := by decide +kernel
theorem dX13_findNames_14 : decode cX13_findNames 14 = .ok (.ifCond .ne 87, 3) := by decide +kernel
theorem dX13_findNames_17 : decode cX13_findNames 17 = .ok (.aload_n 0, 1) := by decide +kernel
theorem dX13_findNames_18 : decode cX13_findNames 18 = .ok (.getfield 101, 3) := by decide +kernel
theorem dX13_findNames_21 : decode cX13_findNames 21 = .ok (.bipush 60, 2) := by decide +kernel
theorem dX13_findNames_23 : decode cX13_findNames 23 = .ok (.iload_n 1, 1) := by decide +kernel
theorem dX13_findNames_24 : decode cX13_findNames 24 = .ok (.iadd, 1) := by decide +kernel
theorem dX13_findNames_25 : decode cX13_findNames 25 = .ok (.iconst (-1), 1) := by decide +kernel
theorem dX13_findNames_26 : decode cX13_findNames 26 = .ok (.iastore, 1) := by decide +kernel
theorem dX13_findNames_27 : decode cX13_findNames 27 = .ok (.aload_n 0, 1) := by decide +kernel
theorem dX13_findNames_28 : decode cX13_findNames 28 = .ok (.getfield 123, 3) := by decide +kernel
theorem dX13_findNames_31 : decode cX13_findNames 31 = .ok (.iload_n 1, 1) := by decide +kernel
theorem dX13_findNames_32 : decode cX13_findNames 32 = .ok (.iaload, 1) := by decide +kernel
theorem dX13_findNames_33 : decode cX13_findNames 33 = .ok (.ifCond .ne 6, 3) := by decide +kernel
theorem dX13_findNames_36 : decode cX13_findNames 36 = .ok (.goto 59, 3) := by decide +kernel
theorem dX13_findNames_39 : decode cX13_findNames 39 = .ok (.aload_n 0, 1) := by decide +kernel
theorem dX13_findNames_40 : decode cX13_findNames 40 = .ok (.getfield 101, 3) := by decide +kernel
theorem dX13_findNames_43 : decode cX13_findNames 43 = .ok (.bipush 60, 2) := by decide +kernel
theorem dX13_findNames_45 : decode cX13_findNames 45 = .ok (.iload_n 1, 1) := by decide +kernel
theorem dX13_findNames_46 : decode cX13_findNames 46 = .ok (.iadd, 1) := by decide +kernel
theorem dX13_findNames_47 : decode cX13_findNames 47 = .ok (.aload_n 0, 1) := by decide +kernel
theorem dX13_findNames_48 : decode cX13_findNames 48 = .ok (.aload_n 0, 1) := by decide +kernel
theorem dX13_findNames_49 : decode cX13_findNames 49 = .ok (.getfield 120, 3) := by decide +kernel
theorem dX13_findNames_52 : decode cX13_findNames 52 = .ok (.iload_n 1, 1) := by decide +kernel
theorem dX13_findNames_53 : decode cX13_findNames 53 = .ok (.iaload, 1) := by decide +kernel
theorem dX13_findNames_54 : decode cX13_findNames 54 = .ok (.aload_n 0, 1) := by decide +kernel
theorem dX13_findNames_55 : decode cX13_findNames 55 = .ok (.getfield 123, 3) := by decide +kernel
theorem dX13_findNames_58 : decode cX13_findNames 58 = .ok (.iload_n 1, 1) := by decide +kernel
theorem dX13_findNames_59 : decode cX13_findNames 59 = .ok (.iaload, 1) := by decide +kernel
theorem dX13_findNames_60 : decode cX13_findNames 60 = .ok (.invokevirtual 274, 3) := by decide +kernel
theorem dX13_findNames_63 : decode cX13_findNames 63 = .ok (.iastore, 1) := by decide +kernel
theorem dX13_findNames_64 : decode cX13_findNames 64 = .ok (.aload_n 0, 1) := by decide +kernel
theorem dX13_findNames_65 : decode cX13_findNames 65 = .ok (.getfield 101, 3) := by decide +kernel
theorem dX13_findNames_68 : decode cX13_findNames 68 = .ok (.bipush 60, 2) := by decide +kernel
theorem dX13_findNames_70 : decode cX13_findNames 70 = .ok (.iload_n 1, 1) := by decide +kernel
theorem dX13_findNames_71 : decode cX13_findNames 71 = .ok (.iadd, 1) := by decide +kernel
theorem dX13_findNames_72 : decode cX13_findNames 72 = .ok (.iaload, 1) := by decide +kernel
theorem dX13_findNames_73 : decode cX13_findNames 73 = .ok (.iconst (-1), 1) := by decide +kernel
theorem dX13_findNames_74 : decode cX13_findNames 74 = .ok (.if_icmp .eq 6, 3) := by decide +kernel
theorem dX13_findNames_77 : decode cX13_findNames 77 = .ok (.goto 18, 3) := by decide +kernel
theorem dX13_findNames_80 : decode cX13_findNames 80 = .ok (.aload_n 0, 1) := by decide +kernel
theorem dX13_findNames_81 : decode cX13_findNames 81 = .ok (.iconst 3, 1) := by decide +kernel
theorem dX13_findNames_82 : decode cX13_findNames 82 = .ok (.putfield 231, 3) := by decide +kernel
theorem dX13_findNames_85 : decode cX13_findNames 85 = .ok (.aload_n 0, 1) := by decide +kernel
theorem dX13_findNames_86 : decode cX13_findNames 86 = .ok (.aload_n 0, 1) := by decide +kernel
theorem dX13_findNames_87 : decode cX13_findNames 87 = .ok (.getfield 120, 3) := by decide +kernel
theorem dX13_findNames_90 : decode cX13_findNames 90 = .ok (.iload_n 1, 1) := by decide +kernel
theorem dX13_findNames_91 : decode cX13_findNames 91 = .ok (.iaload, 1) := by decide +kernel
theorem dX13_findNames_92 : decode cX13_findNames 92 = .ok (.putfield 234, 3) := by decide +kernel
theorem dX13_findNames_95 : decode cX13_findNames 95 = .ok (.iinc 1 1, 3) := by decide +kernel
theorem dX13_findNames_98 : decode cX13_findNames 98 = .ok (.goto (-96), 3) := by decide +kernel
theorem dX13_findNames_101 : decode cX13_findNames 101 = .ok (.return_, 1) := by decide +kernel
theorem dX13_program_0 : decode cX13_program 0 = .ok (.aload_n 0, 1) := by decide +kernel
theorem dX13_program_1 : decode cX13_program 1 = .ok (.iconst 0, 1) := by decide +kernel
theorem dX13_program_2 : decode cX13_program 2 = .ok (.putfield 187, 3) := by decide +kernel
theorem dX13_program_5 : decode cX13_program 5 = .ok (.iload_n 1, 1) := by decide +kernel
theorem dX13_program_6 : decode cX13_program 6 = .ok (.ifCond .lt 11, 3) := by decide +kernel
theorem dX13_program_9 : decode cX13_program 9 = .ok (.iload_n 1, 1) := by decide +kernel
theorem dX13_program_10 : decode cX13_program 10 = .ok (.aload_n 0, 1) := by decide +kernel
theorem dX13_program_11 : decode cX13_program 11 = .ok (.getfield 190, 3) := by decide +kernel
theorem dX13_program_14 : decode cX13_program 14 = .ok (.if_icmp .le 9, 3) := by decide +kernel
theorem dX13_program_17 : decode cX13_program 17 = .ok (.aload_n 0, 1) := by decide +kernel
theorem dX13_program_18 : decode cX13_program 18 = .ok (.iconst 1, 1) := by decide +kernel
theorem dX13_program_19 : decode cX13_program 19 = .ok (.invokevirtual 329, 3) := by decide +kernel
theorem dX13_program_22 : decode cX13_program 22 = .ok (.ireturn, 1) := by decide +kernel
theorem dX13_program_23 : decode cX13_program 23 = .ok (.aload_n 0, 1) := by decide +kernel
theorem dX13_program_24 : decode cX13_program 24 = .ok (.iconst 0, 1) := by decide +kernel
theorem dX13_program_25 : decode cX13_program 25 = .ok (.putfield 190, 3) := by decide +kernel
theorem dX13_program_28 : decode cX13_program 28 = .ok (.aload_n 0, 1) := by decide +kernel
theorem dX13_program_29 : decode cX13_program 29 = .ok (.iload_n 1, 1) := by decide +kernel
theorem dX13_program_30 : decode cX13_program 30 = .ok (.putfield 193, 3) := by decide +kernel
theorem dX13_program_33 : decode cX13_program 33 = .ok (.aload_n 0, 1) := by decide +kernel
theorem dX13_program_34 : decode cX13_program 34 = .ok (.iconst 0, 1) := by decide +kernel
theorem dX13_program_35 : decode cX13_program 35 = .ok (.putfield 200, 3) := by decide +kernel
theorem dX13_program_38 : decode cX13_program 38 = .ok (.aload_n 0, 1) := by decide +kernel
theorem dX13_program_39 : decode cX13_program 39 = .ok (.iconst 0, 1) := by decide +kernel
theorem dX13_program_40 : decode cX13_program 40 = .ok (.putfield 231, 3) := by decide +kernel
theorem dX13_program_43 : decode cX13_program 43 = .ok (.aload_n 0, 1) := by decide +kernel
theorem dX13_program_44 : decode cX13_program 44 = .ok (.iconst (-1), 1) := by decide +kernel
theorem dX13_program_45 : decode cX13_program 45 = .ok (.putfield 110, 3) := by decide +kernel
theorem dX13_program_48 : decode cX13_program 48 = .ok (.aload_n 0, 1) := by decide +kernel
theorem dX13_program_49 : decode cX13_program 49 = .ok (.iconst 0, 1) := by decide +kernel
theorem dX13_program_50 : decode cX13_program 50 = .ok (.putfield 259, 3) := by decide +kernel
theorem dX13_program_53 : decode cX13_program 53 = .ok (.iconst 0, 1) := by decide +kernel
theorem dX13_program_54 : decode cX13_program 54 = .ok (.istore_n 2, 1) := by decide +kernel
theorem dX13_program_55 : decode cX13_program 55 = .ok (.iload_n 2, 1) := by decide +kernel
theorem dX13_program_56 : decode cX13_program 56 = .ok (.sipush 256, 3) := by decide +kernel
theorem dX13_program_59 : decode cX13_program 59 = .ok (.if_icmp .ge 20, 3) := by decide +kernel
theorem dX13_program_62 : decode cX13_program 62 = .ok (.aload_n 0, 1) := by decide +kernel
theorem dX13_program_63 : decode cX13_program 63 = .ok (.getfield 104, 3) := by decide +kernel
theorem dX13_program_66 : decode cX13_program 66 = .ok (.sipush 256, 3) := by decide +kernel
theorem dX13_program_69 : decode cX13_program 69 = .ok (.iload_n 2, 1) := by decide +kernel
theorem dX13_program_70 : decode cX13_program 70 = .ok (.iadd, 1) := by decide +kernel
theorem dX13_program_71 : decode cX13_program 71 = .ok (.iconst 0, 1) := by decide +kernel
theorem dX13_program_72 : decode cX13_program 72 = .ok (.iastore, 1) := by decide +kernel
theorem dX13_program_73 : decode cX13_program 73 = .ok (.iinc 2 1, 3) := by decide +kernel
theorem dX13_program_76 : decode cX13_program 76 = .ok (.goto (-21), 3) := by decide +kernel
theorem dX13_program_79 : decode cX13_program 79 = .ok (.aload_n 0, 1) := by decide +kernel
theorem dX13_program_80 : decode cX13_program 80 = .ok (.invokevirtual 252, 3) := by decide +kernel
theorem dX13_program_83 : decode cX13_program 83 = .ok (.aload_n 0, 1) := by decide +kernel
theorem dX13_program_84 : decode cX13_program 84 = .ok (.getfield 231, 3) := by decide +kernel
theorem dX13_program_87 : decode cX13_program 87 = .ok (.ifCond .ne 17, 3) := by decide +kernel
theorem dX13_program_90 : decode cX13_program 90 = .ok (.aload_n 0, 1) := by decide +kernel
theorem dX13_program_91 : decode cX13_program 91 = .ok (.getfield 209, 3) := by decide +kernel
theorem dX13_program_94 : decode cX13_program 94 = .ok (.ifCond .eq 10, 3) := by decide +kernel
theorem dX13_program_97 : decode cX13_program 97 = .ok (.aload_n 0, 1) := by decide +kernel
theorem dX13_program_98 : decode cX13_program 98 = .ok (.invokevirtual 332, 3) := by decide +kernel
theorem dX13_program_101 : decode cX13_program 101 = .ok (.goto (-18), 3) := by decide +kernel
theorem dX13_program_104 : decode cX13_program 104 = .ok (.aload_n 0, 1) := by decide +kernel
theorem dX13_program_105 : decode cX13_program 105 = .ok (.invokevirtual 335, 3) := by decide +kernel
theorem dX13_program_108 : decode cX13_program 108 = .ok (.aload_n 0, 1) := by decide +kernel
theorem dX13_program_109 : decode cX13_program 109 = .ok (.getfield 231, 3) := by decide +kernel
theorem dX13_program_112 : decode cX13_program 112 = .ok (.ifCond .eq 26, 3) := by decide +kernel
theorem dX13_program_115 : decode cX13_program 115 = .ok (.aload_n 0, 1) := by decide +kernel
theorem dX13_program_116 : decode cX13_program 116 = .ok (.aload_n 0, 1) := by decide +kernel
theorem dX13_program_117 : decode cX13_program 117 = .ok (.getfield 234, 3) := by decide +kernel
theorem dX13_program_120 : decode cX13_program 120 = .ok (.putfield 110, 3) := by decide +kernel
theorem dX13_program_123 : decode cX13_program 123 = .ok (.aload_n 0, 1) := by decide +kernel
theorem dX13_program_124 : decode cX13_program 124 = .ok (.getfield 80, 3) := by decide +kernel
theorem dX13_program_127 : decode cX13_program 127 = .ok (.iconst 0, 1) := by decide +kernel
theorem dX13_program_128 : decode cX13_program 128 = .ok (.dup2, 1) := by decide +kernel
theorem dX13_program_129 : decode cX13_program 129 = .ok (.iaload, 1) := by decide +kernel
theorem dX13_program_130 : decode cX13_program 130 = .ok (.iconst 1, 1) := by decide +kernel
theorem dX13_program_131 : decode cX13_program 131 = .ok (.iadd, 1) := by decide +kernel
theorem dX13_program_132 : decode cX13_program 132 = .ok (.iastore, 1) := by decide +kernel
theorem dX13_program_133 : decode cX13_program 133 = .ok (.aload_n 0, 1) := by decide +kernel
theorem dX13_program_134 : decode cX13_program 134 = .ok (.getfield 231, 3) := by decide +kernel
theorem dX13_program_137 : decode cX13_program 137 = .ok (.ireturn, 1) := by decide +kernel
theorem dX13_program_138 : decode cX13_program 138 = .ok (.aload_n 0, 1) := by decide +kernel
theorem dX13_program_139 : decode cX13_program 139 = .ok (.invokevirtual 338, 3) := by decide +kernel
theorem dX13_program_142 : decode cX13_program 142 = .ok (.iconst 0, 1) := by decide +kernel
theorem dX13_program_143 : decode cX13_program 143 = .ok (.ireturn, 1) := by decide +kernel
theorem dX13_takeHalf_0 : decode cX13_takeHalf 0 = .ok (.iconst 0, 1) := by decide +kernel
theorem dX13_takeHalf_1 : decode cX13_takeHalf 1 = .ok (.istore_n 1, 1) := by decide +kernel
theorem dX13_takeHalf_2 : decode cX13_takeHalf 2 = .ok (.iload_n 1, 1) := by decide +kernel
theorem dX13_takeHalf_3 : decode cX13_takeHalf 3 = .ok (.aload_n 0, 1) := by decide +kernel
theorem dX13_takeHalf_4 : decode cX13_takeHalf 4 = .ok (.arraylength, 1) := by decide +kernel
theorem dX13_takeHalf_5 : decode cX13_takeHalf 5 = .ok (.iconst 2, 1) := by decide +kernel
theorem dX13_takeHalf_6 : decode cX13_takeHalf 6 = .ok (.idiv, 1) := by decide +kernel
theorem dX13_takeHalf_7 : decode cX13_takeHalf 7 = .ok (.if_icmp .ge 20, 3) := by decide +kernel
theorem dX13_takeHalf_10 : decode cX13_takeHalf 10 = .ok (.aload_n 0, 1) := by decide +kernel
theorem dX13_takeHalf_11 : decode cX13_takeHalf 11 = .ok (.iload_n 1, 1) := by decide +kernel
theorem dX13_takeHalf_12 : decode cX13_takeHalf 12 = .ok (.aload_n 0, 1) := by decide +kernel
theorem dX13_takeHalf_13 : decode cX13_takeHalf 13 = .ok (.aload_n 0, 1) := by decide +kernel
theorem dX13_takeHalf_14 : decode cX13_takeHalf 14 = .ok (.arraylength, 1) := by decide +kernel
theorem dX13_takeHalf_15 : decode cX13_takeHalf 15 = .ok (.iconst 2, 1) := by decide +kernel
theorem dX13_takeHalf_16 : decode cX13_takeHalf 16 = .ok (.idiv, 1) := by decide +kernel
theorem dX13_takeHalf_17 : decode cX13_takeHalf 17 = .ok (.iload_n 1, 1) := by decide +kernel
theorem dX13_takeHalf_18 : decode cX13_takeHalf 18 = .ok (.iadd, 1) := by decide +kernel
theorem dX13_takeHalf_19 : decode cX13_takeHalf 19 = .ok (.iaload, 1) := by decide +kernel
theorem dX13_takeHalf_20 : decode cX13_takeHalf 20 = .ok (.iastore, 1) := by decide +kernel
theorem dX13_takeHalf_21 : decode cX13_takeHalf 21 = .ok (.iinc 1 1, 3) := by decide +kernel
theorem dX13_takeHalf_24 : decode cX13_takeHalf 24 = .ok (.goto (-22), 3) := by decide +kernel
theorem dX13_takeHalf_27 : decode cX13_takeHalf 27 = .ok (.return_, 1) := by decide +kernel
theorem dX13_takeOver_0 : decode cX13_takeOver 0 = .ok (.aload_n 0, 1) := by decide +kernel
theorem dX13_takeOver_1 : decode cX13_takeOver 1 = .ok (.getfield 83, 3) := by decide +kernel
theorem dX13_takeOver_4 : decode cX13_takeOver 4 = .ok (.invokestatic 341, 3) := by decide +kernel
theorem dX13_takeOver_7 : decode cX13_takeOver 7 = .ok (.aload_n 0, 1) := by decide +kernel
theorem dX13_takeOver_8 : decode cX13_takeOver 8 = .ok (.getfield 86, 3) := by decide +kernel
theorem dX13_takeOver_11 : decode cX13_takeOver 11 = .ok (.invokestatic 341, 3) := by decide +kernel
theorem dX13_takeOver_14 : decode cX13_takeOver 14 = .ok (.aload_n 0, 1) := by decide +kernel
theorem dX13_takeOver_15 : decode cX13_takeOver 15 = .ok (.getfield 89, 3) := by decide +kernel
theorem dX13_takeOver_18 : decode cX13_takeOver 18 = .ok (.invokestatic 341, 3) := by decide +kernel
theorem dX13_takeOver_21 : decode cX13_takeOver 21 = .ok (.aload_n 0, 1) := by decide +kernel
theorem dX13_takeOver_22 : decode cX13_takeOver 22 = .ok (.getfield 92, 3) := by decide +kernel
theorem dX13_takeOver_25 : decode cX13_takeOver 25 = .ok (.invokestatic 341, 3) := by decide +kernel
theorem dX13_takeOver_28 : decode cX13_takeOver 28 = .ok (.aload_n 0, 1) := by decide +kernel
theorem dX13_takeOver_29 : decode cX13_takeOver 29 = .ok (.getfield 95, 3) := by decide +kernel
theorem dX13_takeOver_32 : decode cX13_takeOver 32 = .ok (.invokestatic 341, 3) := by decide +kernel
theorem dX13_takeOver_35 : decode cX13_takeOver 35 = .ok (.aload_n 0, 1) := by decide +kernel
theorem dX13_takeOver_36 : decode cX13_takeOver 36 = .ok (.getfield 98, 3) := by decide +kernel
theorem dX13_takeOver_39 : decode cX13_takeOver 39 = .ok (.invokestatic 341, 3) := by decide +kernel
theorem dX13_takeOver_42 : decode cX13_takeOver 42 = .ok (.aload_n 0, 1) := by decide +kernel
theorem dX13_takeOver_43 : decode cX13_takeOver 43 = .ok (.getfield 101, 3) := by decide +kernel
theorem dX13_takeOver_46 : decode cX13_takeOver 46 = .ok (.invokestatic 341, 3) := by decide +kernel
theorem dX13_takeOver_49 : decode cX13_takeOver 49 = .ok (.aload_n 0, 1) := by decide +kernel
theorem dX13_takeOver_50 : decode cX13_takeOver 50 = .ok (.getfield 104, 3) := by decide +kernel
theorem dX13_takeOver_53 : decode cX13_takeOver 53 = .ok (.invokestatic 341, 3) := by decide +kernel
theorem dX13_takeOver_56 : decode cX13_takeOver 56 = .ok (.aload_n 0, 1) := by decide +kernel
theorem dX13_takeOver_57 : decode cX13_takeOver 57 = .ok (.aload_n 0, 1) := by decide +kernel
theorem dX13_takeOver_58 : decode cX13_takeOver 58 = .ok (.getfield 259, 3) := by decide +kernel
theorem dX13_takeOver_61 : decode cX13_takeOver 61 = .ok (.putfield 345, 3) := by decide +kernel
theorem dX13_takeOver_64 : decode cX13_takeOver 64 = .ok (.iconst 0, 1) := by decide +kernel
theorem dX13_takeOver_65 : decode cX13_takeOver 65 = .ok (.istore_n 1, 1) := by decide +kernel
theorem dX13_takeOver_66 : decode cX13_takeOver 66 = .ok (.iload_n 1, 1) := by decide +kernel
theorem dX13_takeOver_67 : decode cX13_takeOver 67 = .ok (.sipush 414, 3) := by decide +kernel
theorem dX13_takeOver_70 : decode cX13_takeOver 70 = .ok (.if_icmp .ge 16, 3) := by decide +kernel
theorem dX13_takeOver_73 : decode cX13_takeOver 73 = .ok (.aload_n 0, 1) := by decide +kernel
theorem dX13_takeOver_74 : decode cX13_takeOver 74 = .ok (.getfield 76, 3) := by decide +kernel
theorem dX13_takeOver_77 : decode cX13_takeOver 77 = .ok (.iload_n 1, 1) := by decide +kernel
theorem dX13_takeOver_78 : decode cX13_takeOver 78 = .ok (.iconst 0, 1) := by decide +kernel
theorem dX13_takeOver_79 : decode cX13_takeOver 79 = .ok (.iastore, 1) := by decide +kernel
theorem dX13_takeOver_80 : decode cX13_takeOver 80 = .ok (.iinc 1 1, 3) := by decide +kernel
theorem dX13_takeOver_83 : decode cX13_takeOver 83 = .ok (.goto (-17), 3) := by decide +kernel
theorem dX13_takeOver_86 : decode cX13_takeOver 86 = .ok (.aload_n 0, 1) := by decide +kernel
theorem dX13_takeOver_87 : decode cX13_takeOver 87 = .ok (.invokevirtual 184, 3) := by decide +kernel
theorem dX13_takeOver_90 : decode cX13_takeOver 90 = .ok (.aload_n 0, 1) := by decide +kernel
theorem dX13_takeOver_91 : decode cX13_takeOver 91 = .ok (.iconst 0, 1) := by decide +kernel
theorem dX13_takeOver_92 : decode cX13_takeOver 92 = .ok (.putfield 348, 3) := by decide +kernel
theorem dX13_takeOver_95 : decode cX13_takeOver 95 = .ok (.aload_n 0, 1) := by decide +kernel
theorem dX13_takeOver_96 : decode cX13_takeOver 96 = .ok (.iconst 0, 1) := by decide +kernel
theorem dX13_takeOver_97 : decode cX13_takeOver 97 = .ok (.putfield 351, 3) := by decide +kernel
theorem dX13_takeOver_100 : decode cX13_takeOver 100 = .ok (.aload_n 0, 1) := by decide +kernel
theorem dX13_takeOver_101 : decode cX13_takeOver 101 = .ok (.iconst 0, 1) := by decide +kernel
theorem dX13_takeOver_102 : decode cX13_takeOver 102 = .ok (.putfield 354, 3) := by decide +kernel
theorem dX13_takeOver_105 : decode cX13_takeOver 105 = .ok (.return_, 1) := by decide +kernel
theorem dX13_beginNow_0 : decode cX13_beginNow 0 = .ok (.iconst 0, 1) := by decide +kernel
theorem dX13_beginNow_1 : decode cX13_beginNow 1 = .ok (.istore_n 1, 1) := by decide +kernel
theorem dX13_beginNow_2 : decode cX13_beginNow 2 = .ok (.iload_n 1, 1) := by decide +kernel
theorem dX13_beginNow_3 : decode cX13_beginNow 3 = .ok (.sipush 277, 3) := by decide +kernel
theorem dX13_beginNow_6 : decode cX13_beginNow 6 = .ok (.if_icmp .ge 32, 3) := by decide +kernel
theorem dX13_beginNow_9 : decode cX13_beginNow 9 = .ok (.aload_n 0, 1) := by decide +kernel
theorem dX13_beginNow_10 : decode cX13_beginNow 10 = .ok (.getfield 76, 3) := by decide +kernel
theorem dX13_beginNow_13 : decode cX13_beginNow 13 = .ok (.iload_n 1, 1) := by decide +kernel
theorem dX13_beginNow_14 : decode cX13_beginNow 14 = .ok (.iload_n 1, 1) := by decide +kernel
theorem dX13_beginNow_15 : decode cX13_beginNow 15 = .ok (.sipush 256, 3) := by decide +kernel
theorem dX13_beginNow_18 : decode cX13_beginNow 18 = .ok (.if_icmp .ge 12, 3) := by decide +kernel
theorem dX13_beginNow_21 : decode cX13_beginNow 21 = .ok (.aload_n 0, 1) := by decide +kernel
theorem dX13_beginNow_22 : decode cX13_beginNow 22 = .ok (.getfield 104, 3) := by decide +kernel
theorem dX13_beginNow_25 : decode cX13_beginNow 25 = .ok (.iload_n 1, 1) := by decide +kernel
theorem dX13_beginNow_26 : decode cX13_beginNow 26 = .ok (.iaload, 1) := by decide +kernel
theorem dX13_beginNow_27 : decode cX13_beginNow 27 = .ok (.goto 4, 3) := by decide +kernel
theorem dX13_beginNow_30 : decode cX13_beginNow 30 = .ok (.iconst 0, 1) := by decide +kernel
theorem dX13_beginNow_31 : decode cX13_beginNow 31 = .ok (.iastore, 1) := by decide +kernel
theorem dX13_beginNow_32 : decode cX13_beginNow 32 = .ok (.iinc 1 1, 3) := by decide +kernel
theorem dX13_beginNow_35 : decode cX13_beginNow 35 = .ok (.goto (-33), 3) := by decide +kernel
theorem dX13_beginNow_38 : decode cX13_beginNow 38 = .ok (.aload_n 0, 1) := by decide +kernel
theorem dX13_beginNow_39 : decode cX13_beginNow 39 = .ok (.getfield 76, 3) := by decide +kernel
theorem dX13_beginNow_42 : decode cX13_beginNow 42 = .ok (.sipush 266, 3) := by decide +kernel
theorem dX13_beginNow_45 : decode cX13_beginNow 45 = .ok (.iconst (-1), 1) := by decide +kernel
theorem dX13_beginNow_46 : decode cX13_beginNow 46 = .ok (.iastore, 1) := by decide +kernel
theorem dX13_beginNow_47 : decode cX13_beginNow 47 = .ok (.iconst 0, 1) := by decide +kernel
theorem dX13_beginNow_48 : decode cX13_beginNow 48 = .ok (.istore_n 1, 1) := by decide +kernel
theorem dX13_beginNow_49 : decode cX13_beginNow 49 = .ok (.iload_n 1, 1) := by decide +kernel
theorem dX13_beginNow_50 : decode cX13_beginNow 50 = .ok (.bipush 8, 2) := by decide +kernel
theorem dX13_beginNow_52 : decode cX13_beginNow 52 = .ok (.if_icmp .gt 20, 3) := by decide +kernel
theorem dX13_beginNow_55 : decode cX13_beginNow 55 = .ok (.aload_n 0, 1) := by decide +kernel
theorem dX13_beginNow_56 : decode cX13_beginNow 56 = .ok (.getfield 76, 3) := by decide +kernel
theorem dX13_beginNow_59 : decode cX13_beginNow 59 = .ok (.sipush 267, 3) := by decide +kernel
theorem dX13_beginNow_62 : decode cX13_beginNow 62 = .ok (.iload_n 1, 1) := by decide +kernel
theorem dX13_beginNow_63 : decode cX13_beginNow 63 = .ok (.iadd, 1) := by decide +kernel
theorem dX13_beginNow_64 : decode cX13_beginNow 64 = .ok (.iconst (-1), 1) := by decide +kernel
theorem dX13_beginNow_65 : decode cX13_beginNow 65 = .ok (.iastore, 1) := by decide +kernel
theorem dX13_beginNow_66 : decode cX13_beginNow 66 = .ok (.iinc 1 1, 3) := by decide +kernel
theorem dX13_beginNow_69 : decode cX13_beginNow 69 = .ok (.goto (-20), 3) := by decide +kernel
theorem dX13_beginNow_72 : decode cX13_beginNow 72 = .ok (.aload_n 0, 1) := by decide +kernel
theorem dX13_beginNow_73 : decode cX13_beginNow 73 = .ok (.getfield 76, 3) := by decide +kernel
theorem dX13_beginNow_76 : decode cX13_beginNow 76 = .ok (.sipush 276, 3) := by decide +kernel
theorem dX13_beginNow_79 : decode cX13_beginNow 79 = .ok (.aload_n 0, 1) := by decide +kernel
theorem dX13_beginNow_80 : decode cX13_beginNow 80 = .ok (.getfield 345, 3) := by decide +kernel
theorem dX13_beginNow_83 : decode cX13_beginNow 83 = .ok (.ifCond .ne 7, 3) := by decide +kernel
theorem dX13_beginNow_86 : decode cX13_beginNow 86 = .ok (.iconst 1, 1) := by decide +kernel
theorem dX13_beginNow_87 : decode cX13_beginNow 87 = .ok (.goto 4, 3) := by decide +kernel
theorem dX13_beginNow_90 : decode cX13_beginNow 90 = .ok (.iconst 0, 1) := by decide +kernel
theorem dX13_beginNow_91 : decode cX13_beginNow 91 = .ok (.iastore, 1) := by decide +kernel
theorem dX13_beginNow_92 : decode cX13_beginNow 92 = .ok (.return_, 1) := by decide +kernel
theorem dX13_fault_0 : decode cX13_fault 0 = .ok (.aload_n 0, 1) := by decide +kernel
theorem dX13_fault_1 : decode cX13_fault 1 = .ok (.iconst 0, 1) := by decide +kernel
theorem dX13_fault_2 : decode cX13_fault 2 = .ok (.putfield 187, 3) := by decide +kernel
theorem dX13_fault_5 : decode cX13_fault 5 = .ok (.aload_n 0, 1) := by decide +kernel
theorem dX13_fault_6 : decode cX13_fault 6 = .ok (.getfield 110, 3) := by decide +kernel
theorem dX13_fault_9 : decode cX13_fault 9 = .ok (.ireturn, 1) := by decide +kernel
theorem dX13_powerOf_0 : decode cX13_powerOf 0 = .ok (.lconst 1, 1) := by decide +kernel
theorem dX13_powerOf_1 : decode cX13_powerOf 1 = .ok (.lstore_n 1, 1) := by decide +kernel
theorem dX13_powerOf_2 : decode cX13_powerOf 2 = .ok (.iconst 0, 1) := by decide +kernel
theorem dX13_powerOf_3 : decode cX13_powerOf 3 = .ok (.istore_n 3, 1) := by decide +kernel
theorem dX13_powerOf_4 : decode cX13_powerOf 4 = .ok (.iload_n 3, 1) := by decide +kernel
theorem dX13_powerOf_5 : decode cX13_powerOf 5 = .ok (.iload_n 0, 1) := by decide +kernel
theorem dX13_powerOf_6 : decode cX13_powerOf 6 = .ok (.if_icmp .ge 15, 3) := by decide +kernel
theorem dX13_powerOf_9 : decode cX13_powerOf 9 = .ok (.lload_n 1, 1) := by decide +kernel
theorem dX13_powerOf_10 : decode cX13_powerOf 10 = .ok (.ldc2_w 358, 3) := by decide +kernel
theorem dX13_powerOf_13 : decode cX13_powerOf 13 = .ok (.lmul, 1) := by decide +kernel
theorem dX13_powerOf_14 : decode cX13_powerOf 14 = .ok (.lstore_n 1, 1) := by decide +kernel
theorem dX13_powerOf_15 : decode cX13_powerOf 15 = .ok (.iinc 3 1, 3) := by decide +kernel
theorem dX13_powerOf_18 : decode cX13_powerOf 18 = .ok (.goto (-14), 3) := by decide +kernel
theorem dX13_powerOf_21 : decode cX13_powerOf 21 = .ok (.lload_n 1, 1) := by decide +kernel
theorem dX13_powerOf_22 : decode cX13_powerOf 22 = .ok (.lreturn, 1) := by decide +kernel
theorem dX13_clear_0 : decode cX13_clear 0 = .ok (.iconst 0, 1) := by decide +kernel
theorem dX13_clear_1 : decode cX13_clear 1 = .ok (.istore_n 1, 1) := by decide +kernel
theorem dX13_clear_2 : decode cX13_clear 2 = .ok (.iload_n 1, 1) := by decide +kernel
theorem dX13_clear_3 : decode cX13_clear 3 = .ok (.bipush 8, 2) := by decide +kernel
theorem dX13_clear_5 : decode cX13_clear 5 = .ok (.if_icmp .ge 13, 3) := by decide +kernel
theorem dX13_clear_8 : decode cX13_clear 8 = .ok (.aload_n 0, 1) := by decide +kernel
theorem dX13_clear_9 : decode cX13_clear 9 = .ok (.iload_n 1, 1) := by decide +kernel
theorem dX13_clear_10 : decode cX13_clear 10 = .ok (.lconst 0, 1) := by decide +kernel
theorem dX13_clear_11 : decode cX13_clear 11 = .ok (.lastore, 1) := by decide +kernel
theorem dX13_clear_12 : decode cX13_clear 12 = .ok (.iinc 1 1, 3) := by decide +kernel
theorem dX13_clear_15 : decode cX13_clear 15 = .ok (.goto (-13), 3) := by decide +kernel
theorem dX13_clear_18 : decode cX13_clear 18 = .ok (.return_, 1) := by decide +kernel
theorem dX13_digitOf_0 : decode cX13_digitOf 0 = .ok (.aload_n 0, 1) := by decide +kernel
theorem dX13_digitOf_1 : decode cX13_digitOf 1 = .ok (.iload_n 1, 1) := by decide +kernel
theorem dX13_digitOf_2 : decode cX13_digitOf 2 = .ok (.bipush 8, 2) := by decide +kernel
theorem dX13_digitOf_4 : decode cX13_digitOf 4 = .ok (.idiv, 1) := by decide +kernel
theorem dX13_digitOf_5 : decode cX13_digitOf 5 = .ok (.laload, 1) := by decide +kernel
theorem dX13_digitOf_6 : decode cX13_digitOf 6 = .ok (.iload_n 1, 1) := by decide +kernel
theorem dX13_digitOf_7 : decode cX13_digitOf 7 = .ok (.bipush 8, 2) := by decide +kernel
theorem dX13_digitOf_9 : decode cX13_digitOf 9 = .ok (.irem, 1) := by decide +kernel
theorem dX13_digitOf_10 : decode cX13_digitOf 10 = .ok (.invokestatic 360, 3) := by decide +kernel
theorem dX13_digitOf_13 : decode cX13_digitOf 13 = .ok (.ldiv, 1) := by decide +kernel
theorem dX13_digitOf_14 : decode cX13_digitOf 14 = .ok (.ldc2_w 358, 3) := by decide +kernel
theorem dX13_digitOf_17 : decode cX13_digitOf 17 = .ok (.lrem, 1) := by decide +kernel
theorem dX13_digitOf_18 : decode cX13_digitOf 18 = .ok (.l2i, 1) := by decide +kernel
theorem dX13_digitOf_19 : decode cX13_digitOf 19 = .ok (.ireturn, 1) := by decide +kernel
theorem dX13_putDigit_0 : decode cX13_putDigit 0 = .ok (.aload_n 0, 1) := by decide +kernel
theorem dX13_putDigit_1 : decode cX13_putDigit 1 = .ok (.iload_n 1, 1) := by decide +kernel
theorem dX13_putDigit_2 : decode cX13_putDigit 2 = .ok (.bipush 8, 2) := by decide +kernel
theorem dX13_putDigit_4 : decode cX13_putDigit 4 = .ok (.idiv, 1) := by decide +kernel
theorem dX13_putDigit_5 : decode cX13_putDigit 5 = .ok (.dup2, 1) := by decide +kernel
theorem dX13_putDigit_6 : decode cX13_putDigit 6 = .ok (.laload, 1) := by decide +kernel
theorem dX13_putDigit_7 : decode cX13_putDigit 7 = .ok (.iload_n 2, 1) := by decide +kernel
theorem dX13_putDigit_8 : decode cX13_putDigit 8 = .ok (.i2l, 1) := by decide +kernel
theorem dX13_putDigit_9 : decode cX13_putDigit 9 = .ok (.iload_n 1, 1) := by decide +kernel
theorem dX13_putDigit_10 : decode cX13_putDigit 10 = .ok (.bipush 8, 2) := by decide +kernel
theorem dX13_putDigit_12 : decode cX13_putDigit 12 = .ok (.irem, 1) := by decide +kernel
theorem dX13_putDigit_13 : decode cX13_putDigit 13 = .ok (.invokestatic 360, 3) := by decide +kernel
theorem dX13_putDigit_16 : decode cX13_putDigit 16 = .ok (.lmul, 1) := by decide +kernel
theorem dX13_putDigit_17 : decode cX13_putDigit 17 = .ok (.ladd, 1) := by decide +kernel
theorem dX13_putDigit_18 : decode cX13_putDigit 18 = .ok (.lastore, 1) := by decide +kernel
theorem dX13_putDigit_19 : decode cX13_putDigit 19 = .ok (.return_, 1) := by decide +kernel
theorem dX13_digitsOf_0 : decode cX13_digitsOf 0 = .ok (.bipush 64, 2) := by decide +kernel
theorem dX13_digitsOf_2 : decode cX13_digitsOf 2 = .ok (.istore_n 1, 1) := by decide +kernel
theorem dX13_digitsOf_3 : decode cX13_digitsOf 3 = .ok (.iload_n 1, 1) := by decide +kernel
theorem dX13_digitsOf_4 : decode cX13_digitsOf 4 = .ok (.ifCond .le 19, 3) := by decide +kernel
theorem dX13_digitsOf_7 : decode cX13_digitsOf 7 = .ok (.aload_n 0, 1) := by decide +kernel
theorem dX13_digitsOf_8 : decode cX13_digitsOf 8 = .ok (.iload_n 1, 1) := by decide +kernel
theorem dX13_digitsOf_9 : decode cX13_digitsOf 9 = .ok (.iconst 1, 1) := by decide +kernel
theorem dX13_digitsOf_10 : decode cX13_digitsOf 10 = .ok (.isub, 1) := by decide +kernel
theorem dX13_digitsOf_11 : decode cX13_digitsOf 11 = .ok (.invokestatic 364, 3) := by decide +kernel
theorem dX13_digitsOf_14 : decode cX13_digitsOf 14 = .ok (.ifCond .ne 9, 3) := by decide +kernel
theorem dX13_digitsOf_17 : decode cX13_digitsOf 17 = .ok (.iinc 1 (-1), 3) := by decide +kernel
theorem dX13_digitsOf_20 : decode cX13_digitsOf 20 = .ok (.goto (-17), 3) := by decide +kernel
theorem dX13_digitsOf_23 : decode cX13_digitsOf 23 = .ok (.iload_n 1, 1) := by decide +kernel
theorem dX13_digitsOf_24 : decode cX13_digitsOf 24 = .ok (.ireturn, 1) := by decide +kernel
theorem dX13_orderOf_0 : decode cX13_orderOf 0 = .ok (.bipush 7, 2) := by decide +kernel
theorem dX13_orderOf_2 : decode cX13_orderOf 2 = .ok (.istore_n 2, 1) := by decide +kernel
theorem dX13_orderOf_3 : decode cX13_orderOf 3 = .ok (.iload_n 2, 1) := by decide +kernel
theorem dX13_orderOf_4 : decode cX13_orderOf 4 = .ok (.ifCond .lt 35, 3) := by decide +kernel
theorem dX13_orderOf_7 : decode cX13_orderOf 7 = .ok (.aload_n 0, 1) := by decide +kernel
theorem dX13_orderOf_8 : decode cX13_orderOf 8 = .ok (.iload_n 2, 1) := by decide +kernel
theorem dX13_orderOf_9 : decode cX13_orderOf 9 = .ok (.laload, 1) := by decide +kernel
theorem dX13_orderOf_10 : decode cX13_orderOf 10 = .ok (.aload_n 1, 1) := by decide +kernel
theorem dX13_orderOf_11 : decode cX13_orderOf 11 = .ok (.iload_n 2, 1) := by decide +kernel
theorem dX13_orderOf_12 : decode cX13_orderOf 12 = .ok (.laload, 1) := by decide +kernel
theorem dX13_orderOf_13 : decode cX13_orderOf 13 = .ok (.lcmp, 1) := by decide +kernel
theorem dX13_orderOf_14 : decode cX13_orderOf 14 = .ok (.ifCond .eq 19, 3) := by decide +kernel
theorem dX13_orderOf_17 : decode cX13_orderOf 17 = .ok (.aload_n 0, 1) := by decide +kernel
theorem dX13_orderOf_18 : decode cX13_orderOf 18 = .ok (.iload_n 2, 1) := by decide +kernel
theorem dX13_orderOf_19 : decode cX13_orderOf 19 = .ok (.laload, 1) := by decide +kernel
theorem dX13_orderOf_20 : decode cX13_orderOf 20 = .ok (.aload_n 1, 1) := by decide +kernel
theorem dX13_orderOf_21 : decode cX13_orderOf 21 = .ok (.iload_n 2, 1) := by decide +kernel
theorem dX13_orderOf_22 : decode cX13_orderOf 22 = .ok (.laload, 1) := by decide +kernel
theorem dX13_orderOf_23 : decode cX13_orderOf 23 = .ok (.lcmp, 1) := by decide +kernel
theorem dX13_orderOf_24 : decode cX13_orderOf 24 = .ok (.ifCond .ge 7, 3) := by decide +kernel
theorem dX13_orderOf_27 : decode cX13_orderOf 27 = .ok (.iconst (-1), 1) := by decide +kernel
theorem dX13_orderOf_28 : decode cX13_orderOf 28 = .ok (.goto 4, 3) := by decide +kernel
theorem dX13_orderOf_31 : decode cX13_orderOf 31 = .ok (.iconst 1, 1) := by decide +kernel
theorem dX13_orderOf_32 : decode cX13_orderOf 32 = .ok (.ireturn, 1) := by decide +kernel
theorem dX13_orderOf_33 : decode cX13_orderOf 33 = .ok (.iinc 2 (-1), 3) := by decide +kernel
theorem dX13_orderOf_36 : decode cX13_orderOf 36 = .ok (.goto (-33), 3) := by decide +kernel
theorem dX13_orderOf_39 : decode cX13_orderOf 39 = .ok (.iconst 0, 1) := by decide +kernel
theorem dX13_orderOf_40 : decode cX13_orderOf 40 = .ok (.ireturn, 1) := by decide +kernel
theorem dX13_sum_0 : decode cX13_sum 0 = .ok (.lconst 0, 1) := by decide +kernel
theorem dX13_sum_1 : decode cX13_sum 1 = .ok (.lstore_n 3, 1) := by decide +kernel
theorem dX13_sum_2 : decode cX13_sum 2 = .ok (.iconst 0, 1) := by decide +kernel
theorem dX13_sum_3 : decode cX13_sum 3 = .ok (.istore 5, 2) := by decide +kernel
theorem dX13_sum_5 : decode cX13_sum 5 = .ok (.iload 5, 2) := by decide +kernel
theorem dX13_sum_7 : decode cX13_sum 7 = .ok (.bipush 8, 2) := by decide +kernel
theorem dX13_sum_9 : decode cX13_sum 9 = .ok (.if_icmp .ge 39, 3) := by decide +kernel
theorem dX13_sum_12 : decode cX13_sum 12 = .ok (.aload_n 1, 1) := by decide +kernel
theorem dX13_sum_13 : decode cX13_sum 13 = .ok (.iload 5, 2) := by decide +kernel
theorem dX13_sum_15 : decode cX13_sum 15 = .ok (.laload, 1) := by decide +kernel
theorem dX13_sum_16 : decode cX13_sum 16 = .ok (.aload_n 2, 1) := by decide +kernel
theorem dX13_sum_17 : decode cX13_sum 17 = .ok (.iload 5, 2) := by decide +kernel
theorem dX13_sum_19 : decode cX13_sum 19 = .ok (.laload, 1) := by decide +kernel
theorem dX13_sum_20 : decode cX13_sum 20 = .ok (.ladd, 1) := by decide +kernel
theorem dX13_sum_21 : decode cX13_sum 21 = .ok (.lload_n 3, 1) := by decide +kernel
theorem dX13_sum_22 : decode cX13_sum 22 = .ok (.ladd, 1) := by decide +kernel
theorem dX13_sum_23 : decode cX13_sum 23 = .ok (.lstore 6, 2) := by decide +kernel
theorem dX13_sum_25 : decode cX13_sum 25 = .ok (.lload 6, 2) := by decide +kernel
theorem dX13_sum_27 : decode cX13_sum 27 = .ok (.ldc2_w 368, 3) := by decide +kernel
theorem dX13_sum_30 : decode cX13_sum 30 = .ok (.ldiv, 1) := by decide +kernel
theorem dX13_sum_31 : decode cX13_sum 31 = .ok (.lstore_n 3, 1) := by decide +kernel
theorem dX13_sum_32 : decode cX13_sum 32 = .ok (.aload_n 0, 1) := by decide +kernel
theorem dX13_sum_33 : decode cX13_sum 33 = .ok (.iload 5, 2) := by decide +kernel
theorem dX13_sum_35 : decode cX13_sum 35 = .ok (.lload 6, 2) := by decide +kernel
theorem dX13_sum_37 : decode cX13_sum 37 = .ok (.ldc2_w 368, 3) := by decide +kernel
theorem dX13_sum_40 : decode cX13_sum 40 = .ok (.lrem, 1) := by decide +kernel
theorem dX13_sum_41 : decode cX13_sum 41 = .ok (.lastore, 1) := by decide +kernel
theorem dX13_sum_42 : decode cX13_sum 42 = .ok (.iinc 5 1, 3) := by decide +kernel
theorem dX13_sum_45 : decode cX13_sum 45 = .ok (.goto (-40), 3) := by decide +kernel
theorem dX13_sum_48 : decode cX13_sum 48 = .ok (.return_, 1) := by decide +kernel
theorem dX13_less_0 : decode cX13_less 0 = .ok (.lconst 0, 1) := by decide +kernel
theorem dX13_less_1 : decode cX13_less 1 = .ok (.lstore_n 3, 1) := by decide +kernel
theorem dX13_less_2 : decode cX13_less 2 = .ok (.iconst 0, 1) := by decide +kernel
theorem dX13_less_3 : decode cX13_less 3 = .ok (.istore 5, 2) := by decide +kernel
theorem dX13_less_5 : decode cX13_less 5 = .ok (.iload 5, 2) := by decide +kernel
theorem dX13_less_7 : decode cX13_less 7 = .ok (.bipush 8, 2) := by decide +kernel
theorem dX13_less_9 : decode cX13_less 9 = .ok (.if_icmp .ge 47, 3) := by decide +kernel
theorem dX13_less_12 : decode cX13_less 12 = .ok (.aload_n 1, 1) := by decide +kernel
theorem dX13_less_13 : decode cX13_less 13 = .ok (.iload 5, 2) := by decide +kernel
theorem dX13_less_15 : decode cX13_less 15 = .ok (.laload, 1) := by decide +kernel
theorem dX13_less_16 : decode cX13_less 16 = .ok (.aload_n 2, 1) := by decide +kernel
theorem dX13_less_17 : decode cX13_less 17 = .ok (.iload 5, 2) := by decide +kernel
theorem dX13_less_19 : decode cX13_less 19 = .ok (.laload, 1) := by decide +kernel
theorem dX13_less_20 : decode cX13_less 20 = .ok (.lsub, 1) := by decide +kernel
theorem dX13_less_21 : decode cX13_less 21 = .ok (.lload_n 3, 1) := by decide +kernel
theorem dX13_less_22 : decode cX13_less 22 = .ok (.lsub, 1) := by decide +kernel
theorem dX13_less_23 : decode cX13_less 23 = .ok (.lstore 6, 2) := by decide +kernel
theorem dX13_less_25 : decode cX13_less 25 = .ok (.lload 6, 2) := by decide +kernel
theorem dX13_less_27 : decode cX13_less 27 = .ok (.lconst 0, 1) := by decide +kernel
theorem dX13_less_28 : decode cX13_less 28 = .ok (.lcmp, 1) := by decide +kernel
theorem dX13_less_29 : decode cX13_less 29 = .ok (.ifCond .ge 7, 3) := by decide +kernel
theorem dX13_less_32 : decode cX13_less 32 = .ok (.lconst 1, 1) := by decide +kernel
theorem dX13_less_33 : decode cX13_less 33 = .ok (.goto 4, 3) := by decide +kernel
theorem dX13_less_36 : decode cX13_less 36 = .ok (.lconst 0, 1) := by decide +kernel
theorem dX13_less_37 : decode cX13_less 37 = .ok (.lstore_n 3, 1) := by decide +kernel
theorem dX13_less_38 : decode cX13_less 38 = .ok (.aload_n 0, 1) := by decide +kernel
theorem dX13_less_39 : decode cX13_less 39 = .ok (.iload 5, 2) := by decide +kernel
theorem dX13_less_41 : decode cX13_less 41 = .ok (.lload 6, 2) := by decide +kernel
theorem dX13_less_43 : decode cX13_less 43 = .ok (.lload_n 3, 1) := by decide +kernel
theorem dX13_less_44 : decode cX13_less 44 = .ok (.ldc2_w 368, 3) := by decide +kernel
theorem dX13_less_47 : decode cX13_less 47 = .ok (.lmul, 1) := by decide +kernel
theorem dX13_less_48 : decode cX13_less 48 = .ok (.ladd, 1) := by decide +kernel
theorem dX13_less_49 : decode cX13_less 49 = .ok (.lastore, 1) := by decide +kernel
theorem dX13_less_50 : decode cX13_less 50 = .ok (.iinc 5 1, 3) := by decide +kernel
theorem dX13_less_53 : decode cX13_less 53 = .ok (.goto (-48), 3) := by decide +kernel
theorem dX13_less_56 : decode cX13_less 56 = .ok (.return_, 1) := by decide +kernel
theorem dX13_product_0 : decode cX13_product 0 = .ok (.lconst 0, 1) := by decide +kernel
theorem dX13_product_1 : decode cX13_product 1 = .ok (.lstore_n 3, 1) := by decide +kernel
theorem dX13_product_2 : decode cX13_product 2 = .ok (.iconst 0, 1) := by decide +kernel
theorem dX13_product_3 : decode cX13_product 3 = .ok (.istore 5, 2) := by decide +kernel
theorem dX13_product_5 : decode cX13_product 5 = .ok (.iload 5, 2) := by decide +kernel
theorem dX13_product_7 : decode cX13_product 7 = .ok (.bipush 8, 2) := by decide +kernel
theorem dX13_product_9 : decode cX13_product 9 = .ok (.if_icmp .ge 62, 3) := by decide +kernel
theorem dX13_product_12 : decode cX13_product 12 = .ok (.lload_n 3, 1) := by decide +kernel
theorem dX13_product_13 : decode cX13_product 13 = .ok (.lstore 6, 2) := by decide +kernel
theorem dX13_product_15 : decode cX13_product 15 = .ok (.iconst 0, 1) := by decide +kernel
theorem dX13_product_16 : decode cX13_product 16 = .ok (.istore 8, 2) := by decide +kernel
theorem dX13_product_18 : decode cX13_product 18 = .ok (.iload 8, 2) := by decide +kernel
theorem dX13_product_20 : decode cX13_product 20 = .ok (.iload 5, 2) := by decide +kernel
theorem dX13_product_22 : decode cX13_product 22 = .ok (.if_icmp .gt 26, 3) := by decide +kernel
theorem dX13_product_25 : decode cX13_product 25 = .ok (.lload 6, 2) := by decide +kernel
theorem dX13_product_27 : decode cX13_product 27 = .ok (.aload_n 1, 1) := by decide +kernel
theorem dX13_product_28 : decode cX13_product 28 = .ok (.iload 8, 2) := by decide +kernel
theorem dX13_product_30 : decode cX13_product 30 = .ok (.laload, 1) := by decide +kernel
theorem dX13_product_31 : decode cX13_product 31 = .ok (.aload_n 2, 1) := by decide +kernel
theorem dX13_product_32 : decode cX13_product 32 = .ok (.iload 5, 2) := by decide +kernel
theorem dX13_product_34 : decode cX13_product 34 = .ok (.iload 8, 2) := by decide +kernel
theorem dX13_product_36 : decode cX13_product 36 = .ok (.isub, 1) := by decide +kernel
theorem dX13_product_37 : decode cX13_product 37 = .ok (.laload, 1) := by decide +kernel
theorem dX13_product_38 : decode cX13_product 38 = .ok (.lmul, 1) := by decide +kernel
theorem dX13_product_39 : decode cX13_product 39 = .ok (.ladd, 1) := by decide +kernel
theorem dX13_product_40 : decode cX13_product 40 = .ok (.lstore 6, 2) := by decide +kernel
theorem dX13_product_42 : decode cX13_product 42 = .ok (.iinc 8 1, 3) := by decide +kernel
theorem dX13_product_45 : decode cX13_product 45 = .ok (.goto (-27), 3) := by decide +kernel
theorem dX13_product_48 : decode cX13_product 48 = .ok (.lload 6, 2) := by decide +kernel
theorem dX13_product_50 : decode cX13_product 50 = .ok (.ldc2_w 368, 3) := by decide +kernel
theorem dX13_product_53 : decode cX13_product 53 = .ok (.ldiv, 1) := by decide +kernel
theorem dX13_product_54 : decode cX13_product 54 = .ok (.lstore_n 3, 1) := by decide +kernel
theorem dX13_product_55 : decode cX13_product 55 = .ok (.aload_n 0, 1) := by decide +kernel
theorem dX13_product_56 : decode cX13_product 56 = .ok (.iload 5, 2) := by decide +kernel
theorem dX13_product_58 : decode cX13_product 58 = .ok (.lload 6, 2) := by decide +kernel
theorem dX13_product_60 : decode cX13_product 60 = .ok (.ldc2_w 368, 3) := by decide +kernel
theorem dX13_product_63 : decode cX13_product 63 = .ok (.lrem, 1) := by decide +kernel
theorem dX13_product_64 : decode cX13_product 64 = .ok (.lastore, 1) := by decide +kernel
theorem dX13_product_65 : decode cX13_product 65 = .ok (.iinc 5 1, 3) := by decide +kernel
theorem dX13_product_68 : decode cX13_product 68 = .ok (.goto (-63), 3) := by decide +kernel
theorem dX13_product_71 : decode cX13_product 71 = .ok (.return_, 1) := by decide +kernel
theorem dX13_halfAt_0 : decode cX13_halfAt 0 = .ok (.iload_n 1, 1) := by decide +kernel
theorem dX13_halfAt_1 : decode cX13_halfAt 1 = .ok (.iconst 2, 1) := by decide +kernel
theorem dX13_halfAt_2 : decode cX13_halfAt 2 = .ok (.irem, 1) := by decide +kernel
theorem dX13_halfAt_3 : decode cX13_halfAt 3 = .ok (.ifCond .ne 16, 3) := by decide +kernel
theorem dX13_halfAt_6 : decode cX13_halfAt 6 = .ok (.aload_n 0, 1) := by decide +kernel
theorem dX13_halfAt_7 : decode cX13_halfAt 7 = .ok (.getfield 76, 3) := by decide +kernel
theorem dX13_halfAt_10 : decode cX13_halfAt 10 = .ok (.iload_n 1, 1) := by decide +kernel
theorem dX13_halfAt_11 : decode cX13_halfAt 11 = .ok (.iconst 2, 1) := by decide +kernel
theorem dX13_halfAt_12 : decode cX13_halfAt 12 = .ok (.idiv, 1) := by decide +kernel
theorem dX13_halfAt_13 : decode cX13_halfAt 13 = .ok (.iaload, 1) := by decide +kernel
theorem dX13_halfAt_14 : decode cX13_halfAt 14 = .ok (.iconst 4, 1) := by decide +kernel
theorem dX13_halfAt_15 : decode cX13_halfAt 15 = .ok (.ishr, 1) := by decide +kernel
theorem dX13_halfAt_16 : decode cX13_halfAt 16 = .ok (.goto 14, 3) := by decide +kernel
theorem dX13_halfAt_19 : decode cX13_halfAt 19 = .ok (.aload_n 0, 1) := by decide +kernel
theorem dX13_halfAt_20 : decode cX13_halfAt 20 = .ok (.getfield 76, 3) := by decide +kernel
theorem dX13_halfAt_23 : decode cX13_halfAt 23 = .ok (.iload_n 1, 1) := by decide +kernel
theorem dX13_halfAt_24 : decode cX13_halfAt 24 = .ok (.iconst 2, 1) := by decide +kernel
theorem dX13_halfAt_25 : decode cX13_halfAt 25 = .ok (.idiv, 1) := by decide +kernel
theorem dX13_halfAt_26 : decode cX13_halfAt 26 = .ok (.iaload, 1) := by decide +kernel
theorem dX13_halfAt_27 : decode cX13_halfAt 27 = .ok (.bipush 15, 2) := by decide +kernel
theorem dX13_halfAt_29 : decode cX13_halfAt 29 = .ok (.iand, 1) := by decide +kernel
theorem dX13_halfAt_30 : decode cX13_halfAt 30 = .ok (.ireturn, 1) := by decide +kernel
theorem dX13_layHalf_0 : decode cX13_layHalf 0 = .ok (.aload_n 0, 1) := by decide +kernel
theorem dX13_layHalf_1 : decode cX13_layHalf 1 = .ok (.getfield 76, 3) := by decide +kernel
theorem dX13_layHalf_4 : decode cX13_layHalf 4 = .ok (.iload_n 1, 1) := by decide +kernel
theorem dX13_layHalf_5 : decode cX13_layHalf 5 = .ok (.iconst 2, 1) := by decide +kernel
theorem dX13_layHalf_6 : decode cX13_layHalf 6 = .ok (.idiv, 1) := by decide +kernel
theorem dX13_layHalf_7 : decode cX13_layHalf 7 = .ok (.iload_n 1, 1) := by decide +kernel
theorem dX13_layHalf_8 : decode cX13_layHalf 8 = .ok (.iconst 2, 1) := by decide +kernel
theorem dX13_layHalf_9 : decode cX13_layHalf 9 = .ok (.irem, 1) := by decide +kernel
theorem dX13_layHalf_10 : decode cX13_layHalf 10 = .ok (.ifCond .ne 22, 3) := by decide +kernel
theorem dX13_layHalf_13 : decode cX13_layHalf 13 = .ok (.bipush 16, 2) := by decide +kernel
theorem dX13_layHalf_15 : decode cX13_layHalf 15 = .ok (.iload_n 2, 1) := by decide +kernel
theorem dX13_layHalf_16 : decode cX13_layHalf 16 = .ok (.imul, 1) := by decide +kernel
theorem dX13_layHalf_17 : decode cX13_layHalf 17 = .ok (.aload_n 0, 1) := by decide +kernel
theorem dX13_layHalf_18 : decode cX13_layHalf 18 = .ok (.getfield 76, 3) := by decide +kernel
theorem dX13_layHalf_21 : decode cX13_layHalf 21 = .ok (.iload_n 1, 1) := by decide +kernel
theorem dX13_layHalf_22 : decode cX13_layHalf 22 = .ok (.iconst 2, 1) := by decide +kernel
theorem dX13_layHalf_23 : decode cX13_layHalf 23 = .ok (.idiv, 1) := by decide +kernel
theorem dX13_layHalf_24 : decode cX13_layHalf 24 = .ok (.iaload, 1) := by decide +kernel
theorem dX13_layHalf_25 : decode cX13_layHalf 25 = .ok (.bipush 15, 2) := by decide +kernel
theorem dX13_layHalf_27 : decode cX13_layHalf 27 = .ok (.iand, 1) := by decide +kernel
theorem dX13_layHalf_28 : decode cX13_layHalf 28 = .ok (.iadd, 1) := by decide +kernel
theorem dX13_layHalf_29 : decode cX13_layHalf 29 = .ok (.goto 17, 3) := by decide +kernel
theorem dX13_layHalf_32 : decode cX13_layHalf 32 = .ok (.aload_n 0, 1) := by decide +kernel
theorem dX13_layHalf_33 : decode cX13_layHalf 33 = .ok (.getfield 76, 3) := by decide +kernel
theorem dX13_layHalf_36 : decode cX13_layHalf 36 = .ok (.iload_n 1, 1) := by decide +kernel
theorem dX13_layHalf_37 : decode cX13_layHalf 37 = .ok (.iconst 2, 1) := by decide +kernel
theorem dX13_layHalf_38 : decode cX13_layHalf 38 = .ok (.idiv, 1) := by decide +kernel
theorem dX13_layHalf_39 : decode cX13_layHalf 39 = .ok (.iaload, 1) := by decide +kernel
theorem dX13_layHalf_40 : decode cX13_layHalf 40 = .ok (.sipush 240, 3) := by decide +kernel
theorem dX13_layHalf_43 : decode cX13_layHalf 43 = .ok (.iand, 1) := by decide +kernel
theorem dX13_layHalf_44 : decode cX13_layHalf 44 = .ok (.iload_n 2, 1) := by decide +kernel
theorem dX13_layHalf_45 : decode cX13_layHalf 45 = .ok (.iadd, 1) := by decide +kernel
theorem dX13_layHalf_46 : decode cX13_layHalf 46 = .ok (.iastore, 1) := by decide +kernel
theorem dX13_layHalf_47 : decode cX13_layHalf 47 = .ok (.return_, 1) := by decide +kernel
theorem dX13_load_0 : decode cX13_load 0 = .ok (.aload_n 1, 1) := by decide +kernel
theorem dX13_load_1 : decode cX13_load 1 = .ok (.invokestatic 370, 3) := by decide +kernel
theorem dX13_load_4 : decode cX13_load 4 = .ok (.iconst 2, 1) := by decide +kernel
theorem dX13_load_5 : decode cX13_load 5 = .ok (.iload_n 2, 1) := by decide +kernel
theorem dX13_load_6 : decode cX13_load 6 = .ok (.iload_n 3, 1) := by decide +kernel
theorem dX13_load_7 : decode cX13_load 7 = .ok (.iadd, 1) := by decide +kernel
theorem dX13_load_8 : decode cX13_load 8 = .ok (.imul, 1) := by decide +kernel
theorem dX13_load_9 : decode cX13_load 9 = .ok (.iconst 1, 1) := by decide +kernel
theorem dX13_load_10 : decode cX13_load 10 = .ok (.isub, 1) := by decide +kernel
theorem dX13_load_11 : decode cX13_load 11 = .ok (.istore 4, 2) := by decide +kernel
theorem dX13_load_13 : decode cX13_load 13 = .ok (.iconst 0, 1) := by decide +kernel
theorem dX13_load_14 : decode cX13_load 14 = .ok (.istore 5, 2) := by decide +kernel
theorem dX13_load_16 : decode cX13_load 16 = .ok (.iload 5, 2) := by decide +kernel
theorem dX13_load_18 : decode cX13_load 18 = .ok (.iconst 2, 1) := by decide +kernel
theorem dX13_load_19 : decode cX13_load 19 = .ok (.iload_n 3, 1) := by decide +kernel
theorem dX13_load_20 : decode cX13_load 20 = .ok (.imul, 1) := by decide +kernel
theorem dX13_load_21 : decode cX13_load 21 = .ok (.iconst 1, 1) := by decide +kernel
theorem dX13_load_22 : decode cX13_load 22 = .ok (.isub, 1) := by decide +kernel
theorem dX13_load_23 : decode cX13_load 23 = .ok (.if_icmp .ge 26, 3) := by decide +kernel
theorem dX13_load_26 : decode cX13_load 26 = .ok (.aload_n 1, 1) := by decide +kernel
theorem dX13_load_27 : decode cX13_load 27 = .ok (.iload 5, 2) := by decide +kernel
theorem dX13_load_29 : decode cX13_load 29 = .ok (.aload_n 0, 1) := by decide +kernel
theorem dX13_load_30 : decode cX13_load 30 = .ok (.iload 4, 2) := by decide +kernel
theorem dX13_load_32 : decode cX13_load 32 = .ok (.iconst 1, 1) := by decide +kernel
theorem dX13_load_33 : decode cX13_load 33 = .ok (.isub, 1) := by decide +kernel
theorem dX13_load_34 : decode cX13_load 34 = .ok (.iload 5, 2) := by decide +kernel
theorem dX13_load_36 : decode cX13_load 36 = .ok (.isub, 1) := by decide +kernel
theorem dX13_load_37 : decode cX13_load 37 = .ok (.invokevirtual 374, 3) := by decide +kernel
theorem dX13_load_40 : decode cX13_load 40 = .ok (.invokestatic 377, 3) := by decide +kernel
theorem dX13_load_43 : decode cX13_load 43 = .ok (.iinc 5 1, 3) := by decide +kernel
theorem dX13_load_46 : decode cX13_load 46 = .ok (.goto (-30), 3) := by decide +kernel
theorem dX13_load_49 : decode cX13_load 49 = .ok (.return_, 1) := by decide +kernel
theorem dX13_isBelow_0 : decode cX13_isBelow 0 = .ok (.iload_n 0, 1) := by decide +kernel
theorem dX13_isBelow_1 : decode cX13_isBelow 1 = .ok (.bipush 11, 2) := by decide +kernel
theorem dX13_isBelow_3 : decode cX13_isBelow 3 = .ok (.if_icmp .eq 9, 3) := by decide +kernel
theorem dX13_isBelow_6 : decode cX13_isBelow 6 = .ok (.iload_n 0, 1) := by decide +kernel
theorem dX13_isBelow_7 : decode cX13_isBelow 7 = .ok (.bipush 13, 2) := by decide +kernel
theorem dX13_isBelow_9 : decode cX13_isBelow 9 = .ok (.if_icmp .ne 7, 3) := by decide +kernel
theorem dX13_isBelow_12 : decode cX13_isBelow 12 = .ok (.iconst 1, 1) := by decide +kernel
theorem dX13_isBelow_13 : decode cX13_isBelow 13 = .ok (.goto 4, 3) := by decide +kernel
theorem dX13_isBelow_16 : decode cX13_isBelow 16 = .ok (.iconst 0, 1) := by decide +kernel
theorem dX13_isBelow_17 : decode cX13_isBelow 17 = .ok (.ireturn, 1) := by decide +kernel
theorem dX13_signAt_0 : decode cX13_signAt 0 = .ok (.aload_n 0, 1) := by decide +kernel
theorem dX13_signAt_1 : decode cX13_signAt 1 = .ok (.iconst 2, 1) := by decide +kernel
theorem dX13_signAt_2 : decode cX13_signAt 2 = .ok (.iload_n 1, 1) := by decide +kernel
theorem dX13_signAt_3 : decode cX13_signAt 3 = .ok (.iload_n 2, 1) := by decide +kernel
theorem dX13_signAt_4 : decode cX13_signAt 4 = .ok (.iadd, 1) := by decide +kernel
theorem dX13_signAt_5 : decode cX13_signAt 5 = .ok (.imul, 1) := by decide +kernel
theorem dX13_signAt_6 : decode cX13_signAt 6 = .ok (.iconst 1, 1) := by decide +kernel
theorem dX13_signAt_7 : decode cX13_signAt 7 = .ok (.isub, 1) := by decide +kernel
theorem dX13_signAt_8 : decode cX13_signAt 8 = .ok (.invokevirtual 374, 3) := by decide +kernel
theorem dX13_signAt_11 : decode cX13_signAt 11 = .ok (.ireturn, 1) := by decide +kernel
theorem dX13_store_0 : decode cX13_store 0 = .ok (.iconst 2, 1) := by decide +kernel
theorem dX13_store_1 : decode cX13_store 1 = .ok (.iload_n 1, 1) := by decide +kernel
theorem dX13_store_2 : decode cX13_store 2 = .ok (.iload_n 2, 1) := by decide +kernel
theorem dX13_store_3 : decode cX13_store 3 = .ok (.iadd, 1) := by decide +kernel
theorem dX13_store_4 : decode cX13_store 4 = .ok (.imul, 1) := by decide +kernel
theorem dX13_store_5 : decode cX13_store 5 = .ok (.iconst 1, 1) := by decide +kernel
theorem dX13_store_6 : decode cX13_store 6 = .ok (.isub, 1) := by decide +kernel
theorem dX13_store_7 : decode cX13_store 7 = .ok (.istore 5, 2) := by decide +kernel
theorem dX13_store_9 : decode cX13_store 9 = .ok (.aload_n 0, 1) := by decide +kernel
theorem dX13_store_10 : decode cX13_store 10 = .ok (.iload 5, 2) := by decide +kernel
theorem dX13_store_12 : decode cX13_store 12 = .ok (.iload 4, 2) := by decide +kernel
theorem dX13_store_14 : decode cX13_store 14 = .ok (.ifCond .eq 8, 3) := by decide +kernel
theorem dX13_store_17 : decode cX13_store 17 = .ok (.bipush 13, 2) := by decide +kernel
theorem dX13_store_19 : decode cX13_store 19 = .ok (.goto 5, 3) := by decide +kernel
theorem dX13_store_22 : decode cX13_store 22 = .ok (.bipush 12, 2) := by decide +kernel
theorem dX13_store_24 : decode cX13_store 24 = .ok (.invokevirtual 381, 3) := by decide +kernel
theorem dX13_store_27 : decode cX13_store 27 = .ok (.iconst 0, 1) := by decide +kernel
theorem dX13_store_28 : decode cX13_store 28 = .ok (.istore 6, 2) := by decide +kernel
theorem dX13_store_30 : decode cX13_store 30 = .ok (.iload 6, 2) := by decide +kernel
theorem dX13_store_32 : decode cX13_store 32 = .ok (.iconst 2, 1) := by decide +kernel
theorem dX13_store_33 : decode cX13_store 33 = .ok (.iload_n 2, 1) := by decide +kernel
theorem dX13_store_34 : decode cX13_store 34 = .ok (.imul, 1) := by decide +kernel
theorem dX13_store_35 : decode cX13_store 35 = .ok (.iconst 1, 1) := by decide +kernel
theorem dX13_store_36 : decode cX13_store 36 = .ok (.isub, 1) := by decide +kernel
theorem dX13_store_37 : decode cX13_store 37 = .ok (.if_icmp .ge 26, 3) := by decide +kernel
theorem dX13_store_40 : decode cX13_store 40 = .ok (.aload_n 0, 1) := by decide +kernel
theorem dX13_store_41 : decode cX13_store 41 = .ok (.iload 5, 2) := by decide +kernel
theorem dX13_store_43 : decode cX13_store 43 = .ok (.iconst 1, 1) := by decide +kernel
theorem dX13_store_44 : decode cX13_store 44 = .ok (.isub, 1) := by decide +kernel
theorem dX13_store_45 : decode cX13_store 45 = .ok (.iload 6, 2) := by decide +kernel
theorem dX13_store_47 : decode cX13_store 47 = .ok (.isub, 1) := by decide +kernel
theorem dX13_store_48 : decode cX13_store 48 = .ok (.aload_n 3, 1) := by decide +kernel
theorem dX13_store_49 : decode cX13_store 49 = .ok (.iload 6, 2) := by decide +kernel
theorem dX13_store_51 : decode cX13_store 51 = .ok (.invokestatic 364, 3) := by decide +kernel
theorem dX13_store_54 : decode cX13_store 54 = .ok (.invokevirtual 381, 3) := by decide +kernel
theorem dX13_store_57 : decode cX13_store 57 = .ok (.iinc 6 1, 3) := by decide +kernel
theorem dX13_store_60 : decode cX13_store 60 = .ok (.goto (-30), 3) := by decide +kernel
theorem dX13_store_63 : decode cX13_store 63 = .ok (.return_, 1) := by decide +kernel
theorem dX13_isNothing_0 : decode cX13_isNothing 0 = .ok (.aload_n 0, 1) := by decide +kernel
theorem dX13_isNothing_1 : decode cX13_isNothing 1 = .ok (.invokestatic 384, 3) := by decide +kernel
theorem dX13_isNothing_4 : decode cX13_isNothing 4 = .ok (.ifCond .ne 7, 3) := by decide +kernel
theorem dX13_isNothing_7 : decode cX13_isNothing 7 = .ok (.iconst 1, 1) := by decide +kernel
theorem dX13_isNothing_8 : decode cX13_isNothing 8 = .ok (.goto 4, 3) := by decide +kernel
theorem dX13_isNothing_11 : decode cX13_isNothing 11 = .ok (.iconst 0, 1) := by decide +kernel
theorem dX13_isNothing_12 : decode cX13_isNothing 12 = .ok (.ireturn, 1) := by decide +kernel
theorem dX13_flawOf_0 : decode cX13_flawOf 0 = .ok (.iconst 2, 1) := by decide +kernel
theorem dX13_flawOf_1 : decode cX13_flawOf 1 = .ok (.iload_n 1, 1) := by decide +kernel
theorem dX13_flawOf_2 : decode cX13_flawOf 2 = .ok (.iload_n 2, 1) := by decide +kernel
theorem dX13_flawOf_3 : decode cX13_flawOf 3 = .ok (.iadd, 1) := by decide +kernel
theorem dX13_flawOf_4 : decode cX13_flawOf 4 = .ok (.imul, 1) := by decide +kernel
theorem dX13_flawOf_5 : decode cX13_flawOf 5 = .ok (.iconst 1, 1) := by decide +kernel
theorem dX13_flawOf_6 : decode cX13_flawOf 6 = .ok (.isub, 1) := by decide +kernel
theorem dX13_flawOf_7 : decode cX13_flawOf 7 = .ok (.istore_n 3, 1) := by decide +kernel
theorem dX13_flawOf_8 : decode cX13_flawOf 8 = .ok (.iconst 2, 1) := by decide +kernel
theorem dX13_flawOf_9 : decode cX13_flawOf 9 = .ok (.iload_n 1, 1) := by decide +kernel
theorem dX13_flawOf_10 : decode cX13_flawOf 10 = .ok (.imul, 1) := by decide +kernel
theorem dX13_flawOf_11 : decode cX13_flawOf 11 = .ok (.istore 4, 2) := by decide +kernel
theorem dX13_flawOf_13 : decode cX13_flawOf 13 = .ok (.iload 4, 2) := by decide +kernel
theorem dX13_flawOf_15 : decode cX13_flawOf 15 = .ok (.iload_n 3, 1) := by decide +kernel
theorem dX13_flawOf_16 : decode cX13_flawOf 16 = .ok (.if_icmp .gt 42, 3) := by decide +kernel
theorem dX13_flawOf_19 : decode cX13_flawOf 19 = .ok (.aload_n 0, 1) := by decide +kernel
theorem dX13_flawOf_20 : decode cX13_flawOf 20 = .ok (.iload 4, 2) := by decide +kernel
theorem dX13_flawOf_22 : decode cX13_flawOf 22 = .ok (.invokevirtual 374, 3) := by decide +kernel
theorem dX13_flawOf_25 : decode cX13_flawOf 25 = .ok (.bipush 9, 2) := by decide +kernel
theorem dX13_flawOf_27 : decode cX13_flawOf 27 = .ok (.if_icmp .le 7, 3) := by decide +kernel
theorem dX13_flawOf_30 : decode cX13_flawOf 30 = .ok (.iconst 1, 1) := by decide +kernel
theorem dX13_flawOf_31 : decode cX13_flawOf 31 = .ok (.goto 4, 3) := by decide +kernel
theorem dX13_flawOf_34 : decode cX13_flawOf 34 = .ok (.iconst 0, 1) := by decide +kernel
theorem dX13_flawOf_35 : decode cX13_flawOf 35 = .ok (.iload 4, 2) := by decide +kernel
theorem dX13_flawOf_37 : decode cX13_flawOf 37 = .ok (.iload_n 3, 1) := by decide +kernel
theorem dX13_flawOf_38 : decode cX13_flawOf 38 = .ok (.if_icmp .ne 7, 3) := by decide +kernel
theorem dX13_flawOf_41 : decode cX13_flawOf 41 = .ok (.iconst 1, 1) := by decide +kernel
theorem dX13_flawOf_42 : decode cX13_flawOf 42 = .ok (.goto 4, 3) := by decide +kernel
theorem dX13_flawOf_45 : decode cX13_flawOf 45 = .ok (.iconst 0, 1) := by decide +kernel
theorem dX13_flawOf_46 : decode cX13_flawOf 46 = .ok (.if_icmp .eq 6, 3) := by decide +kernel
theorem dX13_flawOf_49 : decode cX13_flawOf 49 = .ok (.iload 4, 2) := by decide +kernel
theorem dX13_flawOf_51 : decode cX13_flawOf 51 = .ok (.ireturn, 1) := by decide +kernel
theorem dX13_flawOf_52 : decode cX13_flawOf 52 = .ok (.iinc 4 1, 3) := by decide +kernel
theorem dX13_flawOf_55 : decode cX13_flawOf 55 = .ok (.goto (-42), 3) := by decide +kernel
theorem dX13_flawOf_58 : decode cX13_flawOf 58 = .ok (.iconst (-1), 1) := by decide +kernel
theorem dX13_flawOf_59 : decode cX13_flawOf 59 = .ok (.ireturn, 1) := by decide +kernel
theorem dX13_isThere_0 : decode cX13_isThere 0 = .ok (.iload_n 0, 1) := by decide +kernel
theorem dX13_isThere_1 : decode cX13_isThere 1 = .ok (.ifCond .lt 16, 3) := by decide +kernel
theorem dX13_isThere_4 : decode cX13_isThere 4 = .ok (.iload_n 0, 1) := by decide +kernel
theorem dX13_isThere_5 : decode cX13_isThere 5 = .ok (.sipush 256, 3) := by decide +kernel
theorem dX13_isThere_8 : decode cX13_isThere 8 = .ok (.iload_n 1, 1) := by decide +kernel
theorem dX13_isThere_9 : decode cX13_isThere 9 = .ok (.isub, 1) := by decide +kernel
theorem dX13_isThere_10 : decode cX13_isThere 10 = .ok (.if_icmp .gt 7, 3) := by decide +kernel
theorem dX13_isThere_13 : decode cX13_isThere 13 = .ok (.iconst 1, 1) := by decide +kernel
theorem dX13_isThere_14 : decode cX13_isThere 14 = .ok (.goto 4, 3) := by decide +kernel
theorem dX13_isThere_17 : decode cX13_isThere 17 = .ok (.iconst 0, 1) := by decide +kernel
theorem dX13_isThere_18 : decode cX13_isThere 18 = .ok (.ireturn, 1) := by decide +kernel
theorem dX13_raise_0 : decode cX13_raise 0 = .ok (.aload_n 0, 1) := by decide +kernel
theorem dX13_raise_1 : decode cX13_raise 1 = .ok (.getfield 388, 3) := by decide +kernel
theorem dX13_raise_4 : decode cX13_raise 4 = .ok (.ifCond .eq 4, 3) := by decide +kernel
theorem dX13_raise_7 : decode cX13_raise 7 = .ok (.return_, 1) := by decide +kernel
theorem dX13_raise_8 : decode cX13_raise 8 = .ok (.aload_n 0, 1) := by decide +kernel
theorem dX13_raise_9 : decode cX13_raise 9 = .ok (.iload_n 1, 1) := by decide +kernel
theorem dX13_raise_10 : decode cX13_raise 10 = .ok (.putfield 388, 3) := by decide +kernel
theorem dX13_raise_13 : decode cX13_raise 13 = .ok (.aload_n 0, 1) := by decide +kernel
theorem dX13_raise_14 : decode cX13_raise 14 = .ok (.iload_n 2, 1) := by decide +kernel
theorem dX13_raise_15 : decode cX13_raise 15 = .ok (.putfield 391, 3) := by decide +kernel
theorem dX13_raise_18 : decode cX13_raise 18 = .ok (.aload_n 0, 1) := by decide +kernel
theorem dX13_raise_19 : decode cX13_raise 19 = .ok (.iload_n 2, 1) := by decide +kernel
theorem dX13_raise_20 : decode cX13_raise 20 = .ok (.ifCond .ne 10, 3) := by decide +kernel
theorem dX13_raise_23 : decode cX13_raise 23 = .ok (.aload_n 0, 1) := by decide +kernel
theorem dX13_raise_24 : decode cX13_raise 24 = .ok (.getfield 394, 3) := by decide +kernel
theorem dX13_raise_27 : decode cX13_raise 27 = .ok (.goto 7, 3) := by decide +kernel
theorem dX13_raise_30 : decode cX13_raise 30 = .ok (.aload_n 0, 1) := by decide +kernel
theorem dX13_raise_31 : decode cX13_raise 31 = .ok (.getfield 397, 3) := by decide +kernel
theorem dX13_raise_34 : decode cX13_raise 34 = .ok (.putfield 400, 3) := by decide +kernel
theorem dX13_raise_37 : decode cX13_raise 37 = .ok (.aload_n 0, 1) := by decide +kernel
theorem dX13_raise_38 : decode cX13_raise 38 = .ok (.iload_n 2, 1) := by decide +kernel
theorem dX13_raise_39 : decode cX13_raise 39 = .ok (.ifCond .ne 10, 3) := by decide +kernel
theorem dX13_raise_42 : decode cX13_raise 42 = .ok (.aload_n 0, 1) := by decide +kernel
theorem dX13_raise_43 : decode cX13_raise 43 = .ok (.getfield 403, 3) := by decide +kernel
theorem dX13_raise_46 : decode cX13_raise 46 = .ok (.goto 7, 3) := by decide +kernel
theorem dX13_raise_49 : decode cX13_raise 49 = .ok (.aload_n 0, 1) := by decide +kernel
theorem dX13_raise_50 : decode cX13_raise 50 = .ok (.getfield 406, 3) := by decide +kernel
theorem dX13_raise_53 : decode cX13_raise 53 = .ok (.putfield 409, 3) := by decide +kernel
theorem dX13_raise_56 : decode cX13_raise 56 = .ok (.aload_n 0, 1) := by decide +kernel
theorem dX13_raise_57 : decode cX13_raise 57 = .ok (.iconst (-1), 1) := by decide +kernel
theorem dX13_raise_58 : decode cX13_raise 58 = .ok (.putfield 412, 3) := by decide +kernel
theorem dX13_raise_61 : decode cX13_raise 61 = .ok (.return_, 1) := by decide +kernel
theorem dX13_raiseHalf_0 : decode cX13_raiseHalf 0 = .ok (.aload_n 0, 1) := by decide +kernel
theorem dX13_raiseHalf_1 : decode cX13_raiseHalf 1 = .ok (.getfield 388, 3) := by decide +kernel
theorem dX13_raiseHalf_4 : decode cX13_raiseHalf 4 = .ok (.ifCond .eq 4, 3) := by decide +kernel
theorem dX13_raiseHalf_7 : decode cX13_raiseHalf 7 = .ok (.return_, 1) := by decide +kernel
theorem dX13_raiseHalf_8 : decode cX13_raiseHalf 8 = .ok (.aload_n 0, 1) := by decide +kernel
theorem dX13_raiseHalf_9 : decode cX13_raiseHalf 9 = .ok (.iload_n 1, 1) := by decide +kernel
theorem dX13_raiseHalf_10 : decode cX13_raiseHalf 10 = .ok (.iload_n 2, 1) := by decide +kernel
theorem dX13_raiseHalf_11 : decode cX13_raiseHalf 11 = .ok (.invokevirtual 415, 3) := by decide +kernel
theorem dX13_raiseHalf_14 : decode cX13_raiseHalf 14 = .ok (.aload_n 0, 1) := by decide +kernel
theorem dX13_raiseHalf_15 : decode cX13_raiseHalf 15 = .ok (.iload_n 3, 1) := by decide +kernel
theorem dX13_raiseHalf_16 : decode cX13_raiseHalf 16 = .ok (.putfield 412, 3) := by decide +kernel
theorem dX13_raiseHalf_19 : decode cX13_raiseHalf 19 = .ok (.aload_n 0, 1) := by decide +kernel
theorem dX13_raiseHalf_20 : decode cX13_raiseHalf 20 = .ok (.aload_n 0, 1) := by decide +kernel
theorem dX13_raiseHalf_21 : decode cX13_raiseHalf 21 = .ok (.iload_n 3, 1) := by decide +kernel
theorem dX13_raiseHalf_22 : decode cX13_raiseHalf 22 = .ok (.invokevirtual 374, 3) := by decide +kernel
theorem dX13_raiseHalf_25 : decode cX13_raiseHalf 25 = .ok (.putfield 418, 3) := by decide +kernel
theorem dX13_raiseHalf_28 : decode cX13_raiseHalf 28 = .ok (.return_, 1) := by decide +kernel
theorem dX13_addressOf_0 : decode cX13_addressOf 0 = .ok (.iconst 2, 1) := by decide +kernel
theorem dX13_addressOf_1 : decode cX13_addressOf 1 = .ok (.iload_n 1, 1) := by decide +kernel
theorem dX13_addressOf_2 : decode cX13_addressOf 2 = .ok (.imul, 1) := by decide +kernel
theorem dX13_addressOf_3 : decode cX13_addressOf 3 = .ok (.iload_n 2, 1) := by decide +kernel
theorem dX13_addressOf_4 : decode cX13_addressOf 4 = .ok (.iadd, 1) := by decide +kernel
theorem dX13_addressOf_5 : decode cX13_addressOf 5 = .ok (.istore_n 3, 1) := by decide +kernel
theorem dX13_addressOf_6 : decode cX13_addressOf 6 = .ok (.aload_n 0, 1) := by decide +kernel
theorem dX13_addressOf_7 : decode cX13_addressOf 7 = .ok (.getfield 86, 3) := by decide +kernel
theorem dX13_addressOf_10 : decode cX13_addressOf 10 = .ok (.iload_n 3, 1) := by decide +kernel
theorem dX13_addressOf_11 : decode cX13_addressOf 11 = .ok (.iaload, 1) := by decide +kernel
theorem dX13_addressOf_12 : decode cX13_addressOf 12 = .ok (.aload_n 0, 1) := by decide +kernel
theorem dX13_addressOf_13 : decode cX13_addressOf 13 = .ok (.getfield 89, 3) := by decide +kernel
theorem dX13_addressOf_16 : decode cX13_addressOf 16 = .ok (.iload_n 3, 1) := by decide +kernel
theorem dX13_addressOf_17 : decode cX13_addressOf 17 = .ok (.iaload, 1) := by decide +kernel
theorem dX13_addressOf_18 : decode cX13_addressOf 18 = .ok (.iconst (-1), 1) := by decide +kernel
theorem dX13_addressOf_19 : decode cX13_addressOf 19 = .ok (.if_icmp .ne 7, 3) := by decide +kernel
theorem dX13_addressOf_22 : decode cX13_addressOf 22 = .ok (.iconst 0, 1) := by decide +kernel
theorem dX13_addressOf_23 : decode cX13_addressOf 23 = .ok (.goto 18, 3) := by decide +kernel
theorem dX13_addressOf_26 : decode cX13_addressOf 26 = .ok (.aload_n 0, 1) := by decide +kernel
theorem dX13_addressOf_27 : decode cX13_addressOf 27 = .ok (.getfield 76, 3) := by decide +kernel
theorem dX13_addressOf_30 : decode cX13_addressOf 30 = .ok (.sipush 256, 3) := by decide +kernel
theorem dX13_addressOf_33 : decode cX13_addressOf 33 = .ok (.aload_n 0, 1) := by decide +kernel
theorem dX13_addressOf_34 : decode cX13_addressOf 34 = .ok (.getfield 89, 3) := by decide +kernel
theorem dX13_addressOf_37 : decode cX13_addressOf 37 = .ok (.iload_n 3, 1) := by decide +kernel
theorem dX13_addressOf_38 : decode cX13_addressOf 38 = .ok (.iaload, 1) := by decide +kernel
theorem dX13_addressOf_39 : decode cX13_addressOf 39 = .ok (.iadd, 1) := by decide +kernel
theorem dX13_addressOf_40 : decode cX13_addressOf 40 = .ok (.iaload, 1) := by decide +kernel
theorem dX13_addressOf_41 : decode cX13_addressOf 41 = .ok (.iadd, 1) := by decide +kernel
theorem dX13_addressOf_42 : decode cX13_addressOf 42 = .ok (.ireturn, 1) := by decide +kernel
theorem dX13_isEditing_0 : decode cX13_isEditing 0 = .ok (.iload_n 0, 1) := by decide +kernel
theorem dX13_isEditing_1 : decode cX13_isEditing 1 = .ok (.bipush 12, 2) := by decide +kernel
theorem dX13_isEditing_3 : decode cX13_isEditing 3 = .ok (.if_icmp .eq 9, 3) := by decide +kernel
theorem dX13_isEditing_6 : decode cX13_isEditing 6 = .ok (.iload_n 0, 1) := by decide +kernel
theorem dX13_isEditing_7 : decode cX13_isEditing 7 = .ok (.bipush 13, 2) := by decide +kernel
theorem dX13_isEditing_9 : decode cX13_isEditing 9 = .ok (.if_icmp .ne 7, 3) := by decide +kernel
theorem dX13_isEditing_12 : decode cX13_isEditing 12 = .ok (.iconst 1, 1) := by decide +kernel
theorem dX13_isEditing_13 : decode cX13_isEditing 13 = .ok (.goto 4, 3) := by decide +kernel
theorem dX13_isEditing_16 : decode cX13_isEditing 16 = .ok (.iconst 0, 1) := by decide +kernel
theorem dX13_isEditing_17 : decode cX13_isEditing 17 = .ok (.ireturn, 1) := by decide +kernel
theorem dX13_isTwofold_0 : decode cX13_isTwofold 0 = .ok (.iload_n 0, 1) := by decide +kernel
theorem dX13_isTwofold_1 : decode cX13_isTwofold 1 = .ok (.bipush 13, 2) := by decide +kernel
theorem dX13_isTwofold_3 : decode cX13_isTwofold 3 = .ok (.if_icmp .gt 7, 3) := by decide +kernel
theorem dX13_isTwofold_6 : decode cX13_isTwofold 6 = .ok (.iconst 1, 1) := by decide +kernel
theorem dX13_isTwofold_7 : decode cX13_isTwofold 7 = .ok (.goto 4, 3) := by decide +kernel
theorem dX13_isTwofold_10 : decode cX13_isTwofold 10 = .ok (.iconst 0, 1) := by decide +kernel
theorem dX13_isTwofold_11 : decode cX13_isTwofold 11 = .ok (.ireturn, 1) := by decide +kernel
theorem dX13_findOperands_0 : decode cX13_findOperands 0 = .ok (.aload_n 0, 1) := by decide +kernel
theorem dX13_findOperands_1 : decode cX13_findOperands 1 = .ok (.iload_n 2, 1) := by decide +kernel
theorem dX13_findOperands_2 : decode cX13_findOperands 2 = .ok (.bipush 17, 2) := by decide +kernel
theorem dX13_findOperands_4 : decode cX13_findOperands 4 = .ok (.if_icmp .gt 12, 3) := by decide +kernel
theorem dX13_findOperands_7 : decode cX13_findOperands 7 = .ok (.aload_n 0, 1) := by decide +kernel
theorem dX13_findOperands_8 : decode cX13_findOperands 8 = .ok (.iload_n 1, 1) := by decide +kernel
theorem dX13_findOperands_9 : decode cX13_findOperands 9 = .ok (.iconst 0, 1) := by decide +kernel
theorem dX13_findOperands_10 : decode cX13_findOperands 10 = .ok (.invokevirtual 421, 3) := by decide +kernel
theorem dX13_findOperands_13 : decode cX13_findOperands 13 = .ok (.goto 4, 3) := by decide +kernel
theorem dX13_findOperands_16 : decode cX13_findOperands 16 = .ok (.iconst 0, 1) := by decide +kernel
theorem dX13_findOperands_17 : decode cX13_findOperands 17 = .ok (.putfield 394, 3) := by decide +kernel
theorem dX13_findOperands_20 : decode cX13_findOperands 20 = .ok (.aload_n 0, 1) := by decide +kernel
theorem dX13_findOperands_21 : decode cX13_findOperands 21 = .ok (.iload_n 2, 1) := by decide +kernel
theorem dX13_findOperands_22 : decode cX13_findOperands 22 = .ok (.bipush 16, 2) := by decide +kernel
theorem dX13_findOperands_24 : decode cX13_findOperands 24 = .ok (.if_icmp .eq 9, 3) := by decide +kernel
theorem dX13_findOperands_27 : decode cX13_findOperands 27 = .ok (.iload_n 2, 1) := by decide +kernel
theorem dX13_findOperands_28 : decode cX13_findOperands 28 = .ok (.bipush 17, 2) := by decide +kernel
theorem dX13_findOperands_30 : decode cX13_findOperands 30 = .ok (.if_icmp .ne 8, 3) := by decide +kernel
theorem dX13_findOperands_33 : decode cX13_findOperands 33 = .ok (.bipush 8, 2) := by decide +kernel
theorem dX13_findOperands_35 : decode cX13_findOperands 35 = .ok (.goto 11, 3) := by decide +kernel
theorem dX13_findOperands_38 : decode cX13_findOperands 38 = .ok (.aload_n 0, 1) := by decide +kernel
theorem dX13_findOperands_39 : decode cX13_findOperands 39 = .ok (.getfield 92, 3) := by decide +kernel
theorem dX13_findOperands_42 : decode cX13_findOperands 42 = .ok (.iconst 2, 1) := by decide +kernel
theorem dX13_findOperands_43 : decode cX13_findOperands 43 = .ok (.iload_n 1, 1) := by decide +kernel
theorem dX13_findOperands_44 : decode cX13_findOperands 44 = .ok (.imul, 1) := by decide +kernel
theorem dX13_findOperands_45 : decode cX13_findOperands 45 = .ok (.iaload, 1) := by decide +kernel
theorem dX13_findOperands_46 : decode cX13_findOperands 46 = .ok (.putfield 403, 3) := by decide +kernel
theorem dX13_findOperands_49 : decode cX13_findOperands 49 = .ok (.aload_n 0, 1) := by decide +kernel
theorem dX13_findOperands_50 : decode cX13_findOperands 50 = .ok (.iload_n 2, 1) := by decide +kernel
theorem dX13_findOperands_51 : decode cX13_findOperands 51 = .ok (.invokestatic 424, 3) := by decide +kernel
theorem dX13_findOperands_54 : decode cX13_findOperands 54 = .ok (.ifCond .eq 12, 3) := by decide +kernel
theorem dX13_findOperands_57 : decode cX13_findOperands 57 = .ok (.aload_n 0, 1) := by decide +kernel
theorem dX13_findOperands_58 : decode cX13_findOperands 58 = .ok (.iload_n 1, 1) := by decide +kernel
theorem dX13_findOperands_59 : decode cX13_findOperands 59 = .ok (.iconst 1, 1) := by decide +kernel
theorem dX13_findOperands_60 : decode cX13_findOperands 60 = .ok (.invokevirtual 421, 3) := by decide +kernel
theorem dX13_findOperands_63 : decode cX13_findOperands 63 = .ok (.goto 4, 3) := by decide +kernel
theorem dX13_findOperands_66 : decode cX13_findOperands 66 = .ok (.iconst 0, 1) := by decide +kernel
theorem dX13_findOperands_67 : decode cX13_findOperands 67 = .ok (.putfield 397, 3) := by decide +kernel
theorem dX13_findOperands_70 : decode cX13_findOperands 70 = .ok (.aload_n 0, 1) := by decide +kernel
theorem dX13_findOperands_71 : decode cX13_findOperands 71 = .ok (.iload_n 2, 1) := by decide +kernel
theorem dX13_findOperands_72 : decode cX13_findOperands 72 = .ok (.bipush 8, 2) := by decide +kernel
theorem dX13_findOperands_74 : decode cX13_findOperands 74 = .ok (.if_icmp .gt 16, 3) := by decide +kernel
theorem dX13_findOperands_77 : decode cX13_findOperands 77 = .ok (.aload_n 0, 1) := by decide +kernel
theorem dX13_findOperands_78 : decode cX13_findOperands 78 = .ok (.getfield 92, 3) := by decide +kernel
theorem dX13_findOperands_81 : decode cX13_findOperands 81 = .ok (.iconst 2, 1) := by decide +kernel
theorem dX13_findOperands_82 : decode cX13_findOperands 82 = .ok (.iload_n 1, 1) := by decide +kernel
theorem dX13_findOperands_83 : decode cX13_findOperands 83 = .ok (.imul, 1) := by decide +kernel
theorem dX13_findOperands_84 : decode cX13_findOperands 84 = .ok (.iconst 1, 1) := by decide +kernel
theorem dX13_findOperands_85 : decode cX13_findOperands 85 = .ok (.iadd, 1) := by decide +kernel
theorem dX13_findOperands_86 : decode cX13_findOperands 86 = .ok (.iaload, 1) := by decide +kernel
theorem dX13_findOperands_87 : decode cX13_findOperands 87 = .ok (.goto 7, 3) := by decide +kernel
