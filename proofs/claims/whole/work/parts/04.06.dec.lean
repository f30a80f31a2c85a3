theorem dX13_findOperands_90 : decode cX13_findOperands 90 = .ok (.aload_n 0, 1) := by decide +kernel
theorem dX13_findOperands_91 : decode cX13_findOperands 91 = .ok (.getfield 403, 3) := by decide +kernel
theorem dX13_findOperands_94 : decode cX13_findOperands 94 = .ok (.putfield 406, 3) := by decide +kernel
theorem dX13_findOperands_97 : decode cX13_findOperands 97 = .ok (.iload_n 2, 1) := by decide +kernel
theorem dX13_findOperands_98 : decode cX13_findOperands 98 = .ok (.bipush 17, 2) := by decide +kernel
theorem dX13_findOperands_100 : decode cX13_findOperands 100 = .ok (.if_icmp .gt 23, 3) := by decide +kernel
theorem dX13_findOperands_103 : decode cX13_findOperands 103 = .ok (.aload_n 0, 1) := by decide +kernel
theorem dX13_findOperands_104 : decode cX13_findOperands 104 = .ok (.getfield 394, 3) := by decide +kernel
theorem dX13_findOperands_107 : decode cX13_findOperands 107 = .ok (.aload_n 0, 1) := by decide +kernel
theorem dX13_findOperands_108 : decode cX13_findOperands 108 = .ok (.getfield 403, 3) := by decide +kernel
theorem dX13_findOperands_111 : decode cX13_findOperands 111 = .ok (.invokestatic 427, 3) := by decide +kernel
theorem dX13_findOperands_114 : decode cX13_findOperands 114 = .ok (.ifCond .ne 9, 3) := by decide +kernel
theorem dX13_findOperands_117 : decode cX13_findOperands 117 = .ok (.aload_n 0, 1) := by decide +kernel
theorem dX13_findOperands_118 : decode cX13_findOperands 118 = .ok (.iconst 1, 1) := by decide +kernel
theorem dX13_findOperands_119 : decode cX13_findOperands 119 = .ok (.iconst 0, 1) := by decide +kernel
theorem dX13_findOperands_120 : decode cX13_findOperands 120 = .ok (.invokevirtual 415, 3) := by decide +kernel
theorem dX13_findOperands_123 : decode cX13_findOperands 123 = .ok (.iload_n 2, 1) := by decide +kernel
theorem dX13_findOperands_124 : decode cX13_findOperands 124 = .ok (.invokestatic 424, 3) := by decide +kernel
theorem dX13_findOperands_127 : decode cX13_findOperands 127 = .ok (.ifCond .eq 30, 3) := by decide +kernel
theorem dX13_findOperands_130 : decode cX13_findOperands 130 = .ok (.iload_n 2, 1) := by decide +kernel
theorem dX13_findOperands_131 : decode cX13_findOperands 131 = .ok (.invokestatic 431, 3) := by decide +kernel
theorem dX13_findOperands_134 : decode cX13_findOperands 134 = .ok (.ifCond .ne 23, 3) := by decide +kernel
theorem dX13_findOperands_137 : decode cX13_findOperands 137 = .ok (.aload_n 0, 1) := by decide +kernel
theorem dX13_findOperands_138 : decode cX13_findOperands 138 = .ok (.getfield 397, 3) := by decide +kernel
theorem dX13_findOperands_141 : decode cX13_findOperands 141 = .ok (.aload_n 0, 1) := by decide +kernel
theorem dX13_findOperands_142 : decode cX13_findOperands 142 = .ok (.getfield 406, 3) := by decide +kernel
theorem dX13_findOperands_145 : decode cX13_findOperands 145 = .ok (.invokestatic 427, 3) := by decide +kernel
theorem dX13_findOperands_148 : decode cX13_findOperands 148 = .ok (.ifCond .ne 9, 3) := by decide +kernel
theorem dX13_findOperands_151 : decode cX13_findOperands 151 = .ok (.aload_n 0, 1) := by decide +kernel
theorem dX13_findOperands_152 : decode cX13_findOperands 152 = .ok (.iconst 1, 1) := by decide +kernel
theorem dX13_findOperands_153 : decode cX13_findOperands 153 = .ok (.iconst 1, 1) := by decide +kernel
theorem dX13_findOperands_154 : decode cX13_findOperands 154 = .ok (.invokevirtual 415, 3) := by decide +kernel
theorem dX13_findOperands_157 : decode cX13_findOperands 157 = .ok (.return_, 1) := by decide +kernel
theorem dX13_doMeet_0 : decode cX13_doMeet 0 = .ok (.aload_n 0, 1) := by decide +kernel
theorem dX13_doMeet_1 : decode cX13_doMeet 1 = .ok (.getfield 394, 3) := by decide +kernel
theorem dX13_doMeet_4 : decode cX13_doMeet 4 = .ok (.aload_n 0, 1) := by decide +kernel
theorem dX13_doMeet_5 : decode cX13_doMeet 5 = .ok (.getfield 397, 3) := by decide +kernel
theorem dX13_doMeet_8 : decode cX13_doMeet 8 = .ok (.aload_n 0, 1) := by decide +kernel
theorem dX13_doMeet_9 : decode cX13_doMeet 9 = .ok (.getfield 406, 3) := by decide +kernel
theorem dX13_doMeet_12 : decode cX13_doMeet 12 = .ok (.iadd, 1) := by decide +kernel
theorem dX13_doMeet_13 : decode cX13_doMeet 13 = .ok (.if_icmp .ge 23, 3) := by decide +kernel
theorem dX13_doMeet_16 : decode cX13_doMeet 16 = .ok (.aload_n 0, 1) := by decide +kernel
theorem dX13_doMeet_17 : decode cX13_doMeet 17 = .ok (.getfield 397, 3) := by decide +kernel
theorem dX13_doMeet_20 : decode cX13_doMeet 20 = .ok (.aload_n 0, 1) := by decide +kernel
theorem dX13_doMeet_21 : decode cX13_doMeet 21 = .ok (.getfield 394, 3) := by decide +kernel
theorem dX13_doMeet_24 : decode cX13_doMeet 24 = .ok (.aload_n 0, 1) := by decide +kernel
theorem dX13_doMeet_25 : decode cX13_doMeet 25 = .ok (.getfield 403, 3) := by decide +kernel
theorem dX13_doMeet_28 : decode cX13_doMeet 28 = .ok (.iadd, 1) := by decide +kernel
theorem dX13_doMeet_29 : decode cX13_doMeet 29 = .ok (.if_icmp .ge 7, 3) := by decide +kernel
theorem dX13_doMeet_32 : decode cX13_doMeet 32 = .ok (.iconst 1, 1) := by decide +kernel
theorem dX13_doMeet_33 : decode cX13_doMeet 33 = .ok (.goto 4, 3) := by decide +kernel
theorem dX13_doMeet_36 : decode cX13_doMeet 36 = .ok (.iconst 0, 1) := by decide +kernel
theorem dX13_doMeet_37 : decode cX13_doMeet 37 = .ok (.ireturn, 1) := by decide +kernel
theorem dX13_checkPacked_0 : decode cX13_checkPacked 0 = .ok (.aload_n 0, 1) := by decide +kernel
theorem dX13_checkPacked_1 : decode cX13_checkPacked 1 = .ok (.getfield 388, 3) := by decide +kernel
theorem dX13_checkPacked_4 : decode cX13_checkPacked 4 = .ok (.ifCond .eq 4, 3) := by decide +kernel
theorem dX13_checkPacked_7 : decode cX13_checkPacked 7 = .ok (.return_, 1) := by decide +kernel
theorem dX13_checkPacked_8 : decode cX13_checkPacked 8 = .ok (.iload_n 1, 1) := by decide +kernel
theorem dX13_checkPacked_9 : decode cX13_checkPacked 9 = .ok (.ifCond .ne 18, 3) := by decide +kernel
theorem dX13_checkPacked_12 : decode cX13_checkPacked 12 = .ok (.aload_n 0, 1) := by decide +kernel
theorem dX13_checkPacked_13 : decode cX13_checkPacked 13 = .ok (.aload_n 0, 1) := by decide +kernel
theorem dX13_checkPacked_14 : decode cX13_checkPacked 14 = .ok (.getfield 394, 3) := by decide +kernel
theorem dX13_checkPacked_17 : decode cX13_checkPacked 17 = .ok (.aload_n 0, 1) := by decide +kernel
theorem dX13_checkPacked_18 : decode cX13_checkPacked 18 = .ok (.getfield 403, 3) := by decide +kernel
theorem dX13_checkPacked_21 : decode cX13_checkPacked 21 = .ok (.invokevirtual 434, 3) := by decide +kernel
theorem dX13_checkPacked_24 : decode cX13_checkPacked 24 = .ok (.goto 15, 3) := by decide +kernel
theorem dX13_checkPacked_27 : decode cX13_checkPacked 27 = .ok (.aload_n 0, 1) := by decide +kernel
theorem dX13_checkPacked_28 : decode cX13_checkPacked 28 = .ok (.aload_n 0, 1) := by decide +kernel
theorem dX13_checkPacked_29 : decode cX13_checkPacked 29 = .ok (.getfield 397, 3) := by decide +kernel
theorem dX13_checkPacked_32 : decode cX13_checkPacked 32 = .ok (.aload_n 0, 1) := by decide +kernel
theorem dX13_checkPacked_33 : decode cX13_checkPacked 33 = .ok (.getfield 406, 3) := by decide +kernel
theorem dX13_checkPacked_36 : decode cX13_checkPacked 36 = .ok (.invokevirtual 434, 3) := by decide +kernel
theorem dX13_checkPacked_39 : decode cX13_checkPacked 39 = .ok (.istore_n 2, 1) := by decide +kernel
theorem dX13_checkPacked_40 : decode cX13_checkPacked 40 = .ok (.iload_n 2, 1) := by decide +kernel
theorem dX13_checkPacked_41 : decode cX13_checkPacked 41 = .ok (.iconst (-1), 1) := by decide +kernel
theorem dX13_checkPacked_42 : decode cX13_checkPacked 42 = .ok (.if_icmp .eq 10, 3) := by decide +kernel
theorem dX13_checkPacked_45 : decode cX13_checkPacked 45 = .ok (.aload_n 0, 1) := by decide +kernel
theorem dX13_checkPacked_46 : decode cX13_checkPacked 46 = .ok (.iconst 4, 1) := by decide +kernel
theorem dX13_checkPacked_47 : decode cX13_checkPacked 47 = .ok (.iload_n 1, 1) := by decide +kernel
theorem dX13_checkPacked_48 : decode cX13_checkPacked 48 = .ok (.iload_n 2, 1) := by decide +kernel
theorem dX13_checkPacked_49 : decode cX13_checkPacked 49 = .ok (.invokevirtual 437, 3) := by decide +kernel
theorem dX13_checkPacked_52 : decode cX13_checkPacked 52 = .ok (.return_, 1) := by decide +kernel
theorem dX13_check_0 : decode cX13_check 0 = .ok (.aload_n 0, 1) := by decide +kernel
theorem dX13_check_1 : decode cX13_check 1 = .ok (.getfield 388, 3) := by decide +kernel
theorem dX13_check_4 : decode cX13_check 4 = .ok (.ifCond .eq 4, 3) := by decide +kernel
theorem dX13_check_7 : decode cX13_check 7 = .ok (.return_, 1) := by decide +kernel
theorem dX13_check_8 : decode cX13_check 8 = .ok (.iload_n 1, 1) := by decide +kernel
theorem dX13_check_9 : decode cX13_check 9 = .ok (.bipush 7, 2) := by decide +kernel
theorem dX13_check_11 : decode cX13_check 11 = .ok (.if_icmp .eq 9, 3) := by decide +kernel
theorem dX13_check_14 : decode cX13_check 14 = .ok (.iload_n 1, 1) := by decide +kernel
theorem dX13_check_15 : decode cX13_check 15 = .ok (.bipush 8, 2) := by decide +kernel
theorem dX13_check_17 : decode cX13_check 17 = .ok (.if_icmp .ne 29, 3) := by decide +kernel
theorem dX13_check_20 : decode cX13_check 20 = .ok (.aload_n 0, 1) := by decide +kernel
theorem dX13_check_21 : decode cX13_check 21 = .ok (.getfield 406, 3) := by decide +kernel
theorem dX13_check_24 : decode cX13_check 24 = .ok (.bipush 8, 2) := by decide +kernel
theorem dX13_check_26 : decode cX13_check 26 = .ok (.if_icmp .gt 14, 3) := by decide +kernel
theorem dX13_check_29 : decode cX13_check 29 = .ok (.aload_n 0, 1) := by decide +kernel
theorem dX13_check_30 : decode cX13_check 30 = .ok (.getfield 406, 3) := by decide +kernel
theorem dX13_check_33 : decode cX13_check 33 = .ok (.aload_n 0, 1) := by decide +kernel
theorem dX13_check_34 : decode cX13_check 34 = .ok (.getfield 403, 3) := by decide +kernel
theorem dX13_check_37 : decode cX13_check 37 = .ok (.if_icmp .lt 9, 3) := by decide +kernel
theorem dX13_check_40 : decode cX13_check 40 = .ok (.aload_n 0, 1) := by decide +kernel
theorem dX13_check_41 : decode cX13_check 41 = .ok (.iconst 2, 1) := by decide +kernel
theorem dX13_check_42 : decode cX13_check 42 = .ok (.iconst 1, 1) := by decide +kernel
theorem dX13_check_43 : decode cX13_check 43 = .ok (.invokevirtual 415, 3) := by decide +kernel
theorem dX13_check_46 : decode cX13_check 46 = .ok (.aload_n 0, 1) := by decide +kernel
theorem dX13_check_47 : decode cX13_check 47 = .ok (.getfield 394, 3) := by decide +kernel
theorem dX13_check_50 : decode cX13_check 50 = .ok (.aload_n 0, 1) := by decide +kernel
theorem dX13_check_51 : decode cX13_check 51 = .ok (.getfield 403, 3) := by decide +kernel
theorem dX13_check_54 : decode cX13_check 54 = .ok (.iadd, 1) := by decide +kernel
theorem dX13_check_55 : decode cX13_check 55 = .ok (.aload_n 0, 1) := by decide +kernel
theorem dX13_check_56 : decode cX13_check 56 = .ok (.getfield 397, 3) := by decide +kernel
theorem dX13_check_59 : decode cX13_check 59 = .ok (.aload_n 0, 1) := by decide +kernel
theorem dX13_check_60 : decode cX13_check 60 = .ok (.getfield 406, 3) := by decide +kernel
theorem dX13_check_63 : decode cX13_check 63 = .ok (.iadd, 1) := by decide +kernel
theorem dX13_check_64 : decode cX13_check 64 = .ok (.if_icmp .ne 7, 3) := by decide +kernel
theorem dX13_check_67 : decode cX13_check 67 = .ok (.iconst 1, 1) := by decide +kernel
theorem dX13_check_68 : decode cX13_check 68 = .ok (.goto 4, 3) := by decide +kernel
theorem dX13_check_71 : decode cX13_check 71 = .ok (.iconst 0, 1) := by decide +kernel
theorem dX13_check_72 : decode cX13_check 72 = .ok (.istore_n 2, 1) := by decide +kernel
theorem dX13_check_73 : decode cX13_check 73 = .ok (.iload_n 1, 1) := by decide +kernel
theorem dX13_check_74 : decode cX13_check 74 = .ok (.iconst 4, 1) := by decide +kernel
theorem dX13_check_75 : decode cX13_check 75 = .ok (.if_icmp .eq 20, 3) := by decide +kernel
theorem dX13_check_78 : decode cX13_check 78 = .ok (.iload_n 1, 1) := by decide +kernel
theorem dX13_check_79 : decode cX13_check 79 = .ok (.iconst 5, 1) := by decide +kernel
theorem dX13_check_80 : decode cX13_check 80 = .ok (.if_icmp .eq 15, 3) := by decide +kernel
theorem dX13_check_83 : decode cX13_check 83 = .ok (.iload_n 1, 1) := by decide +kernel
theorem dX13_check_84 : decode cX13_check 84 = .ok (.bipush 7, 2) := by decide +kernel
theorem dX13_check_86 : decode cX13_check 86 = .ok (.if_icmp .eq 9, 3) := by decide +kernel
theorem dX13_check_89 : decode cX13_check 89 = .ok (.iload_n 1, 1) := by decide +kernel
theorem dX13_check_90 : decode cX13_check 90 = .ok (.bipush 8, 2) := by decide +kernel
theorem dX13_check_92 : decode cX13_check 92 = .ok (.if_icmp .ne 20, 3) := by decide +kernel
theorem dX13_check_95 : decode cX13_check 95 = .ok (.aload_n 0, 1) := by decide +kernel
theorem dX13_check_96 : decode cX13_check 96 = .ok (.invokevirtual 441, 3) := by decide +kernel
theorem dX13_check_99 : decode cX13_check 99 = .ok (.ifCond .eq 13, 3) := by decide +kernel
theorem dX13_check_102 : decode cX13_check 102 = .ok (.iload_n 2, 1) := by decide +kernel
theorem dX13_check_103 : decode cX13_check 103 = .ok (.ifCond .ne 9, 3) := by decide +kernel
theorem dX13_check_106 : decode cX13_check 106 = .ok (.aload_n 0, 1) := by decide +kernel
theorem dX13_check_107 : decode cX13_check 107 = .ok (.iconst 3, 1) := by decide +kernel
theorem dX13_check_108 : decode cX13_check 108 = .ok (.iconst 1, 1) := by decide +kernel
theorem dX13_check_109 : decode cX13_check 109 = .ok (.invokevirtual 415, 3) := by decide +kernel
theorem dX13_check_112 : decode cX13_check 112 = .ok (.iload_n 1, 1) := by decide +kernel
theorem dX13_check_113 : decode cX13_check 113 = .ok (.iconst 3, 1) := by decide +kernel
theorem dX13_check_114 : decode cX13_check 114 = .ok (.if_icmp .ne 37, 3) := by decide +kernel
theorem dX13_check_117 : decode cX13_check 117 = .ok (.aload_n 0, 1) := by decide +kernel
theorem dX13_check_118 : decode cX13_check 118 = .ok (.invokevirtual 441, 3) := by decide +kernel
theorem dX13_check_121 : decode cX13_check 121 = .ok (.ifCond .eq 30, 3) := by decide +kernel
theorem dX13_check_124 : decode cX13_check 124 = .ok (.aload_n 0, 1) := by decide +kernel
theorem dX13_check_125 : decode cX13_check 125 = .ok (.getfield 394, 3) := by decide +kernel
theorem dX13_check_128 : decode cX13_check 128 = .ok (.aload_n 0, 1) := by decide +kernel
theorem dX13_check_129 : decode cX13_check 129 = .ok (.getfield 403, 3) := by decide +kernel
theorem dX13_check_132 : decode cX13_check 132 = .ok (.iadd, 1) := by decide +kernel
theorem dX13_check_133 : decode cX13_check 133 = .ok (.aload_n 0, 1) := by decide +kernel
theorem dX13_check_134 : decode cX13_check 134 = .ok (.getfield 397, 3) := by decide +kernel
theorem dX13_check_137 : decode cX13_check 137 = .ok (.aload_n 0, 1) := by decide +kernel
theorem dX13_check_138 : decode cX13_check 138 = .ok (.getfield 406, 3) := by decide +kernel
theorem dX13_check_141 : decode cX13_check 141 = .ok (.iadd, 1) := by decide +kernel
theorem dX13_check_142 : decode cX13_check 142 = .ok (.if_icmp .ge 9, 3) := by decide +kernel
theorem dX13_check_145 : decode cX13_check 145 = .ok (.aload_n 0, 1) := by decide +kernel
theorem dX13_check_146 : decode cX13_check 146 = .ok (.iconst 3, 1) := by decide +kernel
theorem dX13_check_147 : decode cX13_check 147 = .ok (.iconst 1, 1) := by decide +kernel
theorem dX13_check_148 : decode cX13_check 148 = .ok (.invokevirtual 415, 3) := by decide +kernel
theorem dX13_check_151 : decode cX13_check 151 = .ok (.iload_n 1, 1) := by decide +kernel
theorem dX13_check_152 : decode cX13_check 152 = .ok (.i2l, 1) := by decide +kernel
theorem dX13_check_153 : decode cX13_check 153 = .ok (.ldc2_w 444, 3) := by decide +kernel
theorem dX13_check_156 : decode cX13_check 156 = .ok (.ldc2_w 446, 3) := by decide +kernel
theorem dX13_check_159 : decode cX13_check 159 = .ok (.invokestatic 287, 3) := by decide +kernel
theorem dX13_check_162 : decode cX13_check 162 = .ok (.ifCond .ne 15, 3) := by decide +kernel
theorem dX13_check_165 : decode cX13_check 165 = .ok (.iload_n 1, 1) := by decide +kernel
theorem dX13_check_166 : decode cX13_check 166 = .ok (.bipush 14, 2) := by decide +kernel
theorem dX13_check_168 : decode cX13_check 168 = .ok (.if_icmp .eq 9, 3) := by decide +kernel
theorem dX13_check_171 : decode cX13_check 171 = .ok (.iload_n 1, 1) := by decide +kernel
theorem dX13_check_172 : decode cX13_check 172 = .ok (.bipush 16, 2) := by decide +kernel
theorem dX13_check_174 : decode cX13_check 174 = .ok (.if_icmp .ne 8, 3) := by decide +kernel
theorem dX13_check_177 : decode cX13_check 177 = .ok (.aload_n 0, 1) := by decide +kernel
theorem dX13_check_178 : decode cX13_check 178 = .ok (.iconst 0, 1) := by decide +kernel
theorem dX13_check_179 : decode cX13_check 179 = .ok (.invokevirtual 448, 3) := by decide +kernel
theorem dX13_check_182 : decode cX13_check 182 = .ok (.iload_n 1, 1) := by decide +kernel
theorem dX13_check_183 : decode cX13_check 183 = .ok (.i2l, 1) := by decide +kernel
theorem dX13_check_184 : decode cX13_check 184 = .ok (.ldc2_w 451, 3) := by decide +kernel
theorem dX13_check_187 : decode cX13_check 187 = .ok (.ldc2_w 446, 3) := by decide +kernel
theorem dX13_check_190 : decode cX13_check 190 = .ok (.invokestatic 287, 3) := by decide +kernel
theorem dX13_check_193 : decode cX13_check 193 = .ok (.ifCond .eq 8, 3) := by decide +kernel
theorem dX13_check_196 : decode cX13_check 196 = .ok (.aload_n 0, 1) := by decide +kernel
theorem dX13_check_197 : decode cX13_check 197 = .ok (.iconst 1, 1) := by decide +kernel
theorem dX13_check_198 : decode cX13_check 198 = .ok (.invokevirtual 448, 3) := by decide +kernel
theorem dX13_check_201 : decode cX13_check 201 = .ok (.iconst 2, 1) := by decide +kernel
theorem dX13_check_202 : decode cX13_check 202 = .ok (.aload_n 0, 1) := by decide +kernel
theorem dX13_check_203 : decode cX13_check 203 = .ok (.getfield 394, 3) := by decide +kernel
theorem dX13_check_206 : decode cX13_check 206 = .ok (.imul, 1) := by decide +kernel
theorem dX13_check_207 : decode cX13_check 207 = .ok (.istore_n 3, 1) := by decide +kernel
theorem dX13_check_208 : decode cX13_check 208 = .ok (.aload_n 0, 1) := by decide +kernel
theorem dX13_check_209 : decode cX13_check 209 = .ok (.getfield 388, 3) := by decide +kernel
theorem dX13_check_212 : decode cX13_check 212 = .ok (.ifCond .ne 45, 3) := by decide +kernel
theorem dX13_check_215 : decode cX13_check 215 = .ok (.iload_n 1, 1) := by decide +kernel
theorem dX13_check_216 : decode cX13_check 216 = .ok (.bipush 7, 2) := by decide +kernel
theorem dX13_check_218 : decode cX13_check 218 = .ok (.if_icmp .ne 39, 3) := by decide +kernel
theorem dX13_check_221 : decode cX13_check 221 = .ok (.iload_n 3, 1) := by decide +kernel
theorem dX13_check_222 : decode cX13_check 222 = .ok (.iconst 2, 1) := by decide +kernel
theorem dX13_check_223 : decode cX13_check 223 = .ok (.aload_n 0, 1) := by decide +kernel
theorem dX13_check_224 : decode cX13_check 224 = .ok (.getfield 394, 3) := by decide +kernel
theorem dX13_check_227 : decode cX13_check 227 = .ok (.aload_n 0, 1) := by decide +kernel
theorem dX13_check_228 : decode cX13_check 228 = .ok (.getfield 406, 3) := by decide +kernel
theorem dX13_check_231 : decode cX13_check 231 = .ok (.iadd, 1) := by decide +kernel
theorem dX13_check_232 : decode cX13_check 232 = .ok (.imul, 1) := by decide +kernel
theorem dX13_check_233 : decode cX13_check 233 = .ok (.if_icmp .ge 24, 3) := by decide +kernel
theorem dX13_check_236 : decode cX13_check 236 = .ok (.aload_n 0, 1) := by decide +kernel
theorem dX13_check_237 : decode cX13_check 237 = .ok (.iload_n 3, 1) := by decide +kernel
theorem dX13_check_238 : decode cX13_check 238 = .ok (.invokevirtual 374, 3) := by decide +kernel
theorem dX13_check_241 : decode cX13_check 241 = .ok (.ifCond .eq 10, 3) := by decide +kernel
theorem dX13_check_244 : decode cX13_check 244 = .ok (.aload_n 0, 1) := by decide +kernel
theorem dX13_check_245 : decode cX13_check 245 = .ok (.iconst 5, 1) := by decide +kernel
theorem dX13_check_246 : decode cX13_check 246 = .ok (.iconst 0, 1) := by decide +kernel
theorem dX13_check_247 : decode cX13_check 247 = .ok (.iload_n 3, 1) := by decide +kernel
theorem dX13_check_248 : decode cX13_check 248 = .ok (.invokevirtual 437, 3) := by decide +kernel
theorem dX13_check_251 : decode cX13_check 251 = .ok (.iinc 3 1, 3) := by decide +kernel
theorem dX13_check_254 : decode cX13_check 254 = .ok (.goto (-46), 3) := by decide +kernel
theorem dX13_check_257 : decode cX13_check 257 = .ok (.return_, 1) := by decide +kernel
theorem dX13_finish_0 : decode cX13_finish 0 = .ok (.aload_n 1, 1) := by decide +kernel
theorem dX13_finish_1 : decode cX13_finish 1 = .ok (.invokestatic 384, 3) := by decide +kernel
theorem dX13_finish_4 : decode cX13_finish 4 = .ok (.iconst 2, 1) := by decide +kernel
theorem dX13_finish_5 : decode cX13_finish 5 = .ok (.aload_n 0, 1) := by decide +kernel
theorem dX13_finish_6 : decode cX13_finish 6 = .ok (.getfield 403, 3) := by decide +kernel
theorem dX13_finish_9 : decode cX13_finish 9 = .ok (.imul, 1) := by decide +kernel
theorem dX13_finish_10 : decode cX13_finish 10 = .ok (.iconst 1, 1) := by decide +kernel
theorem dX13_finish_11 : decode cX13_finish 11 = .ok (.isub, 1) := by decide +kernel
theorem dX13_finish_12 : decode cX13_finish 12 = .ok (.if_icmp .le 7, 3) := by decide +kernel
theorem dX13_finish_15 : decode cX13_finish 15 = .ok (.iconst 1, 1) := by decide +kernel
theorem dX13_finish_16 : decode cX13_finish 16 = .ok (.goto 4, 3) := by decide +kernel
theorem dX13_finish_19 : decode cX13_finish 19 = .ok (.iconst 0, 1) := by decide +kernel
theorem dX13_finish_20 : decode cX13_finish 20 = .ok (.istore_n 3, 1) := by decide +kernel
theorem dX13_finish_21 : decode cX13_finish 21 = .ok (.iload_n 2, 1) := by decide +kernel
theorem dX13_finish_22 : decode cX13_finish 22 = .ok (.ifCond .eq 14, 3) := by decide +kernel
theorem dX13_finish_25 : decode cX13_finish 25 = .ok (.aload_n 1, 1) := by decide +kernel
theorem dX13_finish_26 : decode cX13_finish 26 = .ok (.invokestatic 453, 3) := by decide +kernel
theorem dX13_finish_29 : decode cX13_finish 29 = .ok (.ifCond .ne 7, 3) := by decide +kernel
theorem dX13_finish_32 : decode cX13_finish 32 = .ok (.iconst 1, 1) := by decide +kernel
theorem dX13_finish_33 : decode cX13_finish 33 = .ok (.goto 4, 3) := by decide +kernel
theorem dX13_finish_36 : decode cX13_finish 36 = .ok (.iconst 0, 1) := by decide +kernel
theorem dX13_finish_37 : decode cX13_finish 37 = .ok (.istore 4, 2) := by decide +kernel
theorem dX13_finish_39 : decode cX13_finish 39 = .ok (.aload_n 0, 1) := by decide +kernel
theorem dX13_finish_40 : decode cX13_finish 40 = .ok (.getfield 76, 3) := by decide +kernel
theorem dX13_finish_43 : decode cX13_finish 43 = .ok (.sipush 264, 3) := by decide +kernel
theorem dX13_finish_46 : decode cX13_finish 46 = .ok (.iload_n 3, 1) := by decide +kernel
theorem dX13_finish_47 : decode cX13_finish 47 = .ok (.ifCond .eq 7, 3) := by decide +kernel
theorem dX13_finish_50 : decode cX13_finish 50 = .ok (.iconst 3, 1) := by decide +kernel
theorem dX13_finish_51 : decode cX13_finish 51 = .ok (.goto 24, 3) := by decide +kernel
theorem dX13_finish_54 : decode cX13_finish 54 = .ok (.aload_n 1, 1) := by decide +kernel
theorem dX13_finish_55 : decode cX13_finish 55 = .ok (.invokestatic 453, 3) := by decide +kernel
theorem dX13_finish_58 : decode cX13_finish 58 = .ok (.ifCond .eq 7, 3) := by decide +kernel
theorem dX13_finish_61 : decode cX13_finish 61 = .ok (.iconst 0, 1) := by decide +kernel
theorem dX13_finish_62 : decode cX13_finish 62 = .ok (.goto 13, 3) := by decide +kernel
theorem dX13_finish_65 : decode cX13_finish 65 = .ok (.iload 4, 2) := by decide +kernel
theorem dX13_finish_67 : decode cX13_finish 67 = .ok (.ifCond .eq 7, 3) := by decide +kernel
theorem dX13_finish_70 : decode cX13_finish 70 = .ok (.iconst 1, 1) := by decide +kernel
theorem dX13_finish_71 : decode cX13_finish 71 = .ok (.goto 4, 3) := by decide +kernel
theorem dX13_finish_74 : decode cX13_finish 74 = .ok (.iconst 2, 1) := by decide +kernel
theorem dX13_finish_75 : decode cX13_finish 75 = .ok (.iastore, 1) := by decide +kernel
theorem dX13_finish_76 : decode cX13_finish 76 = .ok (.aload_n 0, 1) := by decide +kernel
theorem dX13_finish_77 : decode cX13_finish 77 = .ok (.aload_n 0, 1) := by decide +kernel
theorem dX13_finish_78 : decode cX13_finish 78 = .ok (.getfield 394, 3) := by decide +kernel
theorem dX13_finish_81 : decode cX13_finish 81 = .ok (.aload_n 0, 1) := by decide +kernel
theorem dX13_finish_82 : decode cX13_finish 82 = .ok (.getfield 403, 3) := by decide +kernel
theorem dX13_finish_85 : decode cX13_finish 85 = .ok (.aload_n 1, 1) := by decide +kernel
theorem dX13_finish_86 : decode cX13_finish 86 = .ok (.iload 4, 2) := by decide +kernel
theorem dX13_finish_88 : decode cX13_finish 88 = .ok (.invokevirtual 457, 3) := by decide +kernel
theorem dX13_finish_91 : decode cX13_finish 91 = .ok (.iload_n 3, 1) := by decide +kernel
theorem dX13_finish_92 : decode cX13_finish 92 = .ok (.ifCond .eq 22, 3) := by decide +kernel
theorem dX13_finish_95 : decode cX13_finish 95 = .ok (.aload_n 0, 1) := by decide +kernel
theorem dX13_finish_96 : decode cX13_finish 96 = .ok (.getfield 76, 3) := by decide +kernel
theorem dX13_finish_99 : decode cX13_finish 99 = .ok (.sipush 273, 3) := by decide +kernel
theorem dX13_finish_102 : decode cX13_finish 102 = .ok (.iaload, 1) := by decide +kernel
theorem dX13_finish_103 : decode cX13_finish 103 = .ok (.iconst (-1), 1) := by decide +kernel
theorem dX13_finish_104 : decode cX13_finish 104 = .ok (.if_icmp .eq 10, 3) := by decide +kernel
theorem dX13_finish_107 : decode cX13_finish 107 = .ok (.aload_n 0, 1) := by decide +kernel
theorem dX13_finish_108 : decode cX13_finish 108 = .ok (.bipush 6, 2) := by decide +kernel
theorem dX13_finish_110 : decode cX13_finish 110 = .ok (.iconst 0, 1) := by decide +kernel
theorem dX13_finish_111 : decode cX13_finish 111 = .ok (.invokevirtual 415, 3) := by decide +kernel
theorem dX13_finish_114 : decode cX13_finish 114 = .ok (.return_, 1) := by decide +kernel
theorem dX13_signedSum_0 : decode cX13_signedSum 0 = .ok (.iload_n 1, 1) := by decide +kernel
theorem dX13_signedSum_1 : decode cX13_signedSum 1 = .ok (.iload_n 2, 1) := by decide +kernel
theorem dX13_signedSum_2 : decode cX13_signedSum 2 = .ok (.if_icmp .ne 20, 3) := by decide +kernel
theorem dX13_signedSum_5 : decode cX13_signedSum 5 = .ok (.aload_n 0, 1) := by decide +kernel
theorem dX13_signedSum_6 : decode cX13_signedSum 6 = .ok (.getfield 133, 3) := by decide +kernel
theorem dX13_signedSum_9 : decode cX13_signedSum 9 = .ok (.aload_n 0, 1) := by decide +kernel
theorem dX13_signedSum_10 : decode cX13_signedSum 10 = .ok (.getfield 126, 3) := by decide +kernel
theorem dX13_signedSum_13 : decode cX13_signedSum 13 = .ok (.aload_n 0, 1) := by decide +kernel
theorem dX13_signedSum_14 : decode cX13_signedSum 14 = .ok (.getfield 130, 3) := by decide +kernel
theorem dX13_signedSum_17 : decode cX13_signedSum 17 = .ok (.invokestatic 461, 3) := by decide +kernel
theorem dX13_signedSum_20 : decode cX13_signedSum 20 = .ok (.iload_n 1, 1) := by decide +kernel
theorem dX13_signedSum_21 : decode cX13_signedSum 21 = .ok (.ireturn, 1) := by decide +kernel
theorem dX13_signedSum_22 : decode cX13_signedSum 22 = .ok (.aload_n 0, 1) := by decide +kernel
theorem dX13_signedSum_23 : decode cX13_signedSum 23 = .ok (.getfield 126, 3) := by decide +kernel
theorem dX13_signedSum_26 : decode cX13_signedSum 26 = .ok (.aload_n 0, 1) := by decide +kernel
theorem dX13_signedSum_27 : decode cX13_signedSum 27 = .ok (.getfield 130, 3) := by decide +kernel
theorem dX13_signedSum_30 : decode cX13_signedSum 30 = .ok (.invokestatic 465, 3) := by decide +kernel
theorem dX13_signedSum_33 : decode cX13_signedSum 33 = .ok (.ifCond .lt 38, 3) := by decide +kernel
theorem dX13_signedSum_36 : decode cX13_signedSum 36 = .ok (.aload_n 0, 1) := by decide +kernel
theorem dX13_signedSum_37 : decode cX13_signedSum 37 = .ok (.getfield 133, 3) := by decide +kernel
theorem dX13_signedSum_40 : decode cX13_signedSum 40 = .ok (.aload_n 0, 1) := by decide +kernel
theorem dX13_signedSum_41 : decode cX13_signedSum 41 = .ok (.getfield 126, 3) := by decide +kernel
theorem dX13_signedSum_44 : decode cX13_signedSum 44 = .ok (.aload_n 0, 1) := by decide +kernel
theorem dX13_signedSum_45 : decode cX13_signedSum 45 = .ok (.getfield 130, 3) := by decide +kernel
theorem dX13_signedSum_48 : decode cX13_signedSum 48 = .ok (.invokestatic 469, 3) := by decide +kernel
theorem dX13_signedSum_51 : decode cX13_signedSum 51 = .ok (.iload_n 1, 1) := by decide +kernel
theorem dX13_signedSum_52 : decode cX13_signedSum 52 = .ok (.ifCond .eq 17, 3) := by decide +kernel
theorem dX13_signedSum_55 : decode cX13_signedSum 55 = .ok (.aload_n 0, 1) := by decide +kernel
theorem dX13_signedSum_56 : decode cX13_signedSum 56 = .ok (.getfield 133, 3) := by decide +kernel
theorem dX13_signedSum_59 : decode cX13_signedSum 59 = .ok (.invokestatic 453, 3) := by decide +kernel
theorem dX13_signedSum_62 : decode cX13_signedSum 62 = .ok (.ifCond .ne 7, 3) := by decide +kernel
theorem dX13_signedSum_65 : decode cX13_signedSum 65 = .ok (.iconst 1, 1) := by decide +kernel
theorem dX13_signedSum_66 : decode cX13_signedSum 66 = .ok (.goto 4, 3) := by decide +kernel
theorem dX13_signedSum_69 : decode cX13_signedSum 69 = .ok (.iconst 0, 1) := by decide +kernel
theorem dX13_signedSum_70 : decode cX13_signedSum 70 = .ok (.ireturn, 1) := by decide +kernel
theorem dX13_signedSum_71 : decode cX13_signedSum 71 = .ok (.aload_n 0, 1) := by decide +kernel
theorem dX13_signedSum_72 : decode cX13_signedSum 72 = .ok (.getfield 133, 3) := by decide +kernel
theorem dX13_signedSum_75 : decode cX13_signedSum 75 = .ok (.aload_n 0, 1) := by decide +kernel
theorem dX13_signedSum_76 : decode cX13_signedSum 76 = .ok (.getfield 130, 3) := by decide +kernel
theorem dX13_signedSum_79 : decode cX13_signedSum 79 = .ok (.aload_n 0, 1) := by decide +kernel
theorem dX13_signedSum_80 : decode cX13_signedSum 80 = .ok (.getfield 126, 3) := by decide +kernel
theorem dX13_signedSum_83 : decode cX13_signedSum 83 = .ok (.invokestatic 469, 3) := by decide +kernel
theorem dX13_signedSum_86 : decode cX13_signedSum 86 = .ok (.iload_n 2, 1) := by decide +kernel
theorem dX13_signedSum_87 : decode cX13_signedSum 87 = .ok (.ireturn, 1) := by decide +kernel
theorem dX13_doSum_0 : decode cX13_doSum 0 = .ok (.aload_n 0, 1) := by decide +kernel
theorem dX13_doSum_1 : decode cX13_doSum 1 = .ok (.aload_n 0, 1) := by decide +kernel
theorem dX13_doSum_2 : decode cX13_doSum 2 = .ok (.getfield 394, 3) := by decide +kernel
theorem dX13_doSum_5 : decode cX13_doSum 5 = .ok (.aload_n 0, 1) := by decide +kernel
theorem dX13_doSum_6 : decode cX13_doSum 6 = .ok (.getfield 403, 3) := by decide +kernel
theorem dX13_doSum_9 : decode cX13_doSum 9 = .ok (.invokevirtual 472, 3) := by decide +kernel
theorem dX13_doSum_12 : decode cX13_doSum 12 = .ok (.invokestatic 475, 3) := by decide +kernel
theorem dX13_doSum_15 : decode cX13_doSum 15 = .ok (.istore_n 2, 1) := by decide +kernel
theorem dX13_doSum_16 : decode cX13_doSum 16 = .ok (.aload_n 0, 1) := by decide +kernel
theorem dX13_doSum_17 : decode cX13_doSum 17 = .ok (.aload_n 0, 1) := by decide +kernel
theorem dX13_doSum_18 : decode cX13_doSum 18 = .ok (.getfield 397, 3) := by decide +kernel
theorem dX13_doSum_21 : decode cX13_doSum 21 = .ok (.aload_n 0, 1) := by decide +kernel
theorem dX13_doSum_22 : decode cX13_doSum 22 = .ok (.getfield 406, 3) := by decide +kernel
theorem dX13_doSum_25 : decode cX13_doSum 25 = .ok (.invokevirtual 472, 3) := by decide +kernel
theorem dX13_doSum_28 : decode cX13_doSum 28 = .ok (.invokestatic 475, 3) := by decide +kernel
theorem dX13_doSum_31 : decode cX13_doSum 31 = .ok (.istore_n 3, 1) := by decide +kernel
theorem dX13_doSum_32 : decode cX13_doSum 32 = .ok (.aload_n 0, 1) := by decide +kernel
theorem dX13_doSum_33 : decode cX13_doSum 33 = .ok (.aload_n 0, 1) := by decide +kernel
theorem dX13_doSum_34 : decode cX13_doSum 34 = .ok (.getfield 126, 3) := by decide +kernel
theorem dX13_doSum_37 : decode cX13_doSum 37 = .ok (.aload_n 0, 1) := by decide +kernel
theorem dX13_doSum_38 : decode cX13_doSum 38 = .ok (.getfield 394, 3) := by decide +kernel
theorem dX13_doSum_41 : decode cX13_doSum 41 = .ok (.aload_n 0, 1) := by decide +kernel
theorem dX13_doSum_42 : decode cX13_doSum 42 = .ok (.getfield 403, 3) := by decide +kernel
theorem dX13_doSum_45 : decode cX13_doSum 45 = .ok (.invokevirtual 478, 3) := by decide +kernel
theorem dX13_doSum_48 : decode cX13_doSum 48 = .ok (.aload_n 0, 1) := by decide +kernel
theorem dX13_doSum_49 : decode cX13_doSum 49 = .ok (.aload_n 0, 1) := by decide +kernel
theorem dX13_doSum_50 : decode cX13_doSum 50 = .ok (.getfield 130, 3) := by decide +kernel
theorem dX13_doSum_53 : decode cX13_doSum 53 = .ok (.aload_n 0, 1) := by decide +kernel
theorem dX13_doSum_54 : decode cX13_doSum 54 = .ok (.getfield 397, 3) := by decide +kernel
theorem dX13_doSum_57 : decode cX13_doSum 57 = .ok (.aload_n 0, 1) := by decide +kernel
theorem dX13_doSum_58 : decode cX13_doSum 58 = .ok (.getfield 406, 3) := by decide +kernel
theorem dX13_doSum_61 : decode cX13_doSum 61 = .ok (.invokevirtual 478, 3) := by decide +kernel
theorem dX13_doSum_64 : decode cX13_doSum 64 = .ok (.iload_n 1, 1) := by decide +kernel
theorem dX13_doSum_65 : decode cX13_doSum 65 = .ok (.iconst 3, 1) := by decide +kernel
theorem dX13_doSum_66 : decode cX13_doSum 66 = .ok (.if_icmp .ne 13, 3) := by decide +kernel
theorem dX13_doSum_69 : decode cX13_doSum 69 = .ok (.aload_n 0, 1) := by decide +kernel
theorem dX13_doSum_70 : decode cX13_doSum 70 = .ok (.aload_n 0, 1) := by decide +kernel
theorem dX13_doSum_71 : decode cX13_doSum 71 = .ok (.getfield 130, 3) := by decide +kernel
theorem dX13_doSum_74 : decode cX13_doSum 74 = .ok (.iload_n 3, 1) := by decide +kernel
theorem dX13_doSum_75 : decode cX13_doSum 75 = .ok (.invokevirtual 480, 3) := by decide +kernel
theorem dX13_doSum_78 : decode cX13_doSum 78 = .ok (.return_, 1) := by decide +kernel
theorem dX13_doSum_79 : decode cX13_doSum 79 = .ok (.aload_n 0, 1) := by decide +kernel
theorem dX13_doSum_80 : decode cX13_doSum 80 = .ok (.iload_n 2, 1) := by decide +kernel
theorem dX13_doSum_81 : decode cX13_doSum 81 = .ok (.iload_n 1, 1) := by decide +kernel
theorem dX13_doSum_82 : decode cX13_doSum 82 = .ok (.iconst 4, 1) := by decide +kernel
theorem dX13_doSum_83 : decode cX13_doSum 83 = .ok (.if_icmp .ne 7, 3) := by decide +kernel
theorem dX13_doSum_86 : decode cX13_doSum 86 = .ok (.iload_n 3, 1) := by decide +kernel
theorem dX13_doSum_87 : decode cX13_doSum 87 = .ok (.goto 12, 3) := by decide +kernel
theorem dX13_doSum_90 : decode cX13_doSum 90 = .ok (.iload_n 3, 1) := by decide +kernel
theorem dX13_doSum_91 : decode cX13_doSum 91 = .ok (.ifCond .ne 7, 3) := by decide +kernel
theorem dX13_doSum_94 : decode cX13_doSum 94 = .ok (.iconst 1, 1) := by decide +kernel
theorem dX13_doSum_95 : decode cX13_doSum 95 = .ok (.goto 4, 3) := by decide +kernel
theorem dX13_doSum_98 : decode cX13_doSum 98 = .ok (.iconst 0, 1) := by decide +kernel
theorem dX13_doSum_99 : decode cX13_doSum 99 = .ok (.invokevirtual 484, 3) := by decide +kernel
theorem dX13_doSum_102 : decode cX13_doSum 102 = .ok (.istore 4, 2) := by decide +kernel
theorem dX13_doSum_104 : decode cX13_doSum 104 = .ok (.iload_n 1, 1) := by decide +kernel
theorem dX13_doSum_105 : decode cX13_doSum 105 = .ok (.bipush 6, 2) := by decide +kernel
theorem dX13_doSum_107 : decode cX13_doSum 107 = .ok (.if_icmp .ne 38, 3) := by decide +kernel
theorem dX13_doSum_110 : decode cX13_doSum 110 = .ok (.aload_n 0, 1) := by decide +kernel
theorem dX13_doSum_111 : decode cX13_doSum 111 = .ok (.getfield 76, 3) := by decide +kernel
theorem dX13_doSum_114 : decode cX13_doSum 114 = .ok (.sipush 264, 3) := by decide +kernel
theorem dX13_doSum_117 : decode cX13_doSum 117 = .ok (.aload_n 0, 1) := by decide +kernel
theorem dX13_doSum_118 : decode cX13_doSum 118 = .ok (.getfield 133, 3) := by decide +kernel
theorem dX13_doSum_121 : decode cX13_doSum 121 = .ok (.invokestatic 453, 3) := by decide +kernel
theorem dX13_doSum_124 : decode cX13_doSum 124 = .ok (.ifCond .eq 7, 3) := by decide +kernel
theorem dX13_doSum_127 : decode cX13_doSum 127 = .ok (.iconst 0, 1) := by decide +kernel
theorem dX13_doSum_128 : decode cX13_doSum 128 = .ok (.goto 13, 3) := by decide +kernel
theorem dX13_doSum_131 : decode cX13_doSum 131 = .ok (.iload 4, 2) := by decide +kernel
theorem dX13_doSum_133 : decode cX13_doSum 133 = .ok (.ifCond .eq 7, 3) := by decide +kernel
theorem dX13_doSum_136 : decode cX13_doSum 136 = .ok (.iconst 1, 1) := by decide +kernel
theorem dX13_doSum_137 : decode cX13_doSum 137 = .ok (.goto 4, 3) := by decide +kernel
theorem dX13_doSum_140 : decode cX13_doSum 140 = .ok (.iconst 2, 1) := by decide +kernel
theorem dX13_doSum_141 : decode cX13_doSum 141 = .ok (.iastore, 1) := by decide +kernel
theorem dX13_doSum_142 : decode cX13_doSum 142 = .ok (.goto 13, 3) := by decide +kernel
theorem dX13_doSum_145 : decode cX13_doSum 145 = .ok (.aload_n 0, 1) := by decide +kernel
theorem dX13_doSum_146 : decode cX13_doSum 146 = .ok (.aload_n 0, 1) := by decide +kernel
theorem dX13_doSum_147 : decode cX13_doSum 147 = .ok (.getfield 133, 3) := by decide +kernel
theorem dX13_doSum_150 : decode cX13_doSum 150 = .ok (.iload 4, 2) := by decide +kernel
theorem dX13_doSum_152 : decode cX13_doSum 152 = .ok (.invokevirtual 480, 3) := by decide +kernel
theorem dX13_doSum_155 : decode cX13_doSum 155 = .ok (.return_, 1) := by decide +kernel
theorem dX13_doProduct_0 : decode cX13_doProduct 0 = .ok (.aload_n 0, 1) := by decide +kernel
theorem dX13_doProduct_1 : decode cX13_doProduct 1 = .ok (.aload_n 0, 1) := by decide +kernel
theorem dX13_doProduct_2 : decode cX13_doProduct 2 = .ok (.getfield 394, 3) := by decide +kernel
theorem dX13_doProduct_5 : decode cX13_doProduct 5 = .ok (.aload_n 0, 1) := by decide +kernel
theorem dX13_doProduct_6 : decode cX13_doProduct 6 = .ok (.getfield 403, 3) := by decide +kernel
theorem dX13_doProduct_9 : decode cX13_doProduct 9 = .ok (.invokevirtual 472, 3) := by decide +kernel
theorem dX13_doProduct_12 : decode cX13_doProduct 12 = .ok (.invokestatic 475, 3) := by decide +kernel
theorem dX13_doProduct_15 : decode cX13_doProduct 15 = .ok (.aload_n 0, 1) := by decide +kernel
theorem dX13_doProduct_16 : decode cX13_doProduct 16 = .ok (.aload_n 0, 1) := by decide +kernel
theorem dX13_doProduct_17 : decode cX13_doProduct 17 = .ok (.getfield 397, 3) := by decide +kernel
theorem dX13_doProduct_20 : decode cX13_doProduct 20 = .ok (.aload_n 0, 1) := by decide +kernel
theorem dX13_doProduct_21 : decode cX13_doProduct 21 = .ok (.getfield 406, 3) := by decide +kernel
theorem dX13_doProduct_24 : decode cX13_doProduct 24 = .ok (.invokevirtual 472, 3) := by decide +kernel
theorem dX13_doProduct_27 : decode cX13_doProduct 27 = .ok (.invokestatic 475, 3) := by decide +kernel
theorem dX13_doProduct_30 : decode cX13_doProduct 30 = .ok (.if_icmp .eq 7, 3) := by decide +kernel
theorem dX13_doProduct_33 : decode cX13_doProduct 33 = .ok (.iconst 1, 1) := by decide +kernel
theorem dX13_doProduct_34 : decode cX13_doProduct 34 = .ok (.goto 4, 3) := by decide +kernel
theorem dX13_doProduct_37 : decode cX13_doProduct 37 = .ok (.iconst 0, 1) := by decide +kernel
theorem dX13_doProduct_38 : decode cX13_doProduct 38 = .ok (.istore_n 1, 1) := by decide +kernel
theorem dX13_doProduct_39 : decode cX13_doProduct 39 = .ok (.aload_n 0, 1) := by decide +kernel
theorem dX13_doProduct_40 : decode cX13_doProduct 40 = .ok (.aload_n 0, 1) := by decide +kernel
theorem dX13_doProduct_41 : decode cX13_doProduct 41 = .ok (.getfield 126, 3) := by decide +kernel
theorem dX13_doProduct_44 : decode cX13_doProduct 44 = .ok (.aload_n 0, 1) := by decide +kernel
theorem dX13_doProduct_45 : decode cX13_doProduct 45 = .ok (.getfield 394, 3) := by decide +kernel
theorem dX13_doProduct_48 : decode cX13_doProduct 48 = .ok (.aload_n 0, 1) := by decide +kernel
theorem dX13_doProduct_49 : decode cX13_doProduct 49 = .ok (.getfield 403, 3) := by decide +kernel
theorem dX13_doProduct_52 : decode cX13_doProduct 52 = .ok (.invokevirtual 478, 3) := by decide +kernel
theorem dX13_doProduct_55 : decode cX13_doProduct 55 = .ok (.aload_n 0, 1) := by decide +kernel
theorem dX13_doProduct_56 : decode cX13_doProduct 56 = .ok (.aload_n 0, 1) := by decide +kernel
theorem dX13_doProduct_57 : decode cX13_doProduct 57 = .ok (.getfield 130, 3) := by decide +kernel
theorem dX13_doProduct_60 : decode cX13_doProduct 60 = .ok (.aload_n 0, 1) := by decide +kernel
theorem dX13_doProduct_61 : decode cX13_doProduct 61 = .ok (.getfield 397, 3) := by decide +kernel
theorem dX13_doProduct_64 : decode cX13_doProduct 64 = .ok (.aload_n 0, 1) := by decide +kernel
theorem dX13_doProduct_65 : decode cX13_doProduct 65 = .ok (.getfield 406, 3) := by decide +kernel
theorem dX13_doProduct_68 : decode cX13_doProduct 68 = .ok (.invokevirtual 478, 3) := by decide +kernel
theorem dX13_doProduct_71 : decode cX13_doProduct 71 = .ok (.aload_n 0, 1) := by decide +kernel
theorem dX13_doProduct_72 : decode cX13_doProduct 72 = .ok (.getfield 133, 3) := by decide +kernel
theorem dX13_doProduct_75 : decode cX13_doProduct 75 = .ok (.aload_n 0, 1) := by decide +kernel
theorem dX13_doProduct_76 : decode cX13_doProduct 76 = .ok (.getfield 126, 3) := by decide +kernel
theorem dX13_doProduct_79 : decode cX13_doProduct 79 = .ok (.aload_n 0, 1) := by decide +kernel
theorem dX13_doProduct_80 : decode cX13_doProduct 80 = .ok (.getfield 130, 3) := by decide +kernel
theorem dX13_doProduct_83 : decode cX13_doProduct 83 = .ok (.invokestatic 488, 3) := by decide +kernel
theorem dX13_doProduct_86 : decode cX13_doProduct 86 = .ok (.aload_n 0, 1) := by decide +kernel
theorem dX13_doProduct_87 : decode cX13_doProduct 87 = .ok (.aload_n 0, 1) := by decide +kernel
theorem dX13_doProduct_88 : decode cX13_doProduct 88 = .ok (.getfield 394, 3) := by decide +kernel
theorem dX13_doProduct_91 : decode cX13_doProduct 91 = .ok (.aload_n 0, 1) := by decide +kernel
theorem dX13_doProduct_92 : decode cX13_doProduct 92 = .ok (.getfield 403, 3) := by decide +kernel
theorem dX13_doProduct_95 : decode cX13_doProduct 95 = .ok (.aload_n 0, 1) := by decide +kernel
theorem dX13_doProduct_96 : decode cX13_doProduct 96 = .ok (.getfield 133, 3) := by decide +kernel
theorem dX13_doProduct_99 : decode cX13_doProduct 99 = .ok (.iload_n 1, 1) := by decide +kernel
theorem dX13_doProduct_100 : decode cX13_doProduct 100 = .ok (.invokevirtual 457, 3) := by decide +kernel
theorem dX13_doProduct_103 : decode cX13_doProduct 103 = .ok (.return_, 1) := by decide +kernel
theorem dX13_quotient_0 : decode cX13_quotient 0 = .ok (.aload_n 0, 1) := by decide +kernel
theorem dX13_quotient_1 : decode cX13_quotient 1 = .ok (.getfield 133, 3) := by decide +kernel
theorem dX13_quotient_4 : decode cX13_quotient 4 = .ok (.invokestatic 370, 3) := by decide +kernel
theorem dX13_quotient_7 : decode cX13_quotient 7 = .ok (.aload_n 0, 1) := by decide +kernel
theorem dX13_quotient_8 : decode cX13_quotient 8 = .ok (.getfield 126, 3) := by decide +kernel
theorem dX13_quotient_11 : decode cX13_quotient 11 = .ok (.invokestatic 384, 3) := by decide +kernel
theorem dX13_quotient_14 : decode cX13_quotient 14 = .ok (.istore_n 1, 1) := by decide +kernel
theorem dX13_quotient_15 : decode cX13_quotient 15 = .ok (.iload_n 1, 1) := by decide +kernel
theorem dX13_quotient_16 : decode cX13_quotient 16 = .ok (.ifCond .lt 73, 3) := by decide +kernel
theorem dX13_quotient_19 : decode cX13_quotient 19 = .ok (.bipush 9, 2) := by decide +kernel
theorem dX13_quotient_21 : decode cX13_quotient 21 = .ok (.istore_n 2, 1) := by decide +kernel
theorem dX13_quotient_22 : decode cX13_quotient 22 = .ok (.iload_n 2, 1) := by decide +kernel
theorem dX13_quotient_23 : decode cX13_quotient 23 = .ok (.ifCond .le 60, 3) := by decide +kernel
theorem dX13_quotient_26 : decode cX13_quotient 26 = .ok (.aload_n 0, 1) := by decide +kernel
theorem dX13_quotient_27 : decode cX13_quotient 27 = .ok (.getfield 133, 3) := by decide +kernel
theorem dX13_quotient_30 : decode cX13_quotient 30 = .ok (.iload_n 1, 1) := by decide +kernel
theorem dX13_quotient_31 : decode cX13_quotient 31 = .ok (.iload_n 2, 1) := by decide +kernel
theorem dX13_quotient_32 : decode cX13_quotient 32 = .ok (.invokestatic 377, 3) := by decide +kernel
theorem dX13_quotient_35 : decode cX13_quotient 35 = .ok (.aload_n 0, 1) := by decide +kernel
theorem dX13_quotient_36 : decode cX13_quotient 36 = .ok (.getfield 136, 3) := by decide +kernel
theorem dX13_quotient_39 : decode cX13_quotient 39 = .ok (.aload_n 0, 1) := by decide +kernel
theorem dX13_quotient_40 : decode cX13_quotient 40 = .ok (.getfield 133, 3) := by decide +kernel
theorem dX13_quotient_43 : decode cX13_quotient 43 = .ok (.aload_n 0, 1) := by decide +kernel
theorem dX13_quotient_44 : decode cX13_quotient 44 = .ok (.getfield 130, 3) := by decide +kernel
theorem dX13_quotient_47 : decode cX13_quotient 47 = .ok (.invokestatic 488, 3) := by decide +kernel
theorem dX13_quotient_50 : decode cX13_quotient 50 = .ok (.aload_n 0, 1) := by decide +kernel
theorem dX13_quotient_51 : decode cX13_quotient 51 = .ok (.getfield 136, 3) := by decide +kernel
theorem dX13_quotient_54 : decode cX13_quotient 54 = .ok (.aload_n 0, 1) := by decide +kernel
theorem dX13_quotient_55 : decode cX13_quotient 55 = .ok (.getfield 126, 3) := by decide +kernel
theorem dX13_quotient_58 : decode cX13_quotient 58 = .ok (.invokestatic 465, 3) := by decide +kernel
theorem dX13_quotient_61 : decode cX13_quotient 61 = .ok (.ifCond .gt 6, 3) := by decide +kernel
theorem dX13_quotient_64 : decode cX13_quotient 64 = .ok (.goto 19, 3) := by decide +kernel
theorem dX13_quotient_67 : decode cX13_quotient 67 = .ok (.aload_n 0, 1) := by decide +kernel
theorem dX13_quotient_68 : decode cX13_quotient 68 = .ok (.getfield 133, 3) := by decide +kernel
theorem dX13_quotient_71 : decode cX13_quotient 71 = .ok (.iload_n 1, 1) := by decide +kernel
theorem dX13_quotient_72 : decode cX13_quotient 72 = .ok (.iload_n 2, 1) := by decide +kernel
theorem dX13_quotient_73 : decode cX13_quotient 73 = .ok (.ineg, 1) := by decide +kernel
theorem dX13_quotient_74 : decode cX13_quotient 74 = .ok (.invokestatic 377, 3) := by decide +kernel
theorem dX13_quotient_77 : decode cX13_quotient 77 = .ok (.iinc 2 (-1), 3) := by decide +kernel
theorem dX13_quotient_80 : decode cX13_quotient 80 = .ok (.goto (-58), 3) := by decide +kernel
theorem dX13_quotient_83 : decode cX13_quotient 83 = .ok (.iinc 1 (-1), 3) := by decide +kernel
theorem dX13_quotient_86 : decode cX13_quotient 86 = .ok (.goto (-71), 3) := by decide +kernel
theorem dX13_quotient_89 : decode cX13_quotient 89 = .ok (.aload_n 0, 1) := by decide +kernel
theorem dX13_quotient_90 : decode cX13_quotient 90 = .ok (.getfield 136, 3) := by decide +kernel
theorem dX13_quotient_93 : decode cX13_quotient 93 = .ok (.aload_n 0, 1) := by decide +kernel
theorem dX13_quotient_94 : decode cX13_quotient 94 = .ok (.getfield 133, 3) := by decide +kernel
theorem dX13_quotient_97 : decode cX13_quotient 97 = .ok (.aload_n 0, 1) := by decide +kernel
theorem dX13_quotient_98 : decode cX13_quotient 98 = .ok (.getfield 130, 3) := by decide +kernel
theorem dX13_quotient_101 : decode cX13_quotient 101 = .ok (.invokestatic 488, 3) := by decide +kernel
theorem dX13_quotient_104 : decode cX13_quotient 104 = .ok (.aload_n 0, 1) := by decide +kernel
theorem dX13_quotient_105 : decode cX13_quotient 105 = .ok (.getfield 136, 3) := by decide +kernel
theorem dX13_quotient_108 : decode cX13_quotient 108 = .ok (.aload_n 0, 1) := by decide +kernel
theorem dX13_quotient_109 : decode cX13_quotient 109 = .ok (.getfield 126, 3) := by decide +kernel
theorem dX13_quotient_112 : decode cX13_quotient 112 = .ok (.aload_n 0, 1) := by decide +kernel
theorem dX13_quotient_113 : decode cX13_quotient 113 = .ok (.getfield 136, 3) := by decide +kernel
theorem dX13_quotient_116 : decode cX13_quotient 116 = .ok (.invokestatic 469, 3) := by decide +kernel
theorem dX13_quotient_119 : decode cX13_quotient 119 = .ok (.return_, 1) := by decide +kernel
theorem dX13_doQuotient_0 : decode cX13_doQuotient 0 = .ok (.aload_n 0, 1) := by decide +kernel
theorem dX13_doQuotient_1 : decode cX13_doQuotient 1 = .ok (.aload_n 0, 1) := by decide +kernel
theorem dX13_doQuotient_2 : decode cX13_doQuotient 2 = .ok (.getfield 126, 3) := by decide +kernel
theorem dX13_doQuotient_5 : decode cX13_doQuotient 5 = .ok (.aload_n 0, 1) := by decide +kernel
theorem dX13_doQuotient_6 : decode cX13_doQuotient 6 = .ok (.getfield 394, 3) := by decide +kernel
theorem dX13_doQuotient_9 : decode cX13_doQuotient 9 = .ok (.aload_n 0, 1) := by decide +kernel
theorem dX13_doQuotient_10 : decode cX13_doQuotient 10 = .ok (.getfield 403, 3) := by decide +kernel
theorem dX13_doQuotient_13 : decode cX13_doQuotient 13 = .ok (.invokevirtual 478, 3) := by decide +kernel
theorem dX13_doQuotient_16 : decode cX13_doQuotient 16 = .ok (.aload_n 0, 1) := by decide +kernel
theorem dX13_doQuotient_17 : decode cX13_doQuotient 17 = .ok (.aload_n 0, 1) := by decide +kernel
theorem dX13_doQuotient_18 : decode cX13_doQuotient 18 = .ok (.getfield 130, 3) := by decide +kernel
theorem dX13_doQuotient_21 : decode cX13_doQuotient 21 = .ok (.aload_n 0, 1) := by decide +kernel
theorem dX13_doQuotient_22 : decode cX13_doQuotient 22 = .ok (.getfield 397, 3) := by decide +kernel
theorem dX13_doQuotient_25 : decode cX13_doQuotient 25 = .ok (.aload_n 0, 1) := by decide +kernel
theorem dX13_doQuotient_26 : decode cX13_doQuotient 26 = .ok (.getfield 406, 3) := by decide +kernel
theorem dX13_doQuotient_29 : decode cX13_doQuotient 29 = .ok (.invokevirtual 478, 3) := by decide +kernel
theorem dX13_doQuotient_32 : decode cX13_doQuotient 32 = .ok (.aload_n 0, 1) := by decide +kernel
theorem dX13_doQuotient_33 : decode cX13_doQuotient 33 = .ok (.getfield 130, 3) := by decide +kernel
theorem dX13_doQuotient_36 : decode cX13_doQuotient 36 = .ok (.invokestatic 453, 3) := by decide +kernel
theorem dX13_doQuotient_39 : decode cX13_doQuotient 39 = .ok (.ifCond .eq 11, 3) := by decide +kernel
theorem dX13_doQuotient_42 : decode cX13_doQuotient 42 = .ok (.aload_n 0, 1) := by decide +kernel
theorem dX13_doQuotient_43 : decode cX13_doQuotient 43 = .ok (.bipush 7, 2) := by decide +kernel
theorem dX13_doQuotient_45 : decode cX13_doQuotient 45 = .ok (.iconst 0, 1) := by decide +kernel
theorem dX13_doQuotient_46 : decode cX13_doQuotient 46 = .ok (.invokevirtual 415, 3) := by decide +kernel
theorem dX13_doQuotient_49 : decode cX13_doQuotient 49 = .ok (.return_, 1) := by decide +kernel
theorem dX13_doQuotient_50 : decode cX13_doQuotient 50 = .ok (.aload_n 0, 1) := by decide +kernel
theorem dX13_doQuotient_51 : decode cX13_doQuotient 51 = .ok (.invokevirtual 491, 3) := by decide +kernel
theorem dX13_doQuotient_54 : decode cX13_doQuotient 54 = .ok (.aload_n 0, 1) := by decide +kernel
theorem dX13_doQuotient_55 : decode cX13_doQuotient 55 = .ok (.getfield 133, 3) := by decide +kernel
theorem dX13_doQuotient_58 : decode cX13_doQuotient 58 = .ok (.invokestatic 384, 3) := by decide +kernel
theorem dX13_doQuotient_61 : decode cX13_doQuotient 61 = .ok (.iconst 2, 1) := by decide +kernel
theorem dX13_doQuotient_62 : decode cX13_doQuotient 62 = .ok (.aload_n 0, 1) := by decide +kernel
theorem dX13_doQuotient_63 : decode cX13_doQuotient 63 = .ok (.getfield 403, 3) := by decide +kernel
theorem dX13_doQuotient_66 : decode cX13_doQuotient 66 = .ok (.aload_n 0, 1) := by decide +kernel
theorem dX13_doQuotient_67 : decode cX13_doQuotient 67 = .ok (.getfield 406, 3) := by decide +kernel
theorem dX13_doQuotient_70 : decode cX13_doQuotient 70 = .ok (.isub, 1) := by decide +kernel
theorem dX13_doQuotient_71 : decode cX13_doQuotient 71 = .ok (.imul, 1) := by decide +kernel
theorem dX13_doQuotient_72 : decode cX13_doQuotient 72 = .ok (.iconst 1, 1) := by decide +kernel
theorem dX13_doQuotient_73 : decode cX13_doQuotient 73 = .ok (.isub, 1) := by decide +kernel
theorem dX13_doQuotient_74 : decode cX13_doQuotient 74 = .ok (.if_icmp .le 11, 3) := by decide +kernel
theorem dX13_doQuotient_77 : decode cX13_doQuotient 77 = .ok (.aload_n 0, 1) := by decide +kernel
theorem dX13_doQuotient_78 : decode cX13_doQuotient 78 = .ok (.bipush 7, 2) := by decide +kernel
theorem dX13_doQuotient_80 : decode cX13_doQuotient 80 = .ok (.iconst 0, 1) := by decide +kernel
theorem dX13_doQuotient_81 : decode cX13_doQuotient 81 = .ok (.invokevirtual 415, 3) := by decide +kernel
theorem dX13_doQuotient_84 : decode cX13_doQuotient 84 = .ok (.return_, 1) := by decide +kernel
theorem dX13_doQuotient_85 : decode cX13_doQuotient 85 = .ok (.aload_n 0, 1) := by decide +kernel
theorem dX13_doQuotient_86 : decode cX13_doQuotient 86 = .ok (.aload_n 0, 1) := by decide +kernel
theorem dX13_doQuotient_87 : decode cX13_doQuotient 87 = .ok (.getfield 394, 3) := by decide +kernel
theorem dX13_doQuotient_90 : decode cX13_doQuotient 90 = .ok (.aload_n 0, 1) := by decide +kernel
theorem dX13_doQuotient_91 : decode cX13_doQuotient 91 = .ok (.getfield 403, 3) := by decide +kernel
theorem dX13_doQuotient_94 : decode cX13_doQuotient 94 = .ok (.invokevirtual 472, 3) := by decide +kernel
theorem dX13_doQuotient_97 : decode cX13_doQuotient 97 = .ok (.invokestatic 475, 3) := by decide +kernel
theorem dX13_doQuotient_100 : decode cX13_doQuotient 100 = .ok (.istore_n 1, 1) := by decide +kernel
theorem dX13_doQuotient_101 : decode cX13_doQuotient 101 = .ok (.iload_n 1, 1) := by decide +kernel
theorem dX13_doQuotient_102 : decode cX13_doQuotient 102 = .ok (.aload_n 0, 1) := by decide +kernel
theorem dX13_doQuotient_103 : decode cX13_doQuotient 103 = .ok (.aload_n 0, 1) := by decide +kernel
theorem dX13_doQuotient_104 : decode cX13_doQuotient 104 = .ok (.getfield 397, 3) := by decide +kernel
theorem dX13_doQuotient_107 : decode cX13_doQuotient 107 = .ok (.aload_n 0, 1) := by decide +kernel
theorem dX13_doQuotient_108 : decode cX13_doQuotient 108 = .ok (.getfield 406, 3) := by decide +kernel
theorem dX13_doQuotient_111 : decode cX13_doQuotient 111 = .ok (.invokevirtual 472, 3) := by decide +kernel
theorem dX13_doQuotient_114 : decode cX13_doQuotient 114 = .ok (.invokestatic 475, 3) := by decide +kernel
theorem dX13_doQuotient_117 : decode cX13_doQuotient 117 = .ok (.if_icmp .eq 7, 3) := by decide +kernel
theorem dX13_doQuotient_120 : decode cX13_doQuotient 120 = .ok (.iconst 1, 1) := by decide +kernel
theorem dX13_doQuotient_121 : decode cX13_doQuotient 121 = .ok (.goto 4, 3) := by decide +kernel
theorem dX13_doQuotient_124 : decode cX13_doQuotient 124 = .ok (.iconst 0, 1) := by decide +kernel
theorem dX13_doQuotient_125 : decode cX13_doQuotient 125 = .ok (.istore_n 2, 1) := by decide +kernel
theorem dX13_doQuotient_126 : decode cX13_doQuotient 126 = .ok (.aload_n 0, 1) := by decide +kernel
theorem dX13_doQuotient_127 : decode cX13_doQuotient 127 = .ok (.aload_n 0, 1) := by decide +kernel
theorem dX13_doQuotient_128 : decode cX13_doQuotient 128 = .ok (.getfield 394, 3) := by decide +kernel
theorem dX13_doQuotient_131 : decode cX13_doQuotient 131 = .ok (.aload_n 0, 1) := by decide +kernel
theorem dX13_doQuotient_132 : decode cX13_doQuotient 132 = .ok (.getfield 403, 3) := by decide +kernel
theorem dX13_doQuotient_135 : decode cX13_doQuotient 135 = .ok (.aload_n 0, 1) := by decide +kernel
theorem dX13_doQuotient_136 : decode cX13_doQuotient 136 = .ok (.getfield 406, 3) := by decide +kernel
theorem dX13_doQuotient_139 : decode cX13_doQuotient 139 = .ok (.isub, 1) := by decide +kernel
theorem dX13_doQuotient_140 : decode cX13_doQuotient 140 = .ok (.aload_n 0, 1) := by decide +kernel
theorem dX13_doQuotient_141 : decode cX13_doQuotient 141 = .ok (.getfield 133, 3) := by decide +kernel
theorem dX13_doQuotient_144 : decode cX13_doQuotient 144 = .ok (.iload_n 2, 1) := by decide +kernel
theorem dX13_doQuotient_145 : decode cX13_doQuotient 145 = .ok (.invokevirtual 457, 3) := by decide +kernel
theorem dX13_doQuotient_148 : decode cX13_doQuotient 148 = .ok (.aload_n 0, 1) := by decide +kernel
theorem dX13_doQuotient_149 : decode cX13_doQuotient 149 = .ok (.aload_n 0, 1) := by decide +kernel
theorem dX13_doQuotient_150 : decode cX13_doQuotient 150 = .ok (.getfield 394, 3) := by decide +kernel
theorem dX13_doQuotient_153 : decode cX13_doQuotient 153 = .ok (.aload_n 0, 1) := by decide +kernel
theorem dX13_doQuotient_154 : decode cX13_doQuotient 154 = .ok (.getfield 403, 3) := by decide +kernel
theorem dX13_doQuotient_157 : decode cX13_doQuotient 157 = .ok (.iadd, 1) := by decide +kernel
theorem dX13_doQuotient_158 : decode cX13_doQuotient 158 = .ok (.aload_n 0, 1) := by decide +kernel
theorem dX13_doQuotient_159 : decode cX13_doQuotient 159 = .ok (.getfield 406, 3) := by decide +kernel
theorem dX13_doQuotient_162 : decode cX13_doQuotient 162 = .ok (.isub, 1) := by decide +kernel
theorem dX13_doQuotient_163 : decode cX13_doQuotient 163 = .ok (.aload_n 0, 1) := by decide +kernel
theorem dX13_doQuotient_164 : decode cX13_doQuotient 164 = .ok (.getfield 406, 3) := by decide +kernel
theorem dX13_doQuotient_167 : decode cX13_doQuotient 167 = .ok (.aload_n 0, 1) := by decide +kernel
theorem dX13_doQuotient_168 : decode cX13_doQuotient 168 = .ok (.getfield 136, 3) := by decide +kernel
theorem dX13_doQuotient_171 : decode cX13_doQuotient 171 = .ok (.iload_n 1, 1) := by decide +kernel
theorem dX13_doQuotient_172 : decode cX13_doQuotient 172 = .ok (.invokevirtual 457, 3) := by decide +kernel
theorem dX13_doQuotient_175 : decode cX13_doQuotient 175 = .ok (.return_, 1) := by decide +kernel
theorem dX13_doShift_0 : decode cX13_doShift 0 = .ok (.aload_n 0, 1) := by decide +kernel
theorem dX13_doShift_1 : decode cX13_doShift 1 = .ok (.aload_n 0, 1) := by decide +kernel
theorem dX13_doShift_2 : decode cX13_doShift 2 = .ok (.getfield 394, 3) := by decide +kernel
theorem dX13_doShift_5 : decode cX13_doShift 5 = .ok (.aload_n 0, 1) := by decide +kernel
theorem dX13_doShift_6 : decode cX13_doShift 6 = .ok (.getfield 403, 3) := by decide +kernel
theorem dX13_doShift_9 : decode cX13_doShift 9 = .ok (.invokevirtual 472, 3) := by decide +kernel
theorem dX13_doShift_12 : decode cX13_doShift 12 = .ok (.invokestatic 475, 3) := by decide +kernel
theorem dX13_doShift_15 : decode cX13_doShift 15 = .ok (.istore_n 3, 1) := by decide +kernel
theorem dX13_doShift_16 : decode cX13_doShift 16 = .ok (.aload_n 0, 1) := by decide +kernel
theorem dX13_doShift_17 : decode cX13_doShift 17 = .ok (.aload_n 0, 1) := by decide +kernel
theorem dX13_doShift_18 : decode cX13_doShift 18 = .ok (.getfield 126, 3) := by decide +kernel
theorem dX13_doShift_21 : decode cX13_doShift 21 = .ok (.aload_n 0, 1) := by decide +kernel
theorem dX13_doShift_22 : decode cX13_doShift 22 = .ok (.getfield 394, 3) := by decide +kernel
theorem dX13_doShift_25 : decode cX13_doShift 25 = .ok (.aload_n 0, 1) := by decide +kernel
theorem dX13_doShift_26 : decode cX13_doShift 26 = .ok (.getfield 403, 3) := by decide +kernel
theorem dX13_doShift_29 : decode cX13_doShift 29 = .ok (.invokevirtual 478, 3) := by decide +kernel
theorem dX13_doShift_32 : decode cX13_doShift 32 = .ok (.aload_n 0, 1) := by decide +kernel
theorem dX13_doShift_33 : decode cX13_doShift 33 = .ok (.getfield 130, 3) := by decide +kernel
theorem dX13_doShift_36 : decode cX13_doShift 36 = .ok (.invokestatic 370, 3) := by decide +kernel
theorem dX13_doShift_39 : decode cX13_doShift 39 = .ok (.aload_n 0, 1) := by decide +kernel
theorem dX13_doShift_40 : decode cX13_doShift 40 = .ok (.getfield 133, 3) := by decide +kernel
theorem dX13_doShift_43 : decode cX13_doShift 43 = .ok (.invokestatic 370, 3) := by decide +kernel
theorem dX13_doShift_46 : decode cX13_doShift 46 = .ok (.iconst 0, 1) := by decide +kernel
theorem dX13_doShift_47 : decode cX13_doShift 47 = .ok (.iload_n 1, 1) := by decide +kernel
theorem dX13_doShift_48 : decode cX13_doShift 48 = .ok (.ineg, 1) := by decide +kernel
theorem dX13_doShift_49 : decode cX13_doShift 49 = .ok (.invokestatic 494, 3) := by decide +kernel
theorem dX13_doShift_52 : decode cX13_doShift 52 = .ok (.istore 4, 2) := by decide +kernel
theorem dX13_doShift_54 : decode cX13_doShift 54 = .ok (.iload 4, 2) := by decide +kernel
theorem dX13_doShift_56 : decode cX13_doShift 56 = .ok (.iconst 2, 1) := by decide +kernel
theorem dX13_doShift_57 : decode cX13_doShift 57 = .ok (.aload_n 0, 1) := by decide +kernel
theorem dX13_doShift_58 : decode cX13_doShift 58 = .ok (.getfield 403, 3) := by decide +kernel
theorem dX13_doShift_61 : decode cX13_doShift 61 = .ok (.imul, 1) := by decide +kernel
theorem dX13_doShift_62 : decode cX13_doShift 62 = .ok (.iconst 1, 1) := by decide +kernel
theorem dX13_doShift_63 : decode cX13_doShift 63 = .ok (.isub, 1) := by decide +kernel
theorem dX13_doShift_64 : decode cX13_doShift 64 = .ok (.if_icmp .ge 29, 3) := by decide +kernel
theorem dX13_doShift_67 : decode cX13_doShift 67 = .ok (.aload_n 0, 1) := by decide +kernel
theorem dX13_doShift_68 : decode cX13_doShift 68 = .ok (.getfield 133, 3) := by decide +kernel
theorem dX13_doShift_71 : decode cX13_doShift 71 = .ok (.iload 4, 2) := by decide +kernel
theorem dX13_doShift_73 : decode cX13_doShift 73 = .ok (.iload_n 1, 1) := by decide +kernel
theorem dX13_doShift_74 : decode cX13_doShift 74 = .ok (.iadd, 1) := by decide +kernel
theorem dX13_doShift_75 : decode cX13_doShift 75 = .ok (.aload_n 0, 1) := by decide +kernel
theorem dX13_doShift_76 : decode cX13_doShift 76 = .ok (.getfield 126, 3) := by decide +kernel
theorem dX13_doShift_79 : decode cX13_doShift 79 = .ok (.iload 4, 2) := by decide +kernel
theorem dX13_doShift_81 : decode cX13_doShift 81 = .ok (.invokestatic 364, 3) := by decide +kernel
theorem dX13_doShift_84 : decode cX13_doShift 84 = .ok (.invokestatic 377, 3) := by decide +kernel
theorem dX13_doShift_87 : decode cX13_doShift 87 = .ok (.iinc 4 1, 3) := by decide +kernel
theorem dX13_doShift_90 : decode cX13_doShift 90 = .ok (.goto (-36), 3) := by decide +kernel
theorem dX13_doShift_93 : decode cX13_doShift 93 = .ok (.iload_n 1, 1) := by decide +kernel
theorem dX13_doShift_94 : decode cX13_doShift 94 = .ok (.ifCond .ge 32, 3) := by decide +kernel
theorem dX13_doShift_97 : decode cX13_doShift 97 = .ok (.aload_n 0, 1) := by decide +kernel
theorem dX13_doShift_98 : decode cX13_doShift 98 = .ok (.getfield 130, 3) := by decide +kernel
theorem dX13_doShift_101 : decode cX13_doShift 101 = .ok (.iconst 0, 1) := by decide +kernel
theorem dX13_doShift_102 : decode cX13_doShift 102 = .ok (.aload_n 0, 1) := by decide +kernel
theorem dX13_doShift_103 : decode cX13_doShift 103 = .ok (.getfield 126, 3) := by decide +kernel
theorem dX13_doShift_106 : decode cX13_doShift 106 = .ok (.iload_n 1, 1) := by decide +kernel
theorem dX13_doShift_107 : decode cX13_doShift 107 = .ok (.ineg, 1) := by decide +kernel
theorem dX13_doShift_108 : decode cX13_doShift 108 = .ok (.iconst 1, 1) := by decide +kernel
theorem dX13_doShift_109 : decode cX13_doShift 109 = .ok (.isub, 1) := by decide +kernel
theorem dX13_doShift_110 : decode cX13_doShift 110 = .ok (.invokestatic 364, 3) := by decide +kernel
theorem dX13_doShift_113 : decode cX13_doShift 113 = .ok (.iload_n 2, 1) := by decide +kernel
theorem dX13_doShift_114 : decode cX13_doShift 114 = .ok (.iadd, 1) := by decide +kernel
theorem dX13_doShift_115 : decode cX13_doShift 115 = .ok (.bipush 9, 2) := by decide +kernel
theorem dX13_doShift_117 : decode cX13_doShift 117 = .ok (.if_icmp .le 7, 3) := by decide +kernel
theorem dX13_doShift_120 : decode cX13_doShift 120 = .ok (.lconst 1, 1) := by decide +kernel
theorem dX13_doShift_121 : decode cX13_doShift 121 = .ok (.goto 4, 3) := by decide +kernel
theorem dX13_doShift_124 : decode cX13_doShift 124 = .ok (.lconst 0, 1) := by decide +kernel
theorem dX13_doShift_125 : decode cX13_doShift 125 = .ok (.lastore, 1) := by decide +kernel
theorem dX13_doShift_126 : decode cX13_doShift 126 = .ok (.aload_n 0, 1) := by decide +kernel
theorem dX13_doShift_127 : decode cX13_doShift 127 = .ok (.getfield 133, 3) := by decide +kernel
theorem dX13_doShift_130 : decode cX13_doShift 130 = .ok (.aload_n 0, 1) := by decide +kernel
theorem dX13_doShift_131 : decode cX13_doShift 131 = .ok (.getfield 133, 3) := by decide +kernel
theorem dX13_doShift_134 : decode cX13_doShift 134 = .ok (.aload_n 0, 1) := by decide +kernel
theorem dX13_doShift_135 : decode cX13_doShift 135 = .ok (.getfield 130, 3) := by decide +kernel
theorem dX13_doShift_138 : decode cX13_doShift 138 = .ok (.invokestatic 461, 3) := by decide +kernel
theorem dX13_doShift_141 : decode cX13_doShift 141 = .ok (.aload_n 0, 1) := by decide +kernel
theorem dX13_doShift_142 : decode cX13_doShift 142 = .ok (.aload_n 0, 1) := by decide +kernel
theorem dX13_doShift_143 : decode cX13_doShift 143 = .ok (.getfield 133, 3) := by decide +kernel
theorem dX13_doShift_146 : decode cX13_doShift 146 = .ok (.iload_n 3, 1) := by decide +kernel
theorem dX13_doShift_147 : decode cX13_doShift 147 = .ok (.invokevirtual 480, 3) := by decide +kernel
theorem dX13_doShift_150 : decode cX13_doShift 150 = .ok (.return_, 1) := by decide +kernel
theorem dX13_rightAt_0 : decode cX13_rightAt 0 = .ok (.iload_n 2, 1) := by decide +kernel
theorem dX13_rightAt_1 : decode cX13_rightAt 1 = .ok (.ifCond .ge 7, 3) := by decide +kernel
theorem dX13_rightAt_4 : decode cX13_rightAt 4 = .ok (.iconst 0, 1) := by decide +kernel
theorem dX13_rightAt_5 : decode cX13_rightAt 5 = .ok (.goto 14, 3) := by decide +kernel
theorem dX13_rightAt_8 : decode cX13_rightAt 8 = .ok (.aload_n 0, 1) := by decide +kernel
theorem dX13_rightAt_9 : decode cX13_rightAt 9 = .ok (.getfield 76, 3) := by decide +kernel
theorem dX13_rightAt_12 : decode cX13_rightAt 12 = .ok (.iload_n 1, 1) := by decide +kernel
theorem dX13_rightAt_13 : decode cX13_rightAt 13 = .ok (.iload_n 2, 1) := by decide +kernel
theorem dX13_rightAt_14 : decode cX13_rightAt 14 = .ok (.iadd, 1) := by decide +kernel
theorem dX13_rightAt_15 : decode cX13_rightAt 15 = .ok (.iaload, 1) := by decide +kernel
theorem dX13_rightAt_16 : decode cX13_rightAt 16 = .ok (.bipush 15, 2) := by decide +kernel
theorem dX13_rightAt_18 : decode cX13_rightAt 18 = .ok (.iand, 1) := by decide +kernel
theorem dX13_rightAt_19 : decode cX13_rightAt 19 = .ok (.ireturn, 1) := by decide +kernel
theorem dX13_doPack_0 : decode cX13_doPack 0 = .ok (.aload_n 0, 1) := by decide +kernel
theorem dX13_doPack_1 : decode cX13_doPack 1 = .ok (.getfield 76, 3) := by decide +kernel
theorem dX13_doPack_4 : decode cX13_doPack 4 = .ok (.aload_n 0, 1) := by decide +kernel
theorem dX13_doPack_5 : decode cX13_doPack 5 = .ok (.getfield 397, 3) := by decide +kernel
theorem dX13_doPack_8 : decode cX13_doPack 8 = .ok (.aload_n 0, 1) := by decide +kernel
theorem dX13_doPack_9 : decode cX13_doPack 9 = .ok (.getfield 406, 3) := by decide +kernel
theorem dX13_doPack_12 : decode cX13_doPack 12 = .ok (.iadd, 1) := by decide +kernel
theorem dX13_doPack_13 : decode cX13_doPack 13 = .ok (.iconst 1, 1) := by decide +kernel
theorem dX13_doPack_14 : decode cX13_doPack 14 = .ok (.isub, 1) := by decide +kernel
theorem dX13_doPack_15 : decode cX13_doPack 15 = .ok (.iaload, 1) := by decide +kernel
theorem dX13_doPack_16 : decode cX13_doPack 16 = .ok (.istore_n 1, 1) := by decide +kernel
theorem dX13_doPack_17 : decode cX13_doPack 17 = .ok (.aload_n 0, 1) := by decide +kernel
theorem dX13_doPack_18 : decode cX13_doPack 18 = .ok (.getfield 76, 3) := by decide +kernel
theorem dX13_doPack_21 : decode cX13_doPack 21 = .ok (.aload_n 0, 1) := by decide +kernel
theorem dX13_doPack_22 : decode cX13_doPack 22 = .ok (.getfield 394, 3) := by decide +kernel
theorem dX13_doPack_25 : decode cX13_doPack 25 = .ok (.aload_n 0, 1) := by decide +kernel
theorem dX13_doPack_26 : decode cX13_doPack 26 = .ok (.getfield 403, 3) := by decide +kernel
theorem dX13_doPack_29 : decode cX13_doPack 29 = .ok (.iadd, 1) := by decide +kernel
theorem dX13_doPack_30 : decode cX13_doPack 30 = .ok (.iconst 1, 1) := by decide +kernel
theorem dX13_doPack_31 : decode cX13_doPack 31 = .ok (.isub, 1) := by decide +kernel
theorem dX13_doPack_32 : decode cX13_doPack 32 = .ok (.bipush 16, 2) := by decide +kernel
theorem dX13_doPack_34 : decode cX13_doPack 34 = .ok (.iload_n 1, 1) := by decide +kernel
theorem dX13_doPack_35 : decode cX13_doPack 35 = .ok (.bipush 15, 2) := by decide +kernel
theorem dX13_doPack_37 : decode cX13_doPack 37 = .ok (.iand, 1) := by decide +kernel
theorem dX13_doPack_38 : decode cX13_doPack 38 = .ok (.imul, 1) := by decide +kernel
theorem dX13_doPack_39 : decode cX13_doPack 39 = .ok (.iload_n 1, 1) := by decide +kernel
theorem dX13_doPack_40 : decode cX13_doPack 40 = .ok (.iconst 4, 1) := by decide +kernel
theorem dX13_doPack_41 : decode cX13_doPack 41 = .ok (.ishr, 1) := by decide +kernel
theorem dX13_doPack_42 : decode cX13_doPack 42 = .ok (.iadd, 1) := by decide +kernel
theorem dX13_doPack_43 : decode cX13_doPack 43 = .ok (.iastore, 1) := by decide +kernel
theorem dX13_doPack_44 : decode cX13_doPack 44 = .ok (.iconst 2, 1) := by decide +kernel
theorem dX13_doPack_45 : decode cX13_doPack 45 = .ok (.istore_n 2, 1) := by decide +kernel
theorem dX13_doPack_46 : decode cX13_doPack 46 = .ok (.iload_n 2, 1) := by decide +kernel
theorem dX13_doPack_47 : decode cX13_doPack 47 = .ok (.aload_n 0, 1) := by decide +kernel
theorem dX13_doPack_48 : decode cX13_doPack 48 = .ok (.getfield 403, 3) := by decide +kernel
theorem dX13_doPack_51 : decode cX13_doPack 51 = .ok (.if_icmp .gt 60, 3) := by decide +kernel
theorem dX13_doPack_54 : decode cX13_doPack 54 = .ok (.aload_n 0, 1) := by decide +kernel
theorem dX13_doPack_55 : decode cX13_doPack 55 = .ok (.getfield 406, 3) := by decide +kernel
theorem dX13_doPack_58 : decode cX13_doPack 58 = .ok (.iconst 2, 1) := by decide +kernel
theorem dX13_doPack_59 : decode cX13_doPack 59 = .ok (.iload_n 2, 1) := by decide +kernel
theorem dX13_doPack_60 : decode cX13_doPack 60 = .ok (.iconst 1, 1) := by decide +kernel
theorem dX13_doPack_61 : decode cX13_doPack 61 = .ok (.isub, 1) := by decide +kernel
theorem dX13_doPack_62 : decode cX13_doPack 62 = .ok (.imul, 1) := by decide +kernel
theorem dX13_doPack_63 : decode cX13_doPack 63 = .ok (.isub, 1) := by decide +kernel
theorem dX13_doPack_64 : decode cX13_doPack 64 = .ok (.istore_n 3, 1) := by decide +kernel
theorem dX13_doPack_65 : decode cX13_doPack 65 = .ok (.aload_n 0, 1) := by decide +kernel
theorem dX13_doPack_66 : decode cX13_doPack 66 = .ok (.getfield 76, 3) := by decide +kernel
theorem dX13_doPack_69 : decode cX13_doPack 69 = .ok (.aload_n 0, 1) := by decide +kernel
theorem dX13_doPack_70 : decode cX13_doPack 70 = .ok (.getfield 394, 3) := by decide +kernel
theorem dX13_doPack_73 : decode cX13_doPack 73 = .ok (.aload_n 0, 1) := by decide +kernel
theorem dX13_doPack_74 : decode cX13_doPack 74 = .ok (.getfield 403, 3) := by decide +kernel
theorem dX13_doPack_77 : decode cX13_doPack 77 = .ok (.iadd, 1) := by decide +kernel
theorem dX13_doPack_78 : decode cX13_doPack 78 = .ok (.iload_n 2, 1) := by decide +kernel
theorem dX13_doPack_79 : decode cX13_doPack 79 = .ok (.isub, 1) := by decide +kernel
theorem dX13_doPack_80 : decode cX13_doPack 80 = .ok (.bipush 16, 2) := by decide +kernel
theorem dX13_doPack_82 : decode cX13_doPack 82 = .ok (.aload_n 0, 1) := by decide +kernel
theorem dX13_doPack_83 : decode cX13_doPack 83 = .ok (.aload_n 0, 1) := by decide +kernel
theorem dX13_doPack_84 : decode cX13_doPack 84 = .ok (.getfield 397, 3) := by decide +kernel
theorem dX13_doPack_87 : decode cX13_doPack 87 = .ok (.iload_n 3, 1) := by decide +kernel
theorem dX13_doPack_88 : decode cX13_doPack 88 = .ok (.iconst 1, 1) := by decide +kernel
theorem dX13_doPack_89 : decode cX13_doPack 89 = .ok (.isub, 1) := by decide +kernel
theorem dX13_doPack_90 : decode cX13_doPack 90 = .ok (.invokevirtual 497, 3) := by decide +kernel
theorem dX13_doPack_93 : decode cX13_doPack 93 = .ok (.imul, 1) := by decide +kernel
theorem dX13_doPack_94 : decode cX13_doPack 94 = .ok (.aload_n 0, 1) := by decide +kernel
theorem dX13_doPack_95 : decode cX13_doPack 95 = .ok (.aload_n 0, 1) := by decide +kernel
theorem dX13_doPack_96 : decode cX13_doPack 96 = .ok (.getfield 397, 3) := by decide +kernel
theorem dX13_doPack_99 : decode cX13_doPack 99 = .ok (.iload_n 3, 1) := by decide +kernel
theorem dX13_doPack_100 : decode cX13_doPack 100 = .ok (.invokevirtual 497, 3) := by decide +kernel
theorem dX13_doPack_103 : decode cX13_doPack 103 = .ok (.iadd, 1) := by decide +kernel
theorem dX13_doPack_104 : decode cX13_doPack 104 = .ok (.iastore, 1) := by decide +kernel
theorem dX13_doPack_105 : decode cX13_doPack 105 = .ok (.iinc 2 1, 3) := by decide +kernel
theorem dX13_doPack_108 : decode cX13_doPack 108 = .ok (.goto (-62), 3) := by decide +kernel
theorem dX13_doPack_111 : decode cX13_doPack 111 = .ok (.return_, 1) := by decide +kernel
theorem dX13_doUnpack_0 : decode cX13_doUnpack 0 = .ok (.aload_n 0, 1) := by decide +kernel
theorem dX13_doUnpack_1 : decode cX13_doUnpack 1 = .ok (.getfield 76, 3) := by decide +kernel
theorem dX13_doUnpack_4 : decode cX13_doUnpack 4 = .ok (.aload_n 0, 1) := by decide +kernel
theorem dX13_doUnpack_5 : decode cX13_doUnpack 5 = .ok (.getfield 397, 3) := by decide +kernel
theorem dX13_doUnpack_8 : decode cX13_doUnpack 8 = .ok (.aload_n 0, 1) := by decide +kernel
theorem dX13_doUnpack_9 : decode cX13_doUnpack 9 = .ok (.getfield 406, 3) := by decide +kernel
theorem dX13_doUnpack_12 : decode cX13_doUnpack 12 = .ok (.iadd, 1) := by decide +kernel
theorem dX13_doUnpack_13 : decode cX13_doUnpack 13 = .ok (.iconst 1, 1) := by decide +kernel
theorem dX13_doUnpack_14 : decode cX13_doUnpack 14 = .ok (.isub, 1) := by decide +kernel
theorem dX13_doUnpack_15 : decode cX13_doUnpack 15 = .ok (.iaload, 1) := by decide +kernel
theorem dX13_doUnpack_16 : decode cX13_doUnpack 16 = .ok (.istore_n 1, 1) := by decide +kernel
theorem dX13_doUnpack_17 : decode cX13_doUnpack 17 = .ok (.aload_n 0, 1) := by decide +kernel
theorem dX13_doUnpack_18 : decode cX13_doUnpack 18 = .ok (.getfield 76, 3) := by decide +kernel
theorem dX13_doUnpack_21 : decode cX13_doUnpack 21 = .ok (.aload_n 0, 1) := by decide +kernel
theorem dX13_doUnpack_22 : decode cX13_doUnpack 22 = .ok (.getfield 394, 3) := by decide +kernel
theorem dX13_doUnpack_25 : decode cX13_doUnpack 25 = .ok (.aload_n 0, 1) := by decide +kernel
theorem dX13_doUnpack_26 : decode cX13_doUnpack 26 = .ok (.getfield 403, 3) := by decide +kernel
theorem dX13_doUnpack_29 : decode cX13_doUnpack 29 = .ok (.iadd, 1) := by decide +kernel
theorem dX13_doUnpack_30 : decode cX13_doUnpack 30 = .ok (.iconst 1, 1) := by decide +kernel
theorem dX13_doUnpack_31 : decode cX13_doUnpack 31 = .ok (.isub, 1) := by decide +kernel
theorem dX13_doUnpack_32 : decode cX13_doUnpack 32 = .ok (.bipush 16, 2) := by decide +kernel
theorem dX13_doUnpack_34 : decode cX13_doUnpack 34 = .ok (.iload_n 1, 1) := by decide +kernel
theorem dX13_doUnpack_35 : decode cX13_doUnpack 35 = .ok (.bipush 15, 2) := by decide +kernel
theorem dX13_doUnpack_37 : decode cX13_doUnpack 37 = .ok (.iand, 1) := by decide +kernel
theorem dX13_doUnpack_38 : decode cX13_doUnpack 38 = .ok (.imul, 1) := by decide +kernel
theorem dX13_doUnpack_39 : decode cX13_doUnpack 39 = .ok (.iload_n 1, 1) := by decide +kernel
theorem dX13_doUnpack_40 : decode cX13_doUnpack 40 = .ok (.iconst 4, 1) := by decide +kernel
theorem dX13_doUnpack_41 : decode cX13_doUnpack 41 = .ok (.ishr, 1) := by decide +kernel
theorem dX13_doUnpack_42 : decode cX13_doUnpack 42 = .ok (.iadd, 1) := by decide +kernel
theorem dX13_doUnpack_43 : decode cX13_doUnpack 43 = .ok (.iastore, 1) := by decide +kernel
theorem dX13_doUnpack_44 : decode cX13_doUnpack 44 = .ok (.aload_n 0, 1) := by decide +kernel
theorem dX13_doUnpack_45 : decode cX13_doUnpack 45 = .ok (.getfield 406, 3) := by decide +kernel
theorem dX13_doUnpack_48 : decode cX13_doUnpack 48 = .ok (.iconst 1, 1) := by decide +kernel
theorem dX13_doUnpack_49 : decode cX13_doUnpack 49 = .ok (.isub, 1) := by decide +kernel
theorem dX13_doUnpack_50 : decode cX13_doUnpack 50 = .ok (.istore_n 2, 1) := by decide +kernel
theorem dX13_doUnpack_51 : decode cX13_doUnpack 51 = .ok (.iconst 2, 1) := by decide +kernel
theorem dX13_doUnpack_52 : decode cX13_doUnpack 52 = .ok (.istore_n 3, 1) := by decide +kernel
theorem dX13_doUnpack_53 : decode cX13_doUnpack 53 = .ok (.iload_n 3, 1) := by decide +kernel
theorem dX13_doUnpack_54 : decode cX13_doUnpack 54 = .ok (.aload_n 0, 1) := by decide +kernel
theorem dX13_doUnpack_55 : decode cX13_doUnpack 55 = .ok (.getfield 403, 3) := by decide +kernel
theorem dX13_doUnpack_58 : decode cX13_doUnpack 58 = .ok (.if_icmp .gt 74, 3) := by decide +kernel
theorem dX13_doUnpack_61 : decode cX13_doUnpack 61 = .ok (.iload_n 3, 1) := by decide +kernel
theorem dX13_doUnpack_62 : decode cX13_doUnpack 62 = .ok (.iconst 2, 1) := by decide +kernel
theorem dX13_doUnpack_63 : decode cX13_doUnpack 63 = .ok (.irem, 1) := by decide +kernel
theorem dX13_doUnpack_64 : decode cX13_doUnpack 64 = .ok (.ifCond .ne 26, 3) := by decide +kernel
theorem dX13_doUnpack_67 : decode cX13_doUnpack 67 = .ok (.iinc 2 (-1), 3) := by decide +kernel
theorem dX13_doUnpack_70 : decode cX13_doUnpack 70 = .ok (.iload_n 2, 1) := by decide +kernel
theorem dX13_doUnpack_71 : decode cX13_doUnpack 71 = .ok (.ifCond .ge 7, 3) := by decide +kernel
theorem dX13_doUnpack_74 : decode cX13_doUnpack 74 = .ok (.iconst 0, 1) := by decide +kernel
theorem dX13_doUnpack_75 : decode cX13_doUnpack 75 = .ok (.goto 14, 3) := by decide +kernel
theorem dX13_doUnpack_78 : decode cX13_doUnpack 78 = .ok (.aload_n 0, 1) := by decide +kernel
theorem dX13_doUnpack_79 : decode cX13_doUnpack 79 = .ok (.getfield 76, 3) := by decide +kernel
theorem dX13_doUnpack_82 : decode cX13_doUnpack 82 = .ok (.aload_n 0, 1) := by decide +kernel
theorem dX13_doUnpack_83 : decode cX13_doUnpack 83 = .ok (.getfield 397, 3) := by decide +kernel
theorem dX13_doUnpack_86 : decode cX13_doUnpack 86 = .ok (.iload_n 2, 1) := by decide +kernel
theorem dX13_doUnpack_87 : decode cX13_doUnpack 87 = .ok (.iadd, 1) := by decide +kernel
theorem dX13_doUnpack_88 : decode cX13_doUnpack 88 = .ok (.iaload, 1) := by decide +kernel
theorem dX13_doUnpack_89 : decode cX13_doUnpack 89 = .ok (.istore_n 1, 1) := by decide +kernel
theorem dX13_doUnpack_90 : decode cX13_doUnpack 90 = .ok (.aload_n 0, 1) := by decide +kernel
theorem dX13_doUnpack_91 : decode cX13_doUnpack 91 = .ok (.getfield 76, 3) := by decide +kernel
theorem dX13_doUnpack_94 : decode cX13_doUnpack 94 = .ok (.aload_n 0, 1) := by decide +kernel
theorem dX13_doUnpack_95 : decode cX13_doUnpack 95 = .ok (.getfield 394, 3) := by decide +kernel
theorem dX13_doUnpack_98 : decode cX13_doUnpack 98 = .ok (.aload_n 0, 1) := by decide +kernel
theorem dX13_doUnpack_99 : decode cX13_doUnpack 99 = .ok (.getfield 403, 3) := by decide +kernel
theorem dX13_doUnpack_102 : decode cX13_doUnpack 102 = .ok (.iadd, 1) := by decide +kernel
theorem dX13_doUnpack_103 : decode cX13_doUnpack 103 = .ok (.iload_n 3, 1) := by decide +kernel
theorem dX13_doUnpack_104 : decode cX13_doUnpack 104 = .ok (.isub, 1) := by decide +kernel
theorem dX13_doUnpack_105 : decode cX13_doUnpack 105 = .ok (.sipush 240, 3) := by decide +kernel
theorem dX13_doUnpack_108 : decode cX13_doUnpack 108 = .ok (.iload_n 3, 1) := by decide +kernel
theorem dX13_doUnpack_109 : decode cX13_doUnpack 109 = .ok (.iconst 2, 1) := by decide +kernel
theorem dX13_doUnpack_110 : decode cX13_doUnpack 110 = .ok (.irem, 1) := by decide +kernel
theorem dX13_doUnpack_111 : decode cX13_doUnpack 111 = .ok (.ifCond .ne 10, 3) := by decide +kernel
theorem dX13_doUnpack_114 : decode cX13_doUnpack 114 = .ok (.iload_n 1, 1) := by decide +kernel
theorem dX13_doUnpack_115 : decode cX13_doUnpack 115 = .ok (.bipush 15, 2) := by decide +kernel
theorem dX13_doUnpack_117 : decode cX13_doUnpack 117 = .ok (.iand, 1) := by decide +kernel
theorem dX13_doUnpack_118 : decode cX13_doUnpack 118 = .ok (.goto 6, 3) := by decide +kernel
theorem dX13_doUnpack_121 : decode cX13_doUnpack 121 = .ok (.iload_n 1, 1) := by decide +kernel
theorem dX13_doUnpack_122 : decode cX13_doUnpack 122 = .ok (.iconst 4, 1) := by decide +kernel
theorem dX13_doUnpack_123 : decode cX13_doUnpack 123 = .ok (.ishr, 1) := by decide +kernel
theorem dX13_doUnpack_124 : decode cX13_doUnpack 124 = .ok (.iadd, 1) := by decide +kernel
theorem dX13_doUnpack_125 : decode cX13_doUnpack 125 = .ok (.iastore, 1) := by decide +kernel
theorem dX13_doUnpack_126 : decode cX13_doUnpack 126 = .ok (.iinc 3 1, 3) := by decide +kernel
theorem dX13_doUnpack_129 : decode cX13_doUnpack 129 = .ok (.goto (-76), 3) := by decide +kernel
theorem dX13_doUnpack_132 : decode cX13_doUnpack 132 = .ok (.return_, 1) := by decide +kernel
theorem dX13_doOffset_0 : decode cX13_doOffset 0 = .ok (.aload_n 0, 1) := by decide +kernel
theorem dX13_doOffset_1 : decode cX13_doOffset 1 = .ok (.getfield 76, 3) := by decide +kernel
theorem dX13_doOffset_4 : decode cX13_doOffset 4 = .ok (.aload_n 0, 1) := by decide +kernel
theorem dX13_doOffset_5 : decode cX13_doOffset 5 = .ok (.getfield 394, 3) := by decide +kernel
theorem dX13_doOffset_8 : decode cX13_doOffset 8 = .ok (.aload_n 0, 1) := by decide +kernel
theorem dX13_doOffset_9 : decode cX13_doOffset 9 = .ok (.getfield 403, 3) := by decide +kernel
theorem dX13_doOffset_12 : decode cX13_doOffset 12 = .ok (.iadd, 1) := by decide +kernel
theorem dX13_doOffset_13 : decode cX13_doOffset 13 = .ok (.iconst 1, 1) := by decide +kernel
theorem dX13_doOffset_14 : decode cX13_doOffset 14 = .ok (.isub, 1) := by decide +kernel
theorem dX13_doOffset_15 : decode cX13_doOffset 15 = .ok (.iaload, 1) := by decide +kernel
theorem dX13_doOffset_16 : decode cX13_doOffset 16 = .ok (.bipush 15, 2) := by decide +kernel
theorem dX13_doOffset_18 : decode cX13_doOffset 18 = .ok (.iand, 1) := by decide +kernel
theorem dX13_doOffset_19 : decode cX13_doOffset 19 = .ok (.istore_n 1, 1) := by decide +kernel
theorem dX13_doOffset_20 : decode cX13_doOffset 20 = .ok (.aload_n 0, 1) := by decide +kernel
theorem dX13_doOffset_21 : decode cX13_doOffset 21 = .ok (.getfield 76, 3) := by decide +kernel
theorem dX13_doOffset_24 : decode cX13_doOffset 24 = .ok (.aload_n 0, 1) := by decide +kernel
theorem dX13_doOffset_25 : decode cX13_doOffset 25 = .ok (.getfield 397, 3) := by decide +kernel
theorem dX13_doOffset_28 : decode cX13_doOffset 28 = .ok (.aload_n 0, 1) := by decide +kernel
theorem dX13_doOffset_29 : decode cX13_doOffset 29 = .ok (.getfield 406, 3) := by decide +kernel
theorem dX13_doOffset_32 : decode cX13_doOffset 32 = .ok (.iadd, 1) := by decide +kernel
theorem dX13_doOffset_33 : decode cX13_doOffset 33 = .ok (.iconst 1, 1) := by decide +kernel
theorem dX13_doOffset_34 : decode cX13_doOffset 34 = .ok (.isub, 1) := by decide +kernel
theorem dX13_doOffset_35 : decode cX13_doOffset 35 = .ok (.iaload, 1) := by decide +kernel
theorem dX13_doOffset_36 : decode cX13_doOffset 36 = .ok (.istore_n 2, 1) := by decide +kernel
theorem dX13_doOffset_37 : decode cX13_doOffset 37 = .ok (.aload_n 0, 1) := by decide +kernel
theorem dX13_doOffset_38 : decode cX13_doOffset 38 = .ok (.getfield 76, 3) := by decide +kernel
theorem dX13_doOffset_41 : decode cX13_doOffset 41 = .ok (.aload_n 0, 1) := by decide +kernel
theorem dX13_doOffset_42 : decode cX13_doOffset 42 = .ok (.getfield 394, 3) := by decide +kernel
theorem dX13_doOffset_45 : decode cX13_doOffset 45 = .ok (.aload_n 0, 1) := by decide +kernel
theorem dX13_doOffset_46 : decode cX13_doOffset 46 = .ok (.getfield 403, 3) := by decide +kernel
theorem dX13_doOffset_49 : decode cX13_doOffset 49 = .ok (.iadd, 1) := by decide +kernel
theorem dX13_doOffset_50 : decode cX13_doOffset 50 = .ok (.iconst 1, 1) := by decide +kernel
theorem dX13_doOffset_51 : decode cX13_doOffset 51 = .ok (.isub, 1) := by decide +kernel
theorem dX13_doOffset_52 : decode cX13_doOffset 52 = .ok (.bipush 16, 2) := by decide +kernel
theorem dX13_doOffset_54 : decode cX13_doOffset 54 = .ok (.iload_n 2, 1) := by decide +kernel
theorem dX13_doOffset_55 : decode cX13_doOffset 55 = .ok (.bipush 15, 2) := by decide +kernel
theorem dX13_doOffset_57 : decode cX13_doOffset 57 = .ok (.iand, 1) := by decide +kernel
theorem dX13_doOffset_58 : decode cX13_doOffset 58 = .ok (.imul, 1) := by decide +kernel
theorem dX13_doOffset_59 : decode cX13_doOffset 59 = .ok (.iload_n 1, 1) := by decide +kernel
theorem dX13_doOffset_60 : decode cX13_doOffset 60 = .ok (.iadd, 1) := by decide +kernel
theorem dX13_doOffset_61 : decode cX13_doOffset 61 = .ok (.iastore, 1) := by decide +kernel
theorem dX13_doOffset_62 : decode cX13_doOffset 62 = .ok (.iconst 2, 1) := by decide +kernel
theorem dX13_doOffset_63 : decode cX13_doOffset 63 = .ok (.istore_n 3, 1) := by decide +kernel
theorem dX13_doOffset_64 : decode cX13_doOffset 64 = .ok (.iload_n 3, 1) := by decide +kernel
theorem dX13_doOffset_65 : decode cX13_doOffset 65 = .ok (.aload_n 0, 1) := by decide +kernel
theorem dX13_doOffset_66 : decode cX13_doOffset 66 = .ok (.getfield 403, 3) := by decide +kernel
theorem dX13_doOffset_69 : decode cX13_doOffset 69 = .ok (.if_icmp .gt 70, 3) := by decide +kernel
theorem dX13_doOffset_72 : decode cX13_doOffset 72 = .ok (.iload_n 2, 1) := by decide +kernel
theorem dX13_doOffset_73 : decode cX13_doOffset 73 = .ok (.iconst 4, 1) := by decide +kernel
theorem dX13_doOffset_74 : decode cX13_doOffset 74 = .ok (.ishr, 1) := by decide +kernel
theorem dX13_doOffset_75 : decode cX13_doOffset 75 = .ok (.istore 4, 2) := by decide +kernel
theorem dX13_doOffset_77 : decode cX13_doOffset 77 = .ok (.aload_n 0, 1) := by decide +kernel
theorem dX13_doOffset_78 : decode cX13_doOffset 78 = .ok (.getfield 406, 3) := by decide +kernel
theorem dX13_doOffset_81 : decode cX13_doOffset 81 = .ok (.iload_n 3, 1) := by decide +kernel
theorem dX13_doOffset_82 : decode cX13_doOffset 82 = .ok (.isub, 1) := by decide +kernel
theorem dX13_doOffset_83 : decode cX13_doOffset 83 = .ok (.ifCond .ge 7, 3) := by decide +kernel
theorem dX13_doOffset_86 : decode cX13_doOffset 86 = .ok (.iconst 0, 1) := by decide +kernel
theorem dX13_doOffset_87 : decode cX13_doOffset 87 = .ok (.goto 19, 3) := by decide +kernel
theorem dX13_doOffset_90 : decode cX13_doOffset 90 = .ok (.aload_n 0, 1) := by decide +kernel
theorem dX13_doOffset_91 : decode cX13_doOffset 91 = .ok (.getfield 76, 3) := by decide +kernel
theorem dX13_doOffset_94 : decode cX13_doOffset 94 = .ok (.aload_n 0, 1) := by decide +kernel
theorem dX13_doOffset_95 : decode cX13_doOffset 95 = .ok (.getfield 397, 3) := by decide +kernel
theorem dX13_doOffset_98 : decode cX13_doOffset 98 = .ok (.aload_n 0, 1) := by decide +kernel
theorem dX13_doOffset_99 : decode cX13_doOffset 99 = .ok (.getfield 406, 3) := by decide +kernel
theorem dX13_doOffset_102 : decode cX13_doOffset 102 = .ok (.iadd, 1) := by decide +kernel
theorem dX13_doOffset_103 : decode cX13_doOffset 103 = .ok (.iload_n 3, 1) := by decide +kernel
theorem dX13_doOffset_104 : decode cX13_doOffset 104 = .ok (.isub, 1) := by decide +kernel
theorem dX13_doOffset_105 : decode cX13_doOffset 105 = .ok (.iaload, 1) := by decide +kernel
theorem dX13_doOffset_106 : decode cX13_doOffset 106 = .ok (.istore_n 2, 1) := by decide +kernel
theorem dX13_doOffset_107 : decode cX13_doOffset 107 = .ok (.aload_n 0, 1) := by decide +kernel
theorem dX13_doOffset_108 : decode cX13_doOffset 108 = .ok (.getfield 76, 3) := by decide +kernel
theorem dX13_doOffset_111 : decode cX13_doOffset 111 = .ok (.aload_n 0, 1) := by decide +kernel
theorem dX13_doOffset_112 : decode cX13_doOffset 112 = .ok (.getfield 394, 3) := by decide +kernel
theorem dX13_doOffset_115 : decode cX13_doOffset 115 = .ok (.aload_n 0, 1) := by decide +kernel
theorem dX13_doOffset_116 : decode cX13_doOffset 116 = .ok (.getfield 403, 3) := by decide +kernel
theorem dX13_doOffset_119 : decode cX13_doOffset 119 = .ok (.iadd, 1) := by decide +kernel
theorem dX13_doOffset_120 : decode cX13_doOffset 120 = .ok (.iload_n 3, 1) := by decide +kernel
theorem dX13_doOffset_121 : decode cX13_doOffset 121 = .ok (.isub, 1) := by decide +kernel
theorem dX13_doOffset_122 : decode cX13_doOffset 122 = .ok (.bipush 16, 2) := by decide +kernel
theorem dX13_doOffset_124 : decode cX13_doOffset 124 = .ok (.iload_n 2, 1) := by decide +kernel
theorem dX13_doOffset_125 : decode cX13_doOffset 125 = .ok (.bipush 15, 2) := by decide +kernel
theorem dX13_doOffset_127 : decode cX13_doOffset 127 = .ok (.iand, 1) := by decide +kernel
theorem dX13_doOffset_128 : decode cX13_doOffset 128 = .ok (.imul, 1) := by decide +kernel
theorem dX13_doOffset_129 : decode cX13_doOffset 129 = .ok (.iload 4, 2) := by decide +kernel
theorem dX13_doOffset_131 : decode cX13_doOffset 131 = .ok (.iadd, 1) := by decide +kernel
theorem dX13_doOffset_132 : decode cX13_doOffset 132 = .ok (.iastore, 1) := by decide +kernel
theorem dX13_doOffset_133 : decode cX13_doOffset 133 = .ok (.iinc 3 1, 3) := by decide +kernel
theorem dX13_doOffset_136 : decode cX13_doOffset 136 = .ok (.goto (-72), 3) := by decide +kernel
theorem dX13_doOffset_139 : decode cX13_doOffset 139 = .ok (.return_, 1) := by decide +kernel
theorem dX13_doCopy_0 : decode cX13_doCopy 0 = .ok (.iconst 0, 1) := by decide +kernel
theorem dX13_doCopy_1 : decode cX13_doCopy 1 = .ok (.istore_n 2, 1) := by decide +kernel
theorem dX13_doCopy_2 : decode cX13_doCopy 2 = .ok (.iload_n 2, 1) := by decide +kernel
theorem dX13_doCopy_3 : decode cX13_doCopy 3 = .ok (.aload_n 0, 1) := by decide +kernel
theorem dX13_doCopy_4 : decode cX13_doCopy 4 = .ok (.getfield 403, 3) := by decide +kernel
theorem dX13_doCopy_7 : decode cX13_doCopy 7 = .ok (.if_icmp .ge 76, 3) := by decide +kernel
theorem dX13_doCopy_10 : decode cX13_doCopy 10 = .ok (.iload_n 1, 1) := by decide +kernel
theorem dX13_doCopy_11 : decode cX13_doCopy 11 = .ok (.bipush 9, 2) := by decide +kernel
theorem dX13_doCopy_13 : decode cX13_doCopy 13 = .ok (.if_icmp .ne 7, 3) := by decide +kernel
theorem dX13_doCopy_16 : decode cX13_doCopy 16 = .ok (.iconst 0, 1) := by decide +kernel
theorem dX13_doCopy_17 : decode cX13_doCopy 17 = .ok (.goto 17, 3) := by decide +kernel
theorem dX13_doCopy_20 : decode cX13_doCopy 20 = .ok (.iload_n 1, 1) := by decide +kernel
theorem dX13_doCopy_21 : decode cX13_doCopy 21 = .ok (.bipush 10, 2) := by decide +kernel
theorem dX13_doCopy_23 : decode cX13_doCopy 23 = .ok (.if_icmp .ne 9, 3) := by decide +kernel
theorem dX13_doCopy_26 : decode cX13_doCopy 26 = .ok (.sipush 240, 3) := by decide +kernel
theorem dX13_doCopy_29 : decode cX13_doCopy 29 = .ok (.goto 5, 3) := by decide +kernel
theorem dX13_doCopy_32 : decode cX13_doCopy 32 = .ok (.bipush 15, 2) := by decide +kernel
theorem dX13_doCopy_34 : decode cX13_doCopy 34 = .ok (.istore_n 3, 1) := by decide +kernel
theorem dX13_doCopy_35 : decode cX13_doCopy 35 = .ok (.aload_n 0, 1) := by decide +kernel
theorem dX13_doCopy_36 : decode cX13_doCopy 36 = .ok (.getfield 76, 3) := by decide +kernel
theorem dX13_doCopy_39 : decode cX13_doCopy 39 = .ok (.aload_n 0, 1) := by decide +kernel
theorem dX13_doCopy_40 : decode cX13_doCopy 40 = .ok (.getfield 394, 3) := by decide +kernel
theorem dX13_doCopy_43 : decode cX13_doCopy 43 = .ok (.iload_n 2, 1) := by decide +kernel
theorem dX13_doCopy_44 : decode cX13_doCopy 44 = .ok (.iadd, 1) := by decide +kernel
theorem dX13_doCopy_45 : decode cX13_doCopy 45 = .ok (.aload_n 0, 1) := by decide +kernel
theorem dX13_doCopy_46 : decode cX13_doCopy 46 = .ok (.getfield 76, 3) := by decide +kernel
theorem dX13_doCopy_49 : decode cX13_doCopy 49 = .ok (.aload_n 0, 1) := by decide +kernel
theorem dX13_doCopy_50 : decode cX13_doCopy 50 = .ok (.getfield 394, 3) := by decide +kernel
theorem dX13_doCopy_53 : decode cX13_doCopy 53 = .ok (.iload_n 2, 1) := by decide +kernel
theorem dX13_doCopy_54 : decode cX13_doCopy 54 = .ok (.iadd, 1) := by decide +kernel
theorem dX13_doCopy_55 : decode cX13_doCopy 55 = .ok (.iaload, 1) := by decide +kernel
theorem dX13_doCopy_56 : decode cX13_doCopy 56 = .ok (.iload_n 3, 1) := by decide +kernel
theorem dX13_doCopy_57 : decode cX13_doCopy 57 = .ok (.iand, 1) := by decide +kernel
theorem dX13_doCopy_58 : decode cX13_doCopy 58 = .ok (.aload_n 0, 1) := by decide +kernel
theorem dX13_doCopy_59 : decode cX13_doCopy 59 = .ok (.getfield 76, 3) := by decide +kernel
theorem dX13_doCopy_62 : decode cX13_doCopy 62 = .ok (.aload_n 0, 1) := by decide +kernel
theorem dX13_doCopy_63 : decode cX13_doCopy 63 = .ok (.getfield 397, 3) := by decide +kernel
theorem dX13_doCopy_66 : decode cX13_doCopy 66 = .ok (.iload_n 2, 1) := by decide +kernel
theorem dX13_doCopy_67 : decode cX13_doCopy 67 = .ok (.iadd, 1) := by decide +kernel
theorem dX13_doCopy_68 : decode cX13_doCopy 68 = .ok (.iaload, 1) := by decide +kernel
theorem dX13_doCopy_69 : decode cX13_doCopy 69 = .ok (.sipush 255, 3) := by decide +kernel
theorem dX13_doCopy_72 : decode cX13_doCopy 72 = .ok (.iload_n 3, 1) := by decide +kernel
theorem dX13_doCopy_73 : decode cX13_doCopy 73 = .ok (.isub, 1) := by decide +kernel
theorem dX13_doCopy_74 : decode cX13_doCopy 74 = .ok (.iand, 1) := by decide +kernel
theorem dX13_doCopy_75 : decode cX13_doCopy 75 = .ok (.ior, 1) := by decide +kernel
theorem dX13_doCopy_76 : decode cX13_doCopy 76 = .ok (.iastore, 1) := by decide +kernel
theorem dX13_doCopy_77 : decode cX13_doCopy 77 = .ok (.iinc 2 1, 3) := by decide +kernel
theorem dX13_doCopy_80 : decode cX13_doCopy 80 = .ok (.goto (-78), 3) := by decide +kernel
theorem dX13_doCopy_83 : decode cX13_doCopy 83 = .ok (.return_, 1) := by decide +kernel
theorem dX13_takeDigit_0 : decode cX13_takeDigit 0 = .ok (.aload_n 0, 1) := by decide +kernel
theorem dX13_takeDigit_1 : decode cX13_takeDigit 1 = .ok (.iconst 0, 1) := by decide +kernel
theorem dX13_takeDigit_2 : decode cX13_takeDigit 2 = .ok (.putfield 500, 3) := by decide +kernel
theorem dX13_takeDigit_5 : decode cX13_takeDigit 5 = .ok (.aload_n 0, 1) := by decide +kernel
theorem dX13_takeDigit_6 : decode cX13_takeDigit 6 = .ok (.getfield 503, 3) := by decide +kernel
theorem dX13_takeDigit_9 : decode cX13_takeDigit 9 = .ok (.iconst (-1), 1) := by decide +kernel
theorem dX13_takeDigit_10 : decode cX13_takeDigit 10 = .ok (.if_icmp .eq 15, 3) := by decide +kernel
theorem dX13_takeDigit_13 : decode cX13_takeDigit 13 = .ok (.aload_n 0, 1) := by decide +kernel
theorem dX13_takeDigit_14 : decode cX13_takeDigit 14 = .ok (.getfield 503, 3) := by decide +kernel
theorem dX13_takeDigit_17 : decode cX13_takeDigit 17 = .ok (.istore_n 1, 1) := by decide +kernel
theorem dX13_takeDigit_18 : decode cX13_takeDigit 18 = .ok (.aload_n 0, 1) := by decide +kernel
theorem dX13_takeDigit_19 : decode cX13_takeDigit 19 = .ok (.iconst (-1), 1) := by decide +kernel
theorem dX13_takeDigit_20 : decode cX13_takeDigit 20 = .ok (.putfield 503, 3) := by decide +kernel
theorem dX13_takeDigit_23 : decode cX13_takeDigit 23 = .ok (.iload_n 1, 1) := by decide +kernel
theorem dX13_takeDigit_24 : decode cX13_takeDigit 24 = .ok (.ireturn, 1) := by decide +kernel
theorem dX13_takeDigit_25 : decode cX13_takeDigit 25 = .ok (.aload_n 0, 1) := by decide +kernel
theorem dX13_takeDigit_26 : decode cX13_takeDigit 26 = .ok (.aload_n 0, 1) := by decide +kernel
theorem dX13_takeDigit_27 : decode cX13_takeDigit 27 = .ok (.getfield 506, 3) := by decide +kernel
theorem dX13_takeDigit_30 : decode cX13_takeDigit 30 = .ok (.putfield 397, 3) := by decide +kernel
theorem dX13_takeDigit_33 : decode cX13_takeDigit 33 = .ok (.aload_n 0, 1) := by decide +kernel
theorem dX13_takeDigit_34 : decode cX13_takeDigit 34 = .ok (.iconst 1, 1) := by decide +kernel
theorem dX13_takeDigit_35 : decode cX13_takeDigit 35 = .ok (.putfield 406, 3) := by decide +kernel
theorem dX13_takeDigit_38 : decode cX13_takeDigit 38 = .ok (.aload_n 0, 1) := by decide +kernel
theorem dX13_takeDigit_39 : decode cX13_takeDigit 39 = .ok (.getfield 506, 3) := by decide +kernel
theorem dX13_takeDigit_42 : decode cX13_takeDigit 42 = .ok (.iconst 1, 1) := by decide +kernel
theorem dX13_takeDigit_43 : decode cX13_takeDigit 43 = .ok (.invokestatic 427, 3) := by decide +kernel
theorem dX13_takeDigit_46 : decode cX13_takeDigit 46 = .ok (.ifCond .ne 12, 3) := by decide +kernel
theorem dX13_takeDigit_49 : decode cX13_takeDigit 49 = .ok (.aload_n 0, 1) := by decide +kernel
theorem dX13_takeDigit_50 : decode cX13_takeDigit 50 = .ok (.iconst 1, 1) := by decide +kernel
theorem dX13_takeDigit_51 : decode cX13_takeDigit 51 = .ok (.iconst 1, 1) := by decide +kernel
theorem dX13_takeDigit_52 : decode cX13_takeDigit 52 = .ok (.invokevirtual 415, 3) := by decide +kernel
theorem dX13_takeDigit_55 : decode cX13_takeDigit 55 = .ok (.goto 31, 3) := by decide +kernel
theorem dX13_takeDigit_58 : decode cX13_takeDigit 58 = .ok (.aload_n 0, 1) := by decide +kernel
theorem dX13_takeDigit_59 : decode cX13_takeDigit 59 = .ok (.getfield 76, 3) := by decide +kernel
theorem dX13_takeDigit_62 : decode cX13_takeDigit 62 = .ok (.aload_n 0, 1) := by decide +kernel
theorem dX13_takeDigit_63 : decode cX13_takeDigit 63 = .ok (.getfield 506, 3) := by decide +kernel
theorem dX13_takeDigit_66 : decode cX13_takeDigit 66 = .ok (.iaload, 1) := by decide +kernel
theorem dX13_takeDigit_67 : decode cX13_takeDigit 67 = .ok (.iconst 4, 1) := by decide +kernel
theorem dX13_takeDigit_68 : decode cX13_takeDigit 68 = .ok (.ishr, 1) := by decide +kernel
theorem dX13_takeDigit_69 : decode cX13_takeDigit 69 = .ok (.bipush 9, 2) := by decide +kernel
theorem dX13_takeDigit_71 : decode cX13_takeDigit 71 = .ok (.if_icmp .le 15, 3) := by decide +kernel
theorem dX13_takeDigit_74 : decode cX13_takeDigit 74 = .ok (.aload_n 0, 1) := by decide +kernel
theorem dX13_takeDigit_75 : decode cX13_takeDigit 75 = .ok (.iconst 4, 1) := by decide +kernel
theorem dX13_takeDigit_76 : decode cX13_takeDigit 76 = .ok (.iconst 1, 1) := by decide +kernel
theorem dX13_takeDigit_77 : decode cX13_takeDigit 77 = .ok (.iconst 2, 1) := by decide +kernel
theorem dX13_takeDigit_78 : decode cX13_takeDigit 78 = .ok (.aload_n 0, 1) := by decide +kernel
theorem dX13_takeDigit_79 : decode cX13_takeDigit 79 = .ok (.getfield 506, 3) := by decide +kernel
theorem dX13_takeDigit_82 : decode cX13_takeDigit 82 = .ok (.imul, 1) := by decide +kernel
theorem dX13_takeDigit_83 : decode cX13_takeDigit 83 = .ok (.invokevirtual 437, 3) := by decide +kernel
theorem dX13_takeDigit_86 : decode cX13_takeDigit 86 = .ok (.aload_n 0, 1) := by decide +kernel
theorem dX13_takeDigit_87 : decode cX13_takeDigit 87 = .ok (.getfield 388, 3) := by decide +kernel
theorem dX13_takeDigit_90 : decode cX13_takeDigit 90 = .ok (.ifCond .eq 5, 3) := by decide +kernel
theorem dX13_takeDigit_93 : decode cX13_takeDigit 93 = .ok (.iconst 0, 1) := by decide +kernel
theorem dX13_takeDigit_94 : decode cX13_takeDigit 94 = .ok (.ireturn, 1) := by decide +kernel
theorem dX13_takeDigit_95 : decode cX13_takeDigit 95 = .ok (.aload_n 0, 1) := by decide +kernel
theorem dX13_takeDigit_96 : decode cX13_takeDigit 96 = .ok (.getfield 76, 3) := by decide +kernel
theorem dX13_takeDigit_99 : decode cX13_takeDigit 99 = .ok (.aload_n 0, 1) := by decide +kernel
theorem dX13_takeDigit_100 : decode cX13_takeDigit 100 = .ok (.getfield 506, 3) := by decide +kernel
theorem dX13_takeDigit_103 : decode cX13_takeDigit 103 = .ok (.iaload, 1) := by decide +kernel
theorem dX13_takeDigit_104 : decode cX13_takeDigit 104 = .ok (.iconst 4, 1) := by decide +kernel
theorem dX13_takeDigit_105 : decode cX13_takeDigit 105 = .ok (.ishr, 1) := by decide +kernel
theorem dX13_takeDigit_106 : decode cX13_takeDigit 106 = .ok (.istore_n 1, 1) := by decide +kernel
theorem dX13_takeDigit_107 : decode cX13_takeDigit 107 = .ok (.aload_n 0, 1) := by decide +kernel
theorem dX13_takeDigit_108 : decode cX13_takeDigit 108 = .ok (.getfield 76, 3) := by decide +kernel
theorem dX13_takeDigit_111 : decode cX13_takeDigit 111 = .ok (.aload_n 0, 1) := by decide +kernel
theorem dX13_takeDigit_112 : decode cX13_takeDigit 112 = .ok (.getfield 506, 3) := by decide +kernel
theorem dX13_takeDigit_115 : decode cX13_takeDigit 115 = .ok (.iaload, 1) := by decide +kernel
theorem dX13_takeDigit_116 : decode cX13_takeDigit 116 = .ok (.bipush 15, 2) := by decide +kernel
theorem dX13_takeDigit_118 : decode cX13_takeDigit 118 = .ok (.iand, 1) := by decide +kernel
theorem dX13_takeDigit_119 : decode cX13_takeDigit 119 = .ok (.istore_n 2, 1) := by decide +kernel
theorem dX13_takeDigit_120 : decode cX13_takeDigit 120 = .ok (.aload_n 0, 1) := by decide +kernel
theorem dX13_takeDigit_121 : decode cX13_takeDigit 121 = .ok (.dup, 1) := by decide +kernel
theorem dX13_takeDigit_122 : decode cX13_takeDigit 122 = .ok (.getfield 506, 3) := by decide +kernel
theorem dX13_takeDigit_125 : decode cX13_takeDigit 125 = .ok (.iconst 1, 1) := by decide +kernel
theorem dX13_takeDigit_126 : decode cX13_takeDigit 126 = .ok (.iadd, 1) := by decide +kernel
theorem dX13_takeDigit_127 : decode cX13_takeDigit 127 = .ok (.putfield 506, 3) := by decide +kernel
theorem dX13_takeDigit_130 : decode cX13_takeDigit 130 = .ok (.iload_n 2, 1) := by decide +kernel
theorem dX13_takeDigit_131 : decode cX13_takeDigit 131 = .ok (.bipush 10, 2) := by decide +kernel
theorem dX13_takeDigit_133 : decode cX13_takeDigit 133 = .ok (.if_icmp .ge 11, 3) := by decide +kernel
theorem dX13_takeDigit_136 : decode cX13_takeDigit 136 = .ok (.aload_n 0, 1) := by decide +kernel
theorem dX13_takeDigit_137 : decode cX13_takeDigit 137 = .ok (.iload_n 2, 1) := by decide +kernel
theorem dX13_takeDigit_138 : decode cX13_takeDigit 138 = .ok (.putfield 503, 3) := by decide +kernel
theorem dX13_takeDigit_141 : decode cX13_takeDigit 141 = .ok (.goto 19, 3) := by decide +kernel
theorem dX13_takeDigit_144 : decode cX13_takeDigit 144 = .ok (.aload_n 0, 1) := by decide +kernel
theorem dX13_takeDigit_145 : decode cX13_takeDigit 145 = .ok (.iload_n 2, 1) := by decide +kernel
theorem dX13_takeDigit_146 : decode cX13_takeDigit 146 = .ok (.invokestatic 475, 3) := by decide +kernel
theorem dX13_takeDigit_149 : decode cX13_takeDigit 149 = .ok (.ifCond .ne 7, 3) := by decide +kernel
theorem dX13_takeDigit_152 : decode cX13_takeDigit 152 = .ok (.iconst 1, 1) := by decide +kernel
theorem dX13_takeDigit_153 : decode cX13_takeDigit 153 = .ok (.goto 4, 3) := by decide +kernel
theorem dX13_takeDigit_156 : decode cX13_takeDigit 156 = .ok (.iconst 0, 1) := by decide +kernel
theorem dX13_takeDigit_157 : decode cX13_takeDigit 157 = .ok (.putfield 500, 3) := by decide +kernel
theorem dX13_takeDigit_160 : decode cX13_takeDigit 160 = .ok (.iload_n 1, 1) := by decide +kernel
theorem dX13_takeDigit_161 : decode cX13_takeDigit 161 = .ok (.ireturn, 1) := by decide +kernel
theorem dX13_edited_0 : decode cX13_edited 0 = .ok (.iload_n 2, 1) := by decide +kernel
theorem dX13_edited_1 : decode cX13_edited 1 = .ok (.ifCond .ne 17, 3) := by decide +kernel
theorem dX13_edited_4 : decode cX13_edited 4 = .ok (.aload_n 0, 1) := by decide +kernel
theorem dX13_edited_5 : decode cX13_edited 5 = .ok (.getfield 509, 3) := by decide +kernel
theorem dX13_edited_8 : decode cX13_edited 8 = .ok (.ifCond .ne 10, 3) := by decide +kernel
theorem dX13_edited_11 : decode cX13_edited 11 = .ok (.aload_n 0, 1) := by decide +kernel
theorem dX13_edited_12 : decode cX13_edited 12 = .ok (.getfield 512, 3) := by decide +kernel
theorem dX13_edited_15 : decode cX13_edited 15 = .ok (.goto 8, 3) := by decide +kernel
theorem dX13_edited_18 : decode cX13_edited 18 = .ok (.sipush 240, 3) := by decide +kernel
theorem dX13_edited_21 : decode cX13_edited 21 = .ok (.iload_n 2, 1) := by decide +kernel
theorem dX13_edited_22 : decode cX13_edited 22 = .ok (.iadd, 1) := by decide +kernel
theorem dX13_edited_23 : decode cX13_edited 23 = .ok (.istore_n 3, 1) := by decide +kernel
theorem dX13_edited_24 : decode cX13_edited 24 = .ok (.aload_n 0, 1) := by decide +kernel
theorem dX13_edited_25 : decode cX13_edited 25 = .ok (.aload_n 0, 1) := by decide +kernel
theorem dX13_edited_26 : decode cX13_edited 26 = .ok (.getfield 509, 3) := by decide +kernel
theorem dX13_edited_29 : decode cX13_edited 29 = .ok (.ifCond .ne 13, 3) := by decide +kernel
theorem dX13_edited_32 : decode cX13_edited 32 = .ok (.iload_n 2, 1) := by decide +kernel
theorem dX13_edited_33 : decode cX13_edited 33 = .ok (.ifCond .ne 9, 3) := by decide +kernel
theorem dX13_edited_36 : decode cX13_edited 36 = .ok (.iload_n 1, 1) := by decide +kernel
theorem dX13_edited_37 : decode cX13_edited 37 = .ok (.bipush 33, 2) := by decide +kernel
theorem dX13_edited_39 : decode cX13_edited 39 = .ok (.if_icmp .ne 7, 3) := by decide +kernel
theorem dX13_edited_42 : decode cX13_edited 42 = .ok (.iconst 1, 1) := by decide +kernel
theorem dX13_edited_43 : decode cX13_edited 43 = .ok (.goto 4, 3) := by decide +kernel
theorem dX13_edited_46 : decode cX13_edited 46 = .ok (.iconst 0, 1) := by decide +kernel
theorem dX13_edited_47 : decode cX13_edited 47 = .ok (.putfield 509, 3) := by decide +kernel
theorem dX13_edited_50 : decode cX13_edited 50 = .ok (.aload_n 0, 1) := by decide +kernel
theorem dX13_edited_51 : decode cX13_edited 51 = .ok (.getfield 500, 3) := by decide +kernel
theorem dX13_edited_54 : decode cX13_edited 54 = .ok (.ifCond .eq 8, 3) := by decide +kernel
theorem dX13_edited_57 : decode cX13_edited 57 = .ok (.aload_n 0, 1) := by decide +kernel
theorem dX13_edited_58 : decode cX13_edited 58 = .ok (.iconst 0, 1) := by decide +kernel
theorem dX13_edited_59 : decode cX13_edited 59 = .ok (.putfield 509, 3) := by decide +kernel
theorem dX13_edited_62 : decode cX13_edited 62 = .ok (.iload_n 3, 1) := by decide +kernel
theorem dX13_edited_63 : decode cX13_edited 63 = .ok (.ireturn, 1) := by decide +kernel
theorem dX13_doEdit_0 : decode cX13_doEdit 0 = .ok (.aload_n 0, 1) := by decide +kernel
theorem dX13_doEdit_1 : decode cX13_doEdit 1 = .ok (.getfield 76, 3) := by decide +kernel
theorem dX13_doEdit_4 : decode cX13_doEdit 4 = .ok (.sipush 257, 3) := by decide +kernel
theorem dX13_doEdit_7 : decode cX13_doEdit 7 = .ok (.iaload, 1) := by decide +kernel
theorem dX13_doEdit_8 : decode cX13_doEdit 8 = .ok (.istore_n 2, 1) := by decide +kernel
theorem dX13_doEdit_9 : decode cX13_doEdit 9 = .ok (.iconst 0, 1) := by decide +kernel
theorem dX13_doEdit_10 : decode cX13_doEdit 10 = .ok (.istore_n 3, 1) := by decide +kernel
theorem dX13_doEdit_11 : decode cX13_doEdit 11 = .ok (.iload_n 3, 1) := by decide +kernel
theorem dX13_doEdit_12 : decode cX13_doEdit 12 = .ok (.aload_n 0, 1) := by decide +kernel
theorem dX13_doEdit_13 : decode cX13_doEdit 13 = .ok (.getfield 403, 3) := by decide +kernel
theorem dX13_doEdit_16 : decode cX13_doEdit 16 = .ok (.if_icmp .ge 26, 3) := by decide +kernel
theorem dX13_doEdit_19 : decode cX13_doEdit 19 = .ok (.aload_n 0, 1) := by decide +kernel
theorem dX13_doEdit_20 : decode cX13_doEdit 20 = .ok (.getfield 139, 3) := by decide +kernel
theorem dX13_doEdit_23 : decode cX13_doEdit 23 = .ok (.iload_n 3, 1) := by decide +kernel
theorem dX13_doEdit_24 : decode cX13_doEdit 24 = .ok (.aload_n 0, 1) := by decide +kernel
theorem dX13_doEdit_25 : decode cX13_doEdit 25 = .ok (.getfield 76, 3) := by decide +kernel
theorem dX13_doEdit_28 : decode cX13_doEdit 28 = .ok (.aload_n 0, 1) := by decide +kernel
theorem dX13_doEdit_29 : decode cX13_doEdit 29 = .ok (.getfield 394, 3) := by decide +kernel
theorem dX13_doEdit_32 : decode cX13_doEdit 32 = .ok (.iload_n 3, 1) := by decide +kernel
theorem dX13_doEdit_33 : decode cX13_doEdit 33 = .ok (.iadd, 1) := by decide +kernel
theorem dX13_doEdit_34 : decode cX13_doEdit 34 = .ok (.iaload, 1) := by decide +kernel
theorem dX13_doEdit_35 : decode cX13_doEdit 35 = .ok (.iastore, 1) := by decide +kernel
theorem dX13_doEdit_36 : decode cX13_doEdit 36 = .ok (.iinc 3 1, 3) := by decide +kernel
theorem dX13_doEdit_39 : decode cX13_doEdit 39 = .ok (.goto (-28), 3) := by decide +kernel
theorem dX13_doEdit_42 : decode cX13_doEdit 42 = .ok (.aload_n 0, 1) := by decide +kernel
theorem dX13_doEdit_43 : decode cX13_doEdit 43 = .ok (.aload_n 0, 1) := by decide +kernel
theorem dX13_doEdit_44 : decode cX13_doEdit 44 = .ok (.getfield 76, 3) := by decide +kernel
theorem dX13_doEdit_47 : decode cX13_doEdit 47 = .ok (.aload_n 0, 1) := by decide +kernel
theorem dX13_doEdit_48 : decode cX13_doEdit 48 = .ok (.getfield 394, 3) := by decide +kernel
theorem dX13_doEdit_51 : decode cX13_doEdit 51 = .ok (.iaload, 1) := by decide +kernel
theorem dX13_doEdit_52 : decode cX13_doEdit 52 = .ok (.putfield 512, 3) := by decide +kernel
theorem dX13_doEdit_55 : decode cX13_doEdit 55 = .ok (.aload_n 0, 1) := by decide +kernel
theorem dX13_doEdit_56 : decode cX13_doEdit 56 = .ok (.aload_n 0, 1) := by decide +kernel
theorem dX13_doEdit_57 : decode cX13_doEdit 57 = .ok (.getfield 397, 3) := by decide +kernel
theorem dX13_doEdit_60 : decode cX13_doEdit 60 = .ok (.putfield 506, 3) := by decide +kernel
theorem dX13_doEdit_63 : decode cX13_doEdit 63 = .ok (.aload_n 0, 1) := by decide +kernel
theorem dX13_doEdit_64 : decode cX13_doEdit 64 = .ok (.iconst (-1), 1) := by decide +kernel
theorem dX13_doEdit_65 : decode cX13_doEdit 65 = .ok (.putfield 503, 3) := by decide +kernel
theorem dX13_doEdit_68 : decode cX13_doEdit 68 = .ok (.aload_n 0, 1) := by decide +kernel
theorem dX13_doEdit_69 : decode cX13_doEdit 69 = .ok (.iconst 0, 1) := by decide +kernel
theorem dX13_doEdit_70 : decode cX13_doEdit 70 = .ok (.putfield 509, 3) := by decide +kernel
theorem dX13_doEdit_73 : decode cX13_doEdit 73 = .ok (.aload_n 0, 1) := by decide +kernel
theorem dX13_doEdit_74 : decode cX13_doEdit 74 = .ok (.iconst 0, 1) := by decide +kernel
theorem dX13_doEdit_75 : decode cX13_doEdit 75 = .ok (.putfield 515, 3) := by decide +kernel
theorem dX13_doEdit_78 : decode cX13_doEdit 78 = .ok (.iconst 0, 1) := by decide +kernel
theorem dX13_doEdit_79 : decode cX13_doEdit 79 = .ok (.istore_n 3, 1) := by decide +kernel
theorem dX13_doEdit_80 : decode cX13_doEdit 80 = .ok (.iload_n 3, 1) := by decide +kernel
theorem dX13_doEdit_81 : decode cX13_doEdit 81 = .ok (.aload_n 0, 1) := by decide +kernel
theorem dX13_doEdit_82 : decode cX13_doEdit 82 = .ok (.getfield 403, 3) := by decide +kernel
theorem dX13_doEdit_85 : decode cX13_doEdit 85 = .ok (.if_icmp .ge 189, 3) := by decide +kernel
theorem dX13_doEdit_88 : decode cX13_doEdit 88 = .ok (.aload_n 0, 1) := by decide +kernel
theorem dX13_doEdit_89 : decode cX13_doEdit 89 = .ok (.getfield 388, 3) := by decide +kernel
theorem dX13_doEdit_92 : decode cX13_doEdit 92 = .ok (.ifCond .ne 182, 3) := by decide +kernel
theorem dX13_doEdit_95 : decode cX13_doEdit 95 = .ok (.aload_n 0, 1) := by decide +kernel
theorem dX13_doEdit_96 : decode cX13_doEdit 96 = .ok (.getfield 76, 3) := by decide +kernel
theorem dX13_doEdit_99 : decode cX13_doEdit 99 = .ok (.aload_n 0, 1) := by decide +kernel
theorem dX13_doEdit_100 : decode cX13_doEdit 100 = .ok (.getfield 394, 3) := by decide +kernel
theorem dX13_doEdit_103 : decode cX13_doEdit 103 = .ok (.iload_n 3, 1) := by decide +kernel
theorem dX13_doEdit_104 : decode cX13_doEdit 104 = .ok (.iadd, 1) := by decide +kernel
theorem dX13_doEdit_105 : decode cX13_doEdit 105 = .ok (.iaload, 1) := by decide +kernel
theorem dX13_doEdit_106 : decode cX13_doEdit 106 = .ok (.istore 4, 2) := by decide +kernel
theorem dX13_doEdit_108 : decode cX13_doEdit 108 = .ok (.iload 4, 2) := by decide +kernel
theorem dX13_doEdit_110 : decode cX13_doEdit 110 = .ok (.bipush 32, 2) := by decide +kernel
theorem dX13_doEdit_112 : decode cX13_doEdit 112 = .ok (.if_icmp .eq 10, 3) := by decide +kernel
theorem dX13_doEdit_115 : decode cX13_doEdit 115 = .ok (.iload 4, 2) := by decide +kernel
theorem dX13_doEdit_117 : decode cX13_doEdit 117 = .ok (.bipush 33, 2) := by decide +kernel
theorem dX13_doEdit_119 : decode cX13_doEdit 119 = .ok (.if_icmp .ne 92, 3) := by decide +kernel
theorem dX13_doEdit_122 : decode cX13_doEdit 122 = .ok (.aload_n 0, 1) := by decide +kernel
theorem dX13_doEdit_123 : decode cX13_doEdit 123 = .ok (.invokevirtual 518, 3) := by decide +kernel
theorem dX13_doEdit_126 : decode cX13_doEdit 126 = .ok (.istore 5, 2) := by decide +kernel
theorem dX13_doEdit_128 : decode cX13_doEdit 128 = .ok (.aload_n 0, 1) := by decide +kernel
theorem dX13_doEdit_129 : decode cX13_doEdit 129 = .ok (.getfield 388, 3) := by decide +kernel
theorem dX13_doEdit_132 : decode cX13_doEdit 132 = .ok (.ifCond .eq 6, 3) := by decide +kernel
theorem dX13_doEdit_135 : decode cX13_doEdit 135 = .ok (.goto 139, 3) := by decide +kernel
theorem dX13_doEdit_138 : decode cX13_doEdit 138 = .ok (.iload_n 1, 1) := by decide +kernel
theorem dX13_doEdit_139 : decode cX13_doEdit 139 = .ok (.ifCond .eq 29, 3) := by decide +kernel
theorem dX13_doEdit_142 : decode cX13_doEdit 142 = .ok (.iload 5, 2) := by decide +kernel
theorem dX13_doEdit_144 : decode cX13_doEdit 144 = .ok (.ifCond .eq 24, 3) := by decide +kernel
theorem dX13_doEdit_147 : decode cX13_doEdit 147 = .ok (.aload_n 0, 1) := by decide +kernel
theorem dX13_doEdit_148 : decode cX13_doEdit 148 = .ok (.getfield 509, 3) := by decide +kernel
theorem dX13_doEdit_151 : decode cX13_doEdit 151 = .ok (.ifCond .ne 17, 3) := by decide +kernel
theorem dX13_doEdit_154 : decode cX13_doEdit 154 = .ok (.aload_n 0, 1) := by decide +kernel
theorem dX13_doEdit_155 : decode cX13_doEdit 155 = .ok (.getfield 76, 3) := by decide +kernel
theorem dX13_doEdit_158 : decode cX13_doEdit 158 = .ok (.sipush 257, 3) := by decide +kernel
theorem dX13_doEdit_161 : decode cX13_doEdit 161 = .ok (.aload_n 0, 1) := by decide +kernel
theorem dX13_doEdit_162 : decode cX13_doEdit 162 = .ok (.getfield 394, 3) := by decide +kernel
theorem dX13_doEdit_165 : decode cX13_doEdit 165 = .ok (.iload_n 3, 1) := by decide +kernel
theorem dX13_doEdit_166 : decode cX13_doEdit 166 = .ok (.iadd, 1) := by decide +kernel
theorem dX13_doEdit_167 : decode cX13_doEdit 167 = .ok (.iastore, 1) := by decide +kernel
theorem dX13_doEdit_168 : decode cX13_doEdit 168 = .ok (.aload_n 0, 1) := by decide +kernel
theorem dX13_doEdit_169 : decode cX13_doEdit 169 = .ok (.aload_n 0, 1) := by decide +kernel
theorem dX13_doEdit_170 : decode cX13_doEdit 170 = .ok (.getfield 515, 3) := by decide +kernel
theorem dX13_doEdit_173 : decode cX13_doEdit 173 = .ok (.ifCond .ne 8, 3) := by decide +kernel
theorem dX13_doEdit_176 : decode cX13_doEdit 176 = .ok (.iload 5, 2) := by decide +kernel
theorem dX13_doEdit_178 : decode cX13_doEdit 178 = .ok (.ifCond .eq 7, 3) := by decide +kernel
theorem dX13_doEdit_181 : decode cX13_doEdit 181 = .ok (.iconst 1, 1) := by decide +kernel
theorem dX13_doEdit_182 : decode cX13_doEdit 182 = .ok (.goto 4, 3) := by decide +kernel
theorem dX13_doEdit_185 : decode cX13_doEdit 185 = .ok (.iconst 0, 1) := by decide +kernel
theorem dX13_doEdit_186 : decode cX13_doEdit 186 = .ok (.putfield 515, 3) := by decide +kernel
theorem dX13_doEdit_189 : decode cX13_doEdit 189 = .ok (.aload_n 0, 1) := by decide +kernel
theorem dX13_doEdit_190 : decode cX13_doEdit 190 = .ok (.getfield 76, 3) := by decide +kernel
theorem dX13_doEdit_193 : decode cX13_doEdit 193 = .ok (.aload_n 0, 1) := by decide +kernel
theorem dX13_doEdit_194 : decode cX13_doEdit 194 = .ok (.getfield 394, 3) := by decide +kernel
theorem dX13_doEdit_197 : decode cX13_doEdit 197 = .ok (.iload_n 3, 1) := by decide +kernel
theorem dX13_doEdit_198 : decode cX13_doEdit 198 = .ok (.iadd, 1) := by decide +kernel
theorem dX13_doEdit_199 : decode cX13_doEdit 199 = .ok (.aload_n 0, 1) := by decide +kernel
theorem dX13_doEdit_200 : decode cX13_doEdit 200 = .ok (.iload 4, 2) := by decide +kernel
theorem dX13_doEdit_202 : decode cX13_doEdit 202 = .ok (.iload 5, 2) := by decide +kernel
theorem dX13_doEdit_204 : decode cX13_doEdit 204 = .ok (.invokevirtual 521, 3) := by decide +kernel
theorem dX13_doEdit_207 : decode cX13_doEdit 207 = .ok (.iastore, 1) := by decide +kernel
theorem dX13_doEdit_208 : decode cX13_doEdit 208 = .ok (.goto 60, 3) := by decide +kernel
theorem dX13_doEdit_211 : decode cX13_doEdit 211 = .ok (.iload 4, 2) := by decide +kernel
theorem dX13_doEdit_213 : decode cX13_doEdit 213 = .ok (.bipush 34, 2) := by decide +kernel
theorem dX13_doEdit_215 : decode cX13_doEdit 215 = .ok (.if_icmp .ne 31, 3) := by decide +kernel
theorem dX13_doEdit_218 : decode cX13_doEdit 218 = .ok (.aload_n 0, 1) := by decide +kernel
theorem dX13_doEdit_219 : decode cX13_doEdit 219 = .ok (.getfield 76, 3) := by decide +kernel
theorem dX13_doEdit_222 : decode cX13_doEdit 222 = .ok (.aload_n 0, 1) := by decide +kernel
theorem dX13_doEdit_223 : decode cX13_doEdit 223 = .ok (.getfield 394, 3) := by decide +kernel
theorem dX13_doEdit_226 : decode cX13_doEdit 226 = .ok (.iload_n 3, 1) := by decide +kernel
theorem dX13_doEdit_227 : decode cX13_doEdit 227 = .ok (.iadd, 1) := by decide +kernel
theorem dX13_doEdit_228 : decode cX13_doEdit 228 = .ok (.aload_n 0, 1) := by decide +kernel
theorem dX13_doEdit_229 : decode cX13_doEdit 229 = .ok (.getfield 512, 3) := by decide +kernel
theorem dX13_doEdit_232 : decode cX13_doEdit 232 = .ok (.iastore, 1) := by decide +kernel
theorem dX13_doEdit_233 : decode cX13_doEdit 233 = .ok (.aload_n 0, 1) := by decide +kernel
theorem dX13_doEdit_234 : decode cX13_doEdit 234 = .ok (.iconst 0, 1) := by decide +kernel
theorem dX13_doEdit_235 : decode cX13_doEdit 235 = .ok (.putfield 509, 3) := by decide +kernel
theorem dX13_doEdit_238 : decode cX13_doEdit 238 = .ok (.aload_n 0, 1) := by decide +kernel
theorem dX13_doEdit_239 : decode cX13_doEdit 239 = .ok (.iconst 0, 1) := by decide +kernel
theorem dX13_doEdit_240 : decode cX13_doEdit 240 = .ok (.putfield 515, 3) := by decide +kernel
theorem dX13_doEdit_243 : decode cX13_doEdit 243 = .ok (.goto 25, 3) := by decide +kernel
theorem dX13_doEdit_246 : decode cX13_doEdit 246 = .ok (.aload_n 0, 1) := by decide +kernel
theorem dX13_doEdit_247 : decode cX13_doEdit 247 = .ok (.getfield 509, 3) := by decide +kernel
theorem dX13_doEdit_250 : decode cX13_doEdit 250 = .ok (.ifCond .ne 18, 3) := by decide +kernel
theorem dX13_doEdit_253 : decode cX13_doEdit 253 = .ok (.aload_n 0, 1) := by decide +kernel
theorem dX13_doEdit_254 : decode cX13_doEdit 254 = .ok (.getfield 76, 3) := by decide +kernel
theorem dX13_doEdit_257 : decode cX13_doEdit 257 = .ok (.aload_n 0, 1) := by decide +kernel
theorem dX13_doEdit_258 : decode cX13_doEdit 258 = .ok (.getfield 394, 3) := by decide +kernel
theorem dX13_doEdit_261 : decode cX13_doEdit 261 = .ok (.iload_n 3, 1) := by decide +kernel
theorem dX13_doEdit_262 : decode cX13_doEdit 262 = .ok (.iadd, 1) := by decide +kernel
theorem dX13_doEdit_263 : decode cX13_doEdit 263 = .ok (.aload_n 0, 1) := by decide +kernel
theorem dX13_doEdit_264 : decode cX13_doEdit 264 = .ok (.getfield 512, 3) := by decide +kernel
theorem dX13_doEdit_267 : decode cX13_doEdit 267 = .ok (.iastore, 1) := by decide +kernel
theorem dX13_doEdit_268 : decode cX13_doEdit 268 = .ok (.iinc 3 1, 3) := by decide +kernel
theorem dX13_doEdit_271 : decode cX13_doEdit 271 = .ok (.goto (-191), 3) := by decide +kernel
theorem dX13_doEdit_274 : decode cX13_doEdit 274 = .ok (.aload_n 0, 1) := by decide +kernel
theorem dX13_doEdit_275 : decode cX13_doEdit 275 = .ok (.getfield 388, 3) := by decide +kernel
theorem dX13_doEdit_278 : decode cX13_doEdit 278 = .ok (.ifCond .ne 35, 3) := by decide +kernel
theorem dX13_doEdit_281 : decode cX13_doEdit 281 = .ok (.aload_n 0, 1) := by decide +kernel
theorem dX13_doEdit_282 : decode cX13_doEdit 282 = .ok (.getfield 76, 3) := by decide +kernel
theorem dX13_doEdit_285 : decode cX13_doEdit 285 = .ok (.sipush 264, 3) := by decide +kernel
theorem dX13_doEdit_288 : decode cX13_doEdit 288 = .ok (.aload_n 0, 1) := by decide +kernel
theorem dX13_doEdit_289 : decode cX13_doEdit 289 = .ok (.getfield 515, 3) := by decide +kernel
theorem dX13_doEdit_292 : decode cX13_doEdit 292 = .ok (.ifCond .ne 7, 3) := by decide +kernel
theorem dX13_doEdit_295 : decode cX13_doEdit 295 = .ok (.iconst 0, 1) := by decide +kernel
theorem dX13_doEdit_296 : decode cX13_doEdit 296 = .ok (.goto 15, 3) := by decide +kernel
theorem dX13_doEdit_299 : decode cX13_doEdit 299 = .ok (.aload_n 0, 1) := by decide +kernel
theorem dX13_doEdit_300 : decode cX13_doEdit 300 = .ok (.getfield 509, 3) := by decide +kernel
theorem dX13_doEdit_303 : decode cX13_doEdit 303 = .ok (.ifCond .eq 7, 3) := by decide +kernel
theorem dX13_doEdit_306 : decode cX13_doEdit 306 = .ok (.iconst 1, 1) := by decide +kernel
theorem dX13_doEdit_307 : decode cX13_doEdit 307 = .ok (.goto 4, 3) := by decide +kernel
theorem dX13_doEdit_310 : decode cX13_doEdit 310 = .ok (.iconst 2, 1) := by decide +kernel
theorem dX13_doEdit_311 : decode cX13_doEdit 311 = .ok (.iastore, 1) := by decide +kernel
theorem dX13_doEdit_312 : decode cX13_doEdit 312 = .ok (.return_, 1) := by decide +kernel
theorem dX13_doEdit_313 : decode cX13_doEdit 313 = .ok (.aload_n 0, 1) := by decide +kernel
theorem dX13_doEdit_314 : decode cX13_doEdit 314 = .ok (.getfield 76, 3) := by decide +kernel
theorem dX13_doEdit_317 : decode cX13_doEdit 317 = .ok (.sipush 257, 3) := by decide +kernel
theorem dX13_doEdit_320 : decode cX13_doEdit 320 = .ok (.iload_n 2, 1) := by decide +kernel
theorem dX13_doEdit_321 : decode cX13_doEdit 321 = .ok (.iastore, 1) := by decide +kernel
theorem dX13_doEdit_322 : decode cX13_doEdit 322 = .ok (.iconst 0, 1) := by decide +kernel
theorem dX13_doEdit_323 : decode cX13_doEdit 323 = .ok (.istore_n 3, 1) := by decide +kernel
theorem dX13_doEdit_324 : decode cX13_doEdit 324 = .ok (.iload_n 3, 1) := by decide +kernel
theorem dX13_doEdit_325 : decode cX13_doEdit 325 = .ok (.aload_n 0, 1) := by decide +kernel
theorem dX13_doEdit_326 : decode cX13_doEdit 326 = .ok (.getfield 403, 3) := by decide +kernel
theorem dX13_doEdit_329 : decode cX13_doEdit 329 = .ok (.if_icmp .ge 26, 3) := by decide +kernel
theorem dX13_doEdit_332 : decode cX13_doEdit 332 = .ok (.aload_n 0, 1) := by decide +kernel
theorem dX13_doEdit_333 : decode cX13_doEdit 333 = .ok (.getfield 76, 3) := by decide +kernel
theorem dX13_doEdit_336 : decode cX13_doEdit 336 = .ok (.aload_n 0, 1) := by decide +kernel
theorem dX13_doEdit_337 : decode cX13_doEdit 337 = .ok (.getfield 394, 3) := by decide +kernel
theorem dX13_doEdit_340 : decode cX13_doEdit 340 = .ok (.iload_n 3, 1) := by decide +kernel
theorem dX13_doEdit_341 : decode cX13_doEdit 341 = .ok (.iadd, 1) := by decide +kernel
theorem dX13_doEdit_342 : decode cX13_doEdit 342 = .ok (.aload_n 0, 1) := by decide +kernel
theorem dX13_doEdit_343 : decode cX13_doEdit 343 = .ok (.getfield 139, 3) := by decide +kernel
theorem dX13_doEdit_346 : decode cX13_doEdit 346 = .ok (.iload_n 3, 1) := by decide +kernel
theorem dX13_doEdit_347 : decode cX13_doEdit 347 = .ok (.iaload, 1) := by decide +kernel
theorem dX13_doEdit_348 : decode cX13_doEdit 348 = .ok (.iastore, 1) := by decide +kernel
theorem dX13_doEdit_349 : decode cX13_doEdit 349 = .ok (.iinc 3 1, 3) := by decide +kernel
theorem dX13_doEdit_352 : decode cX13_doEdit 352 = .ok (.goto (-28), 3) := by decide +kernel
theorem dX13_doEdit_355 : decode cX13_doEdit 355 = .ok (.return_, 1) := by decide +kernel
theorem dX13_doBinary_0 : decode cX13_doBinary 0 = .ok (.aload_n 0, 1) := by decide +kernel
theorem dX13_doBinary_1 : decode cX13_doBinary 1 = .ok (.aload_n 0, 1) := by decide +kernel
theorem dX13_doBinary_2 : decode cX13_doBinary 2 = .ok (.getfield 126, 3) := by decide +kernel
theorem dX13_doBinary_5 : decode cX13_doBinary 5 = .ok (.aload_n 0, 1) := by decide +kernel
theorem dX13_doBinary_6 : decode cX13_doBinary 6 = .ok (.getfield 394, 3) := by decide +kernel
theorem dX13_doBinary_9 : decode cX13_doBinary 9 = .ok (.aload_n 0, 1) := by decide +kernel
theorem dX13_doBinary_10 : decode cX13_doBinary 10 = .ok (.getfield 403, 3) := by decide +kernel
theorem dX13_doBinary_13 : decode cX13_doBinary 13 = .ok (.invokevirtual 478, 3) := by decide +kernel
theorem dX13_doBinary_16 : decode cX13_doBinary 16 = .ok (.aload_n 0, 1) := by decide +kernel
theorem dX13_doBinary_17 : decode cX13_doBinary 17 = .ok (.getfield 126, 3) := by decide +kernel
theorem dX13_doBinary_20 : decode cX13_doBinary 20 = .ok (.iconst 1, 1) := by decide +kernel
theorem dX13_doBinary_21 : decode cX13_doBinary 21 = .ok (.laload, 1) := by decide +kernel
theorem dX13_doBinary_22 : decode cX13_doBinary 22 = .ok (.ldc2_w 368, 3) := by decide +kernel
theorem dX13_doBinary_25 : decode cX13_doBinary 25 = .ok (.lmul, 1) := by decide +kernel
theorem dX13_doBinary_26 : decode cX13_doBinary 26 = .ok (.aload_n 0, 1) := by decide +kernel
theorem dX13_doBinary_27 : decode cX13_doBinary 27 = .ok (.getfield 126, 3) := by decide +kernel
theorem dX13_doBinary_30 : decode cX13_doBinary 30 = .ok (.iconst 0, 1) := by decide +kernel
theorem dX13_doBinary_31 : decode cX13_doBinary 31 = .ok (.laload, 1) := by decide +kernel
theorem dX13_doBinary_32 : decode cX13_doBinary 32 = .ok (.ladd, 1) := by decide +kernel
theorem dX13_doBinary_33 : decode cX13_doBinary 33 = .ok (.lstore_n 2, 1) := by decide +kernel
theorem dX13_doBinary_34 : decode cX13_doBinary 34 = .ok (.aload_n 0, 1) := by decide +kernel
theorem dX13_doBinary_35 : decode cX13_doBinary 35 = .ok (.aload_n 0, 1) := by decide +kernel
theorem dX13_doBinary_36 : decode cX13_doBinary 36 = .ok (.getfield 394, 3) := by decide +kernel
theorem dX13_doBinary_39 : decode cX13_doBinary 39 = .ok (.aload_n 0, 1) := by decide +kernel
theorem dX13_doBinary_40 : decode cX13_doBinary 40 = .ok (.getfield 403, 3) := by decide +kernel
theorem dX13_doBinary_43 : decode cX13_doBinary 43 = .ok (.invokevirtual 472, 3) := by decide +kernel
theorem dX13_doBinary_46 : decode cX13_doBinary 46 = .ok (.invokestatic 475, 3) := by decide +kernel
theorem dX13_doBinary_49 : decode cX13_doBinary 49 = .ok (.istore 4, 2) := by decide +kernel
theorem dX13_doBinary_51 : decode cX13_doBinary 51 = .ok (.lload_n 2, 1) := by decide +kernel
theorem dX13_doBinary_52 : decode cX13_doBinary 52 = .ok (.iload 4, 2) := by decide +kernel
theorem dX13_doBinary_54 : decode cX13_doBinary 54 = .ok (.ifCond .eq 9, 3) := by decide +kernel
theorem dX13_doBinary_57 : decode cX13_doBinary 57 = .ok (.ldc2_w 524, 3) := by decide +kernel
theorem dX13_doBinary_60 : decode cX13_doBinary 60 = .ok (.goto 6, 3) := by decide +kernel
theorem dX13_doBinary_63 : decode cX13_doBinary 63 = .ok (.ldc2_w 526, 3) := by decide +kernel
theorem dX13_doBinary_66 : decode cX13_doBinary 66 = .ok (.lcmp, 1) := by decide +kernel
theorem dX13_doBinary_67 : decode cX13_doBinary 67 = .ok (.ifCond .le 13, 3) := by decide +kernel
theorem dX13_doBinary_70 : decode cX13_doBinary 70 = .ok (.aload_n 0, 1) := by decide +kernel
theorem dX13_doBinary_71 : decode cX13_doBinary 71 = .ok (.bipush 8, 2) := by decide +kernel
theorem dX13_doBinary_73 : decode cX13_doBinary 73 = .ok (.iconst 0, 1) := by decide +kernel
theorem dX13_doBinary_74 : decode cX13_doBinary 74 = .ok (.invokevirtual 415, 3) := by decide +kernel
theorem dX13_doBinary_77 : decode cX13_doBinary 77 = .ok (.goto 25, 3) := by decide +kernel
theorem dX13_doBinary_80 : decode cX13_doBinary 80 = .ok (.aload_n 0, 1) := by decide +kernel
theorem dX13_doBinary_81 : decode cX13_doBinary 81 = .ok (.getfield 76, 3) := by decide +kernel
theorem dX13_doBinary_84 : decode cX13_doBinary 84 = .ok (.sipush 256, 3) := by decide +kernel
theorem dX13_doBinary_87 : decode cX13_doBinary 87 = .ok (.iload_n 1, 1) := by decide +kernel
theorem dX13_doBinary_88 : decode cX13_doBinary 88 = .ok (.iadd, 1) := by decide +kernel
theorem dX13_doBinary_89 : decode cX13_doBinary 89 = .ok (.iload 4, 2) := by decide +kernel
theorem dX13_doBinary_91 : decode cX13_doBinary 91 = .ok (.ifCond .eq 8, 3) := by decide +kernel
theorem dX13_doBinary_94 : decode cX13_doBinary 94 = .ok (.lload_n 2, 1) := by decide +kernel
theorem dX13_doBinary_95 : decode cX13_doBinary 95 = .ok (.lneg, 1) := by decide +kernel
theorem dX13_doBinary_96 : decode cX13_doBinary 96 = .ok (.goto 4, 3) := by decide +kernel
theorem dX13_doBinary_99 : decode cX13_doBinary 99 = .ok (.lload_n 2, 1) := by decide +kernel
theorem dX13_doBinary_100 : decode cX13_doBinary 100 = .ok (.l2i, 1) := by decide +kernel
theorem dX13_doBinary_101 : decode cX13_doBinary 101 = .ok (.iastore, 1) := by decide +kernel
theorem dX13_doBinary_102 : decode cX13_doBinary 102 = .ok (.return_, 1) := by decide +kernel
theorem dX13_doDecimal_0 : decode cX13_doDecimal 0 = .ok (.aload_n 0, 1) := by decide +kernel
theorem dX13_doDecimal_1 : decode cX13_doDecimal 1 = .ok (.getfield 76, 3) := by decide +kernel
theorem dX13_doDecimal_4 : decode cX13_doDecimal 4 = .ok (.sipush 256, 3) := by decide +kernel
theorem dX13_doDecimal_7 : decode cX13_doDecimal 7 = .ok (.iload_n 1, 1) := by decide +kernel
theorem dX13_doDecimal_8 : decode cX13_doDecimal 8 = .ok (.iadd, 1) := by decide +kernel
theorem dX13_doDecimal_9 : decode cX13_doDecimal 9 = .ok (.iaload, 1) := by decide +kernel
theorem dX13_doDecimal_10 : decode cX13_doDecimal 10 = .ok (.i2l, 1) := by decide +kernel
theorem dX13_doDecimal_11 : decode cX13_doDecimal 11 = .ok (.lstore_n 2, 1) := by decide +kernel
theorem dX13_doDecimal_12 : decode cX13_doDecimal 12 = .ok (.aload_n 0, 1) := by decide +kernel
theorem dX13_doDecimal_13 : decode cX13_doDecimal 13 = .ok (.getfield 126, 3) := by decide +kernel
theorem dX13_doDecimal_16 : decode cX13_doDecimal 16 = .ok (.invokestatic 370, 3) := by decide +kernel
theorem dX13_doDecimal_19 : decode cX13_doDecimal 19 = .ok (.aload_n 0, 1) := by decide +kernel
theorem dX13_doDecimal_20 : decode cX13_doDecimal 20 = .ok (.getfield 126, 3) := by decide +kernel
theorem dX13_doDecimal_23 : decode cX13_doDecimal 23 = .ok (.iconst 0, 1) := by decide +kernel
theorem dX13_doDecimal_24 : decode cX13_doDecimal 24 = .ok (.lload_n 2, 1) := by decide +kernel
theorem dX13_doDecimal_25 : decode cX13_doDecimal 25 = .ok (.invokestatic 528, 3) := by decide +kernel
theorem dX13_doDecimal_28 : decode cX13_doDecimal 28 = .ok (.ldc2_w 368, 3) := by decide +kernel
theorem dX13_doDecimal_31 : decode cX13_doDecimal 31 = .ok (.lrem, 1) := by decide +kernel
theorem dX13_doDecimal_32 : decode cX13_doDecimal 32 = .ok (.lastore, 1) := by decide +kernel
theorem dX13_doDecimal_33 : decode cX13_doDecimal 33 = .ok (.aload_n 0, 1) := by decide +kernel
theorem dX13_doDecimal_34 : decode cX13_doDecimal 34 = .ok (.getfield 126, 3) := by decide +kernel
theorem dX13_doDecimal_37 : decode cX13_doDecimal 37 = .ok (.iconst 1, 1) := by decide +kernel
theorem dX13_doDecimal_38 : decode cX13_doDecimal 38 = .ok (.lload_n 2, 1) := by decide +kernel
theorem dX13_doDecimal_39 : decode cX13_doDecimal 39 = .ok (.invokestatic 528, 3) := by decide +kernel
theorem dX13_doDecimal_42 : decode cX13_doDecimal 42 = .ok (.ldc2_w 368, 3) := by decide +kernel
theorem dX13_doDecimal_45 : decode cX13_doDecimal 45 = .ok (.ldiv, 1) := by decide +kernel
theorem dX13_doDecimal_46 : decode cX13_doDecimal 46 = .ok (.lastore, 1) := by decide +kernel
theorem dX13_doDecimal_47 : decode cX13_doDecimal 47 = .ok (.aload_n 0, 1) := by decide +kernel
theorem dX13_doDecimal_48 : decode cX13_doDecimal 48 = .ok (.aload_n 0, 1) := by decide +kernel
theorem dX13_doDecimal_49 : decode cX13_doDecimal 49 = .ok (.getfield 394, 3) := by decide +kernel
theorem dX13_doDecimal_52 : decode cX13_doDecimal 52 = .ok (.aload_n 0, 1) := by decide +kernel
theorem dX13_doDecimal_53 : decode cX13_doDecimal 53 = .ok (.getfield 403, 3) := by decide +kernel
theorem dX13_doDecimal_56 : decode cX13_doDecimal 56 = .ok (.aload_n 0, 1) := by decide +kernel
theorem dX13_doDecimal_57 : decode cX13_doDecimal 57 = .ok (.getfield 126, 3) := by decide +kernel
theorem dX13_doDecimal_60 : decode cX13_doDecimal 60 = .ok (.lload_n 2, 1) := by decide +kernel
theorem dX13_doDecimal_61 : decode cX13_doDecimal 61 = .ok (.lconst 0, 1) := by decide +kernel
theorem dX13_doDecimal_62 : decode cX13_doDecimal 62 = .ok (.lcmp, 1) := by decide +kernel
theorem dX13_doDecimal_63 : decode cX13_doDecimal 63 = .ok (.ifCond .ge 7, 3) := by decide +kernel
theorem dX13_doDecimal_66 : decode cX13_doDecimal 66 = .ok (.iconst 1, 1) := by decide +kernel
theorem dX13_doDecimal_67 : decode cX13_doDecimal 67 = .ok (.goto 4, 3) := by decide +kernel
theorem dX13_doDecimal_70 : decode cX13_doDecimal 70 = .ok (.iconst 0, 1) := by decide +kernel
theorem dX13_doDecimal_71 : decode cX13_doDecimal 71 = .ok (.invokevirtual 457, 3) := by decide +kernel
theorem dX13_doDecimal_74 : decode cX13_doDecimal 74 = .ok (.return_, 1) := by decide +kernel
theorem dX13_doTest_0 : decode cX13_doTest 0 = .ok (.iconst 0, 1) := by decide +kernel
theorem dX13_doTest_1 : decode cX13_doTest 1 = .ok (.istore_n 1, 1) := by decide +kernel
theorem dX13_doTest_2 : decode cX13_doTest 2 = .ok (.iconst 2, 1) := by decide +kernel
theorem dX13_doTest_3 : decode cX13_doTest 3 = .ok (.aload_n 0, 1) := by decide +kernel
theorem dX13_doTest_4 : decode cX13_doTest 4 = .ok (.getfield 394, 3) := by decide +kernel
theorem dX13_doTest_7 : decode cX13_doTest 7 = .ok (.aload_n 0, 1) := by decide +kernel
theorem dX13_doTest_8 : decode cX13_doTest 8 = .ok (.getfield 403, 3) := by decide +kernel
theorem dX13_doTest_11 : decode cX13_doTest 11 = .ok (.iadd, 1) := by decide +kernel
theorem dX13_doTest_12 : decode cX13_doTest 12 = .ok (.imul, 1) := by decide +kernel
theorem dX13_doTest_13 : decode cX13_doTest 13 = .ok (.iconst 1, 1) := by decide +kernel
theorem dX13_doTest_14 : decode cX13_doTest 14 = .ok (.isub, 1) := by decide +kernel
theorem dX13_doTest_15 : decode cX13_doTest 15 = .ok (.istore_n 2, 1) := by decide +kernel
theorem dX13_doTest_16 : decode cX13_doTest 16 = .ok (.iconst 2, 1) := by decide +kernel
theorem dX13_doTest_17 : decode cX13_doTest 17 = .ok (.aload_n 0, 1) := by decide +kernel
theorem dX13_doTest_18 : decode cX13_doTest 18 = .ok (.getfield 394, 3) := by decide +kernel
theorem dX13_doTest_21 : decode cX13_doTest 21 = .ok (.imul, 1) := by decide +kernel
theorem dX13_doTest_22 : decode cX13_doTest 22 = .ok (.istore_n 3, 1) := by decide +kernel
theorem dX13_doTest_23 : decode cX13_doTest 23 = .ok (.iload_n 3, 1) := by decide +kernel
theorem dX13_doTest_24 : decode cX13_doTest 24 = .ok (.iload_n 2, 1) := by decide +kernel
theorem dX13_doTest_25 : decode cX13_doTest 25 = .ok (.if_icmp .ge 25, 3) := by decide +kernel
theorem dX13_doTest_28 : decode cX13_doTest 28 = .ok (.aload_n 0, 1) := by decide +kernel
theorem dX13_doTest_29 : decode cX13_doTest 29 = .ok (.iload_n 3, 1) := by decide +kernel
theorem dX13_doTest_30 : decode cX13_doTest 30 = .ok (.invokevirtual 374, 3) := by decide +kernel
theorem dX13_doTest_33 : decode cX13_doTest 33 = .ok (.bipush 9, 2) := by decide +kernel
theorem dX13_doTest_35 : decode cX13_doTest 35 = .ok (.if_icmp .le 7, 3) := by decide +kernel
theorem dX13_doTest_38 : decode cX13_doTest 38 = .ok (.iconst 2, 1) := by decide +kernel
theorem dX13_doTest_39 : decode cX13_doTest 39 = .ok (.goto 4, 3) := by decide +kernel
theorem dX13_doTest_42 : decode cX13_doTest 42 = .ok (.iload_n 1, 1) := by decide +kernel
theorem dX13_doTest_43 : decode cX13_doTest 43 = .ok (.istore_n 1, 1) := by decide +kernel
theorem dX13_doTest_44 : decode cX13_doTest 44 = .ok (.iinc 3 1, 3) := by decide +kernel
theorem dX13_doTest_47 : decode cX13_doTest 47 = .ok (.goto (-24), 3) := by decide +kernel
theorem dX13_doTest_50 : decode cX13_doTest 50 = .ok (.aload_n 0, 1) := by decide +kernel
theorem dX13_doTest_51 : decode cX13_doTest 51 = .ok (.getfield 76, 3) := by decide +kernel
theorem dX13_doTest_54 : decode cX13_doTest 54 = .ok (.sipush 264, 3) := by decide +kernel
theorem dX13_doTest_57 : decode cX13_doTest 57 = .ok (.iload_n 1, 1) := by decide +kernel
theorem dX13_doTest_58 : decode cX13_doTest 58 = .ok (.aload_n 0, 1) := by decide +kernel
theorem dX13_doTest_59 : decode cX13_doTest 59 = .ok (.iload_n 2, 1) := by decide +kernel
theorem dX13_doTest_60 : decode cX13_doTest 60 = .ok (.invokevirtual 374, 3) := by decide +kernel
theorem dX13_doTest_63 : decode cX13_doTest 63 = .ok (.bipush 9, 2) := by decide +kernel
theorem dX13_doTest_65 : decode cX13_doTest 65 = .ok (.if_icmp .le 7, 3) := by decide +kernel
theorem dX13_doTest_68 : decode cX13_doTest 68 = .ok (.iconst 0, 1) := by decide +kernel
theorem dX13_doTest_69 : decode cX13_doTest 69 = .ok (.goto 4, 3) := by decide +kernel
theorem dX13_doTest_72 : decode cX13_doTest 72 = .ok (.iconst 1, 1) := by decide +kernel
theorem dX13_doTest_73 : decode cX13_doTest 73 = .ok (.iadd, 1) := by decide +kernel
theorem dX13_doTest_74 : decode cX13_doTest 74 = .ok (.iastore, 1) := by decide +kernel
theorem dX13_doTest_75 : decode cX13_doTest 75 = .ok (.return_, 1) := by decide +kernel
theorem dX13_doRegister_0 : decode cX13_doRegister 0 = .ok (.aload_n 0, 1) := by decide +kernel
theorem dX13_doRegister_1 : decode cX13_doRegister 1 = .ok (.getfield 95, 3) := by decide +kernel
theorem dX13_doRegister_4 : decode cX13_doRegister 4 = .ok (.iload_n 1, 1) := by decide +kernel
theorem dX13_doRegister_5 : decode cX13_doRegister 5 = .ok (.iaload, 1) := by decide +kernel
theorem dX13_doRegister_6 : decode cX13_doRegister 6 = .ok (.istore_n 3, 1) := by decide +kernel
theorem dX13_doRegister_7 : decode cX13_doRegister 7 = .ok (.iload_n 2, 1) := by decide +kernel
theorem dX13_doRegister_8 : decode cX13_doRegister 8 = .ok (.bipush 18, 2) := by decide +kernel
theorem dX13_doRegister_10 : decode cX13_doRegister 10 = .ok (.if_icmp .ne 22, 3) := by decide +kernel
theorem dX13_doRegister_13 : decode cX13_doRegister 13 = .ok (.aload_n 0, 1) := by decide +kernel
theorem dX13_doRegister_14 : decode cX13_doRegister 14 = .ok (.getfield 76, 3) := by decide +kernel
theorem dX13_doRegister_17 : decode cX13_doRegister 17 = .ok (.sipush 256, 3) := by decide +kernel
theorem dX13_doRegister_20 : decode cX13_doRegister 20 = .ok (.iload_n 3, 1) := by decide +kernel
theorem dX13_doRegister_21 : decode cX13_doRegister 21 = .ok (.iadd, 1) := by decide +kernel
theorem dX13_doRegister_22 : decode cX13_doRegister 22 = .ok (.aload_n 0, 1) := by decide +kernel
theorem dX13_doRegister_23 : decode cX13_doRegister 23 = .ok (.iload_n 1, 1) := by decide +kernel
theorem dX13_doRegister_24 : decode cX13_doRegister 24 = .ok (.iconst 0, 1) := by decide +kernel
theorem dX13_doRegister_25 : decode cX13_doRegister 25 = .ok (.invokevirtual 421, 3) := by decide +kernel
theorem dX13_doRegister_28 : decode cX13_doRegister 28 = .ok (.iastore, 1) := by decide +kernel
theorem dX13_doRegister_29 : decode cX13_doRegister 29 = .ok (.goto 171, 3) := by decide +kernel
theorem dX13_doRegister_32 : decode cX13_doRegister 32 = .ok (.iload_n 2, 1) := by decide +kernel
theorem dX13_doRegister_33 : decode cX13_doRegister 33 = .ok (.bipush 19, 2) := by decide +kernel
theorem dX13_doRegister_35 : decode cX13_doRegister 35 = .ok (.if_icmp .ne 25, 3) := by decide +kernel
theorem dX13_doRegister_38 : decode cX13_doRegister 38 = .ok (.aload_n 0, 1) := by decide +kernel
theorem dX13_doRegister_39 : decode cX13_doRegister 39 = .ok (.getfield 76, 3) := by decide +kernel
theorem dX13_doRegister_42 : decode cX13_doRegister 42 = .ok (.sipush 256, 3) := by decide +kernel
theorem dX13_doRegister_45 : decode cX13_doRegister 45 = .ok (.iload_n 3, 1) := by decide +kernel
theorem dX13_doRegister_46 : decode cX13_doRegister 46 = .ok (.iadd, 1) := by decide +kernel
theorem dX13_doRegister_47 : decode cX13_doRegister 47 = .ok (.dup2, 1) := by decide +kernel
theorem dX13_doRegister_48 : decode cX13_doRegister 48 = .ok (.iaload, 1) := by decide +kernel
theorem dX13_doRegister_49 : decode cX13_doRegister 49 = .ok (.aload_n 0, 1) := by decide +kernel
theorem dX13_doRegister_50 : decode cX13_doRegister 50 = .ok (.getfield 98, 3) := by decide +kernel
theorem dX13_doRegister_53 : decode cX13_doRegister 53 = .ok (.iload_n 1, 1) := by decide +kernel
theorem dX13_doRegister_54 : decode cX13_doRegister 54 = .ok (.iaload, 1) := by decide +kernel
theorem dX13_doRegister_55 : decode cX13_doRegister 55 = .ok (.iadd, 1) := by decide +kernel
theorem dX13_doRegister_56 : decode cX13_doRegister 56 = .ok (.iastore, 1) := by decide +kernel
theorem dX13_doRegister_57 : decode cX13_doRegister 57 = .ok (.goto 143, 3) := by decide +kernel
theorem dX13_doRegister_60 : decode cX13_doRegister 60 = .ok (.iload_n 2, 1) := by decide +kernel
theorem dX13_doRegister_61 : decode cX13_doRegister 61 = .ok (.bipush 20, 2) := by decide +kernel
theorem dX13_doRegister_63 : decode cX13_doRegister 63 = .ok (.if_icmp .ne 43, 3) := by decide +kernel
theorem dX13_doRegister_66 : decode cX13_doRegister 66 = .ok (.aload_n 0, 1) := by decide +kernel
theorem dX13_doRegister_67 : decode cX13_doRegister 67 = .ok (.getfield 76, 3) := by decide +kernel
theorem dX13_doRegister_70 : decode cX13_doRegister 70 = .ok (.sipush 256, 3) := by decide +kernel
theorem dX13_doRegister_73 : decode cX13_doRegister 73 = .ok (.iload_n 3, 1) := by decide +kernel
theorem dX13_doRegister_74 : decode cX13_doRegister 74 = .ok (.iadd, 1) := by decide +kernel
theorem dX13_doRegister_75 : decode cX13_doRegister 75 = .ok (.dup2, 1) := by decide +kernel
theorem dX13_doRegister_76 : decode cX13_doRegister 76 = .ok (.iaload, 1) := by decide +kernel
theorem dX13_doRegister_77 : decode cX13_doRegister 77 = .ok (.iconst 1, 1) := by decide +kernel
theorem dX13_doRegister_78 : decode cX13_doRegister 78 = .ok (.isub, 1) := by decide +kernel
