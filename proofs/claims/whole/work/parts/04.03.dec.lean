theorem dX9_multiplyNumbers_103 : decode cX9_multiplyNumbers 103 = .ok (.invokevirtual 244, 3) := by decide +kernel
theorem dX9_multiplyNumbers_106 : decode cX9_multiplyNumbers 106 = .ok (.aload_n 0, 1) := by decide +kernel
theorem dX9_multiplyNumbers_107 : decode cX9_multiplyNumbers 107 = .ok (.getfield 21, 3) := by decide +kernel
theorem dX9_multiplyNumbers_110 : decode cX9_multiplyNumbers 110 = .ok (.aload_n 0, 1) := by decide +kernel
theorem dX9_multiplyNumbers_111 : decode cX9_multiplyNumbers 111 = .ok (.getfield 12, 3) := by decide +kernel
theorem dX9_multiplyNumbers_114 : decode cX9_multiplyNumbers 114 = .ok (.aload_n 0, 1) := by decide +kernel
theorem dX9_multiplyNumbers_115 : decode cX9_multiplyNumbers 115 = .ok (.getfield 18, 3) := by decide +kernel
theorem dX9_multiplyNumbers_118 : decode cX9_multiplyNumbers 118 = .ok (.invokevirtual 258, 3) := by decide +kernel
theorem dX9_multiplyNumbers_121 : decode cX9_multiplyNumbers 121 = .ok (.aload_n 0, 1) := by decide +kernel
theorem dX9_multiplyNumbers_122 : decode cX9_multiplyNumbers 122 = .ok (.getfield 21, 3) := by decide +kernel
theorem dX9_multiplyNumbers_125 : decode cX9_multiplyNumbers 125 = .ok (.aload_n 0, 1) := by decide +kernel
theorem dX9_multiplyNumbers_126 : decode cX9_multiplyNumbers 126 = .ok (.getfield 45, 3) := by decide +kernel
theorem dX9_multiplyNumbers_129 : decode cX9_multiplyNumbers 129 = .ok (.aload_n 0, 1) := by decide +kernel
theorem dX9_multiplyNumbers_130 : decode cX9_multiplyNumbers 130 = .ok (.getfield 106, 3) := by decide +kernel
theorem dX9_multiplyNumbers_133 : decode cX9_multiplyNumbers 133 = .ok (.aload_n 0, 1) := by decide +kernel
theorem dX9_multiplyNumbers_134 : decode cX9_multiplyNumbers 134 = .ok (.getfield 52, 3) := by decide +kernel
theorem dX9_multiplyNumbers_137 : decode cX9_multiplyNumbers 137 = .ok (.getfield 118, 3) := by decide +kernel
theorem dX9_multiplyNumbers_140 : decode cX9_multiplyNumbers 140 = .ok (.aload_n 0, 1) := by decide +kernel
theorem dX9_multiplyNumbers_141 : decode cX9_multiplyNumbers 141 = .ok (.getfield 21, 3) := by decide +kernel
theorem dX9_multiplyNumbers_144 : decode cX9_multiplyNumbers 144 = .ok (.invokevirtual 262, 3) := by decide +kernel
theorem dX9_multiplyNumbers_147 : decode cX9_multiplyNumbers 147 = .ok (.ifCond .eq 8, 3) := by decide +kernel
theorem dX9_multiplyNumbers_150 : decode cX9_multiplyNumbers 150 = .ok (.bipush 13, 2) := by decide +kernel
theorem dX9_multiplyNumbers_152 : decode cX9_multiplyNumbers 152 = .ok (.goto 5, 3) := by decide +kernel
theorem dX9_multiplyNumbers_155 : decode cX9_multiplyNumbers 155 = .ok (.bipush 12, 2) := by decide +kernel
theorem dX9_multiplyNumbers_157 : decode cX9_multiplyNumbers 157 = .ok (.invokevirtual 229, 3) := by decide +kernel
theorem dX9_multiplyNumbers_160 : decode cX9_multiplyNumbers 160 = .ok (.iconst 0, 1) := by decide +kernel
theorem dX9_multiplyNumbers_161 : decode cX9_multiplyNumbers 161 = .ok (.ireturn, 1) := by decide +kernel
theorem dX9_divideNumbers_0 : decode cX9_divideNumbers 0 = .ok (.aload_n 0, 1) := by decide +kernel
theorem dX9_divideNumbers_1 : decode cX9_divideNumbers 1 = .ok (.getfield 12, 3) := by decide +kernel
theorem dX9_divideNumbers_4 : decode cX9_divideNumbers 4 = .ok (.aload_n 0, 1) := by decide +kernel
theorem dX9_divideNumbers_5 : decode cX9_divideNumbers 5 = .ok (.getfield 45, 3) := by decide +kernel
theorem dX9_divideNumbers_8 : decode cX9_divideNumbers 8 = .ok (.aload_n 0, 1) := by decide +kernel
theorem dX9_divideNumbers_9 : decode cX9_divideNumbers 9 = .ok (.getfield 106, 3) := by decide +kernel
theorem dX9_divideNumbers_12 : decode cX9_divideNumbers 12 = .ok (.aload_n 0, 1) := by decide +kernel
theorem dX9_divideNumbers_13 : decode cX9_divideNumbers 13 = .ok (.getfield 52, 3) := by decide +kernel
theorem dX9_divideNumbers_16 : decode cX9_divideNumbers 16 = .ok (.getfield 118, 3) := by decide +kernel
theorem dX9_divideNumbers_19 : decode cX9_divideNumbers 19 = .ok (.invokevirtual 244, 3) := by decide +kernel
theorem dX9_divideNumbers_22 : decode cX9_divideNumbers 22 = .ok (.aload_n 0, 1) := by decide +kernel
theorem dX9_divideNumbers_23 : decode cX9_divideNumbers 23 = .ok (.getfield 18, 3) := by decide +kernel
theorem dX9_divideNumbers_26 : decode cX9_divideNumbers 26 = .ok (.aload_n 0, 1) := by decide +kernel
theorem dX9_divideNumbers_27 : decode cX9_divideNumbers 27 = .ok (.getfield 45, 3) := by decide +kernel
theorem dX9_divideNumbers_30 : decode cX9_divideNumbers 30 = .ok (.aload_n 0, 1) := by decide +kernel
theorem dX9_divideNumbers_31 : decode cX9_divideNumbers 31 = .ok (.getfield 115, 3) := by decide +kernel
theorem dX9_divideNumbers_34 : decode cX9_divideNumbers 34 = .ok (.aload_n 0, 1) := by decide +kernel
theorem dX9_divideNumbers_35 : decode cX9_divideNumbers 35 = .ok (.getfield 52, 3) := by decide +kernel
theorem dX9_divideNumbers_38 : decode cX9_divideNumbers 38 = .ok (.getfield 124, 3) := by decide +kernel
theorem dX9_divideNumbers_41 : decode cX9_divideNumbers 41 = .ok (.invokevirtual 244, 3) := by decide +kernel
theorem dX9_divideNumbers_44 : decode cX9_divideNumbers 44 = .ok (.aload_n 0, 1) := by decide +kernel
theorem dX9_divideNumbers_45 : decode cX9_divideNumbers 45 = .ok (.getfield 52, 3) := by decide +kernel
theorem dX9_divideNumbers_48 : decode cX9_divideNumbers 48 = .ok (.getfield 118, 3) := by decide +kernel
theorem dX9_divideNumbers_51 : decode cX9_divideNumbers 51 = .ok (.aload_n 0, 1) := by decide +kernel
theorem dX9_divideNumbers_52 : decode cX9_divideNumbers 52 = .ok (.getfield 52, 3) := by decide +kernel
theorem dX9_divideNumbers_55 : decode cX9_divideNumbers 55 = .ok (.getfield 124, 3) := by decide +kernel
theorem dX9_divideNumbers_58 : decode cX9_divideNumbers 58 = .ok (.isub, 1) := by decide +kernel
theorem dX9_divideNumbers_59 : decode cX9_divideNumbers 59 = .ok (.istore_n 1, 1) := by decide +kernel
theorem dX9_divideNumbers_60 : decode cX9_divideNumbers 60 = .ok (.aload_n 0, 1) := by decide +kernel
theorem dX9_divideNumbers_61 : decode cX9_divideNumbers 61 = .ok (.getfield 21, 3) := by decide +kernel
theorem dX9_divideNumbers_64 : decode cX9_divideNumbers 64 = .ok (.aload_n 0, 1) := by decide +kernel
theorem dX9_divideNumbers_65 : decode cX9_divideNumbers 65 = .ok (.getfield 12, 3) := by decide +kernel
theorem dX9_divideNumbers_68 : decode cX9_divideNumbers 68 = .ok (.aload_n 0, 1) := by decide +kernel
theorem dX9_divideNumbers_69 : decode cX9_divideNumbers 69 = .ok (.getfield 18, 3) := by decide +kernel
theorem dX9_divideNumbers_72 : decode cX9_divideNumbers 72 = .ok (.invokevirtual 266, 3) := by decide +kernel
theorem dX9_divideNumbers_75 : decode cX9_divideNumbers 75 = .ok (.invokevirtual 270, 3) := by decide +kernel
theorem dX9_divideNumbers_78 : decode cX9_divideNumbers 78 = .ok (.lstore_n 2, 1) := by decide +kernel
theorem dX9_divideNumbers_79 : decode cX9_divideNumbers 79 = .ok (.lload_n 2, 1) := by decide +kernel
theorem dX9_divideNumbers_80 : decode cX9_divideNumbers 80 = .ok (.ldc2_w 274, 3) := by decide +kernel
theorem dX9_divideNumbers_83 : decode cX9_divideNumbers 83 = .ok (.lcmp, 1) := by decide +kernel
theorem dX9_divideNumbers_84 : decode cX9_divideNumbers 84 = .ok (.ifCond .eq 18, 3) := by decide +kernel
theorem dX9_divideNumbers_87 : decode cX9_divideNumbers 87 = .ok (.aload_n 0, 1) := by decide +kernel
theorem dX9_divideNumbers_88 : decode cX9_divideNumbers 88 = .ok (.getfield 21, 3) := by decide +kernel
theorem dX9_divideNumbers_91 : decode cX9_divideNumbers 91 = .ok (.invokevirtual 276, 3) := by decide +kernel
theorem dX9_divideNumbers_94 : decode cX9_divideNumbers 94 = .ok (.iconst 2, 1) := by decide +kernel
theorem dX9_divideNumbers_95 : decode cX9_divideNumbers 95 = .ok (.iload_n 1, 1) := by decide +kernel
theorem dX9_divideNumbers_96 : decode cX9_divideNumbers 96 = .ok (.imul, 1) := by decide +kernel
theorem dX9_divideNumbers_97 : decode cX9_divideNumbers 97 = .ok (.iconst 1, 1) := by decide +kernel
theorem dX9_divideNumbers_98 : decode cX9_divideNumbers 98 = .ok (.isub, 1) := by decide +kernel
theorem dX9_divideNumbers_99 : decode cX9_divideNumbers 99 = .ok (.if_icmp .le 11, 3) := by decide +kernel
theorem dX9_divideNumbers_102 : decode cX9_divideNumbers 102 = .ok (.aload_n 0, 1) := by decide +kernel
theorem dX9_divideNumbers_103 : decode cX9_divideNumbers 103 = .ok (.bipush 7, 2) := by decide +kernel
theorem dX9_divideNumbers_105 : decode cX9_divideNumbers 105 = .ok (.iconst 0, 1) := by decide +kernel
theorem dX9_divideNumbers_106 : decode cX9_divideNumbers 106 = .ok (.invokevirtual 134, 3) := by decide +kernel
theorem dX9_divideNumbers_109 : decode cX9_divideNumbers 109 = .ok (.ireturn, 1) := by decide +kernel
theorem dX9_divideNumbers_110 : decode cX9_divideNumbers 110 = .ok (.aload_n 0, 1) := by decide +kernel
theorem dX9_divideNumbers_111 : decode cX9_divideNumbers 111 = .ok (.getfield 21, 3) := by decide +kernel
theorem dX9_divideNumbers_114 : decode cX9_divideNumbers 114 = .ok (.aload_n 0, 1) := by decide +kernel
theorem dX9_divideNumbers_115 : decode cX9_divideNumbers 115 = .ok (.getfield 45, 3) := by decide +kernel
theorem dX9_divideNumbers_118 : decode cX9_divideNumbers 118 = .ok (.aload_n 0, 1) := by decide +kernel
theorem dX9_divideNumbers_119 : decode cX9_divideNumbers 119 = .ok (.getfield 106, 3) := by decide +kernel
theorem dX9_divideNumbers_122 : decode cX9_divideNumbers 122 = .ok (.iload_n 1, 1) := by decide +kernel
theorem dX9_divideNumbers_123 : decode cX9_divideNumbers 123 = .ok (.aload_n 0, 1) := by decide +kernel
theorem dX9_divideNumbers_124 : decode cX9_divideNumbers 124 = .ok (.getfield 12, 3) := by decide +kernel
theorem dX9_divideNumbers_127 : decode cX9_divideNumbers 127 = .ok (.invokevirtual 262, 3) := by decide +kernel
theorem dX9_divideNumbers_130 : decode cX9_divideNumbers 130 = .ok (.aload_n 0, 1) := by decide +kernel
theorem dX9_divideNumbers_131 : decode cX9_divideNumbers 131 = .ok (.getfield 18, 3) := by decide +kernel
theorem dX9_divideNumbers_134 : decode cX9_divideNumbers 134 = .ok (.invokevirtual 262, 3) := by decide +kernel
theorem dX9_divideNumbers_137 : decode cX9_divideNumbers 137 = .ok (.if_icmp .eq 8, 3) := by decide +kernel
theorem dX9_divideNumbers_140 : decode cX9_divideNumbers 140 = .ok (.bipush 13, 2) := by decide +kernel
theorem dX9_divideNumbers_142 : decode cX9_divideNumbers 142 = .ok (.goto 5, 3) := by decide +kernel
theorem dX9_divideNumbers_145 : decode cX9_divideNumbers 145 = .ok (.bipush 12, 2) := by decide +kernel
theorem dX9_divideNumbers_147 : decode cX9_divideNumbers 147 = .ok (.invokevirtual 229, 3) := by decide +kernel
theorem dX9_divideNumbers_150 : decode cX9_divideNumbers 150 = .ok (.aload_n 0, 1) := by decide +kernel
theorem dX9_divideNumbers_151 : decode cX9_divideNumbers 151 = .ok (.getfield 21, 3) := by decide +kernel
theorem dX9_divideNumbers_154 : decode cX9_divideNumbers 154 = .ok (.lload_n 2, 1) := by decide +kernel
theorem dX9_divideNumbers_155 : decode cX9_divideNumbers 155 = .ok (.invokevirtual 222, 3) := by decide +kernel
theorem dX9_divideNumbers_158 : decode cX9_divideNumbers 158 = .ok (.aload_n 0, 1) := by decide +kernel
theorem dX9_divideNumbers_159 : decode cX9_divideNumbers 159 = .ok (.getfield 21, 3) := by decide +kernel
theorem dX9_divideNumbers_162 : decode cX9_divideNumbers 162 = .ok (.aload_n 0, 1) := by decide +kernel
theorem dX9_divideNumbers_163 : decode cX9_divideNumbers 163 = .ok (.getfield 45, 3) := by decide +kernel
theorem dX9_divideNumbers_166 : decode cX9_divideNumbers 166 = .ok (.aload_n 0, 1) := by decide +kernel
theorem dX9_divideNumbers_167 : decode cX9_divideNumbers 167 = .ok (.getfield 106, 3) := by decide +kernel
theorem dX9_divideNumbers_170 : decode cX9_divideNumbers 170 = .ok (.iload_n 1, 1) := by decide +kernel
theorem dX9_divideNumbers_171 : decode cX9_divideNumbers 171 = .ok (.iadd, 1) := by decide +kernel
theorem dX9_divideNumbers_172 : decode cX9_divideNumbers 172 = .ok (.aload_n 0, 1) := by decide +kernel
theorem dX9_divideNumbers_173 : decode cX9_divideNumbers 173 = .ok (.getfield 52, 3) := by decide +kernel
theorem dX9_divideNumbers_176 : decode cX9_divideNumbers 176 = .ok (.getfield 124, 3) := by decide +kernel
theorem dX9_divideNumbers_179 : decode cX9_divideNumbers 179 = .ok (.aload_n 0, 1) := by decide +kernel
theorem dX9_divideNumbers_180 : decode cX9_divideNumbers 180 = .ok (.getfield 12, 3) := by decide +kernel
theorem dX9_divideNumbers_183 : decode cX9_divideNumbers 183 = .ok (.invokevirtual 262, 3) := by decide +kernel
theorem dX9_divideNumbers_186 : decode cX9_divideNumbers 186 = .ok (.ifCond .eq 8, 3) := by decide +kernel
theorem dX9_divideNumbers_189 : decode cX9_divideNumbers 189 = .ok (.bipush 13, 2) := by decide +kernel
theorem dX9_divideNumbers_191 : decode cX9_divideNumbers 191 = .ok (.goto 5, 3) := by decide +kernel
theorem dX9_divideNumbers_194 : decode cX9_divideNumbers 194 = .ok (.bipush 12, 2) := by decide +kernel
theorem dX9_divideNumbers_196 : decode cX9_divideNumbers 196 = .ok (.invokevirtual 229, 3) := by decide +kernel
theorem dX9_divideNumbers_199 : decode cX9_divideNumbers 199 = .ok (.iconst 0, 1) := by decide +kernel
theorem dX9_divideNumbers_200 : decode cX9_divideNumbers 200 = .ok (.ireturn, 1) := by decide +kernel
theorem dX9_shiftNumber_0 : decode cX9_shiftNumber 0 = .ok (.aload_n 0, 1) := by decide +kernel
theorem dX9_shiftNumber_1 : decode cX9_shiftNumber 1 = .ok (.getfield 12, 3) := by decide +kernel
theorem dX9_shiftNumber_4 : decode cX9_shiftNumber 4 = .ok (.aload_n 0, 1) := by decide +kernel
theorem dX9_shiftNumber_5 : decode cX9_shiftNumber 5 = .ok (.getfield 45, 3) := by decide +kernel
theorem dX9_shiftNumber_8 : decode cX9_shiftNumber 8 = .ok (.aload_n 0, 1) := by decide +kernel
theorem dX9_shiftNumber_9 : decode cX9_shiftNumber 9 = .ok (.getfield 106, 3) := by decide +kernel
theorem dX9_shiftNumber_12 : decode cX9_shiftNumber 12 = .ok (.aload_n 0, 1) := by decide +kernel
theorem dX9_shiftNumber_13 : decode cX9_shiftNumber 13 = .ok (.getfield 52, 3) := by decide +kernel
theorem dX9_shiftNumber_16 : decode cX9_shiftNumber 16 = .ok (.getfield 118, 3) := by decide +kernel
theorem dX9_shiftNumber_19 : decode cX9_shiftNumber 19 = .ok (.invokevirtual 244, 3) := by decide +kernel
theorem dX9_shiftNumber_22 : decode cX9_shiftNumber 22 = .ok (.aload_n 0, 1) := by decide +kernel
theorem dX9_shiftNumber_23 : decode cX9_shiftNumber 23 = .ok (.getfield 52, 3) := by decide +kernel
theorem dX9_shiftNumber_26 : decode cX9_shiftNumber 26 = .ok (.getfield 235, 3) := by decide +kernel
theorem dX9_shiftNumber_29 : decode cX9_shiftNumber 29 = .ok (.ifCond .lt 24, 3) := by decide +kernel
theorem dX9_shiftNumber_32 : decode cX9_shiftNumber 32 = .ok (.aload_n 0, 1) := by decide +kernel
theorem dX9_shiftNumber_33 : decode cX9_shiftNumber 33 = .ok (.getfield 21, 3) := by decide +kernel
theorem dX9_shiftNumber_36 : decode cX9_shiftNumber 36 = .ok (.aload_n 0, 1) := by decide +kernel
theorem dX9_shiftNumber_37 : decode cX9_shiftNumber 37 = .ok (.getfield 12, 3) := by decide +kernel
theorem dX9_shiftNumber_40 : decode cX9_shiftNumber 40 = .ok (.aload_n 0, 1) := by decide +kernel
theorem dX9_shiftNumber_41 : decode cX9_shiftNumber 41 = .ok (.getfield 52, 3) := by decide +kernel
theorem dX9_shiftNumber_44 : decode cX9_shiftNumber 44 = .ok (.getfield 235, 3) := by decide +kernel
theorem dX9_shiftNumber_47 : decode cX9_shiftNumber 47 = .ok (.invokevirtual 277, 3) := by decide +kernel
theorem dX9_shiftNumber_50 : decode cX9_shiftNumber 50 = .ok (.goto 29, 3) := by decide +kernel
theorem dX9_shiftNumber_53 : decode cX9_shiftNumber 53 = .ok (.aload_n 0, 1) := by decide +kernel
theorem dX9_shiftNumber_54 : decode cX9_shiftNumber 54 = .ok (.getfield 21, 3) := by decide +kernel
theorem dX9_shiftNumber_57 : decode cX9_shiftNumber 57 = .ok (.aload_n 0, 1) := by decide +kernel
theorem dX9_shiftNumber_58 : decode cX9_shiftNumber 58 = .ok (.getfield 12, 3) := by decide +kernel
theorem dX9_shiftNumber_61 : decode cX9_shiftNumber 61 = .ok (.aload_n 0, 1) := by decide +kernel
theorem dX9_shiftNumber_62 : decode cX9_shiftNumber 62 = .ok (.getfield 52, 3) := by decide +kernel
theorem dX9_shiftNumber_65 : decode cX9_shiftNumber 65 = .ok (.getfield 235, 3) := by decide +kernel
theorem dX9_shiftNumber_68 : decode cX9_shiftNumber 68 = .ok (.ineg, 1) := by decide +kernel
theorem dX9_shiftNumber_69 : decode cX9_shiftNumber 69 = .ok (.aload_n 0, 1) := by decide +kernel
theorem dX9_shiftNumber_70 : decode cX9_shiftNumber 70 = .ok (.getfield 52, 3) := by decide +kernel
theorem dX9_shiftNumber_73 : decode cX9_shiftNumber 73 = .ok (.getfield 281, 3) := by decide +kernel
theorem dX9_shiftNumber_76 : decode cX9_shiftNumber 76 = .ok (.invokevirtual 284, 3) := by decide +kernel
theorem dX9_shiftNumber_79 : decode cX9_shiftNumber 79 = .ok (.aload_n 0, 1) := by decide +kernel
theorem dX9_shiftNumber_80 : decode cX9_shiftNumber 80 = .ok (.invokevirtual 248, 3) := by decide +kernel
theorem dX9_shiftNumber_83 : decode cX9_shiftNumber 83 = .ok (.ireturn, 1) := by decide +kernel
theorem dX9_edited_0 : decode cX9_edited 0 = .ok (.iload_n 1, 1) := by decide +kernel
theorem dX9_edited_1 : decode cX9_edited 1 = .ok (.ifCond .eq 49, 3) := by decide +kernel
theorem dX9_edited_4 : decode cX9_edited 4 = .ok (.aload_n 0, 1) := by decide +kernel
theorem dX9_edited_5 : decode cX9_edited 5 = .ok (.aload_n 0, 1) := by decide +kernel
theorem dX9_edited_6 : decode cX9_edited 6 = .ok (.getfield 27, 3) := by decide +kernel
theorem dX9_edited_9 : decode cX9_edited 9 = .ok (.invokevirtual 288, 3) := by decide +kernel
theorem dX9_edited_12 : decode cX9_edited 12 = .ok (.putfield 115, 3) := by decide +kernel
theorem dX9_edited_15 : decode cX9_edited 15 = .ok (.aload_n 0, 1) := by decide +kernel
theorem dX9_edited_16 : decode cX9_edited 16 = .ok (.iconst 2, 1) := by decide +kernel
theorem dX9_edited_17 : decode cX9_edited 17 = .ok (.aload_n 0, 1) := by decide +kernel
theorem dX9_edited_18 : decode cX9_edited 18 = .ok (.getfield 115, 3) := by decide +kernel
theorem dX9_edited_21 : decode cX9_edited 21 = .ok (.imul, 1) := by decide +kernel
theorem dX9_edited_22 : decode cX9_edited 22 = .ok (.aload_n 0, 1) := by decide +kernel
theorem dX9_edited_23 : decode cX9_edited 23 = .ok (.getfield 27, 3) := by decide +kernel
theorem dX9_edited_26 : decode cX9_edited 26 = .ok (.invokevirtual 291, 3) := by decide +kernel
theorem dX9_edited_29 : decode cX9_edited 29 = .ok (.iconst 4, 1) := by decide +kernel
theorem dX9_edited_30 : decode cX9_edited 30 = .ok (.ishr, 1) := by decide +kernel
theorem dX9_edited_31 : decode cX9_edited 31 = .ok (.invokevirtual 168, 3) := by decide +kernel
theorem dX9_edited_34 : decode cX9_edited 34 = .ok (.aload_n 0, 1) := by decide +kernel
theorem dX9_edited_35 : decode cX9_edited 35 = .ok (.iload_n 1, 1) := by decide +kernel
theorem dX9_edited_36 : decode cX9_edited 36 = .ok (.iconst 1, 1) := by decide +kernel
theorem dX9_edited_37 : decode cX9_edited 37 = .ok (.invokevirtual 134, 3) := by decide +kernel
theorem dX9_edited_40 : decode cX9_edited 40 = .ok (.pop, 1) := by decide +kernel
theorem dX9_edited_41 : decode cX9_edited 41 = .ok (.aload_n 0, 1) := by decide +kernel
theorem dX9_edited_42 : decode cX9_edited 42 = .ok (.getfield 31, 3) := by decide +kernel
theorem dX9_edited_45 : decode cX9_edited 45 = .ok (.iconst 5, 1) := by decide +kernel
theorem dX9_edited_46 : decode cX9_edited 46 = .ok (.iconst 1, 1) := by decide +kernel
theorem dX9_edited_47 : decode cX9_edited 47 = .ok (.iastore, 1) := by decide +kernel
theorem dX9_edited_48 : decode cX9_edited 48 = .ok (.iload_n 1, 1) := by decide +kernel
theorem dX9_edited_49 : decode cX9_edited 49 = .ok (.ireturn, 1) := by decide +kernel
theorem dX9_edited_50 : decode cX9_edited 50 = .ok (.aload_n 0, 1) := by decide +kernel
theorem dX9_edited_51 : decode cX9_edited 51 = .ok (.getfield 45, 3) := by decide +kernel
theorem dX9_edited_54 : decode cX9_edited 54 = .ok (.sipush 264, 3) := by decide +kernel
theorem dX9_edited_57 : decode cX9_edited 57 = .ok (.aload_n 0, 1) := by decide +kernel
theorem dX9_edited_58 : decode cX9_edited 58 = .ok (.getfield 27, 3) := by decide +kernel
theorem dX9_edited_61 : decode cX9_edited 61 = .ok (.invokevirtual 293, 3) := by decide +kernel
theorem dX9_edited_64 : decode cX9_edited 64 = .ok (.invokevirtual 233, 3) := by decide +kernel
theorem dX9_edited_67 : decode cX9_edited 67 = .ok (.iload_n 2, 1) := by decide +kernel
theorem dX9_edited_68 : decode cX9_edited 68 = .ok (.ifCond .eq 31, 3) := by decide +kernel
theorem dX9_edited_71 : decode cX9_edited 71 = .ok (.aload_n 0, 1) := by decide +kernel
theorem dX9_edited_72 : decode cX9_edited 72 = .ok (.getfield 27, 3) := by decide +kernel
theorem dX9_edited_75 : decode cX9_edited 75 = .ok (.invokevirtual 296, 3) := by decide +kernel
theorem dX9_edited_78 : decode cX9_edited 78 = .ok (.iconst (-1), 1) := by decide +kernel
theorem dX9_edited_79 : decode cX9_edited 79 = .ok (.if_icmp .eq 20, 3) := by decide +kernel
theorem dX9_edited_82 : decode cX9_edited 82 = .ok (.aload_n 0, 1) := by decide +kernel
theorem dX9_edited_83 : decode cX9_edited 83 = .ok (.getfield 45, 3) := by decide +kernel
theorem dX9_edited_86 : decode cX9_edited 86 = .ok (.sipush 257, 3) := by decide +kernel
theorem dX9_edited_89 : decode cX9_edited 89 = .ok (.aload_n 0, 1) := by decide +kernel
theorem dX9_edited_90 : decode cX9_edited 90 = .ok (.getfield 27, 3) := by decide +kernel
theorem dX9_edited_93 : decode cX9_edited 93 = .ok (.invokevirtual 296, 3) := by decide +kernel
theorem dX9_edited_96 : decode cX9_edited 96 = .ok (.invokevirtual 233, 3) := by decide +kernel
theorem dX9_edited_99 : decode cX9_edited 99 = .ok (.iconst 0, 1) := by decide +kernel
theorem dX9_edited_100 : decode cX9_edited 100 = .ok (.ireturn, 1) := by decide +kernel
theorem dX9_toBinary_0 : decode cX9_toBinary 0 = .ok (.aload_n 0, 1) := by decide +kernel
theorem dX9_toBinary_1 : decode cX9_toBinary 1 = .ok (.getfield 12, 3) := by decide +kernel
theorem dX9_toBinary_4 : decode cX9_toBinary 4 = .ok (.aload_n 0, 1) := by decide +kernel
theorem dX9_toBinary_5 : decode cX9_toBinary 5 = .ok (.getfield 45, 3) := by decide +kernel
theorem dX9_toBinary_8 : decode cX9_toBinary 8 = .ok (.aload_n 0, 1) := by decide +kernel
theorem dX9_toBinary_9 : decode cX9_toBinary 9 = .ok (.getfield 106, 3) := by decide +kernel
theorem dX9_toBinary_12 : decode cX9_toBinary 12 = .ok (.aload_n 0, 1) := by decide +kernel
theorem dX9_toBinary_13 : decode cX9_toBinary 13 = .ok (.getfield 52, 3) := by decide +kernel
theorem dX9_toBinary_16 : decode cX9_toBinary 16 = .ok (.getfield 118, 3) := by decide +kernel
theorem dX9_toBinary_19 : decode cX9_toBinary 19 = .ok (.invokevirtual 244, 3) := by decide +kernel
theorem dX9_toBinary_22 : decode cX9_toBinary 22 = .ok (.aload_n 0, 1) := by decide +kernel
theorem dX9_toBinary_23 : decode cX9_toBinary 23 = .ok (.getfield 12, 3) := by decide +kernel
theorem dX9_toBinary_26 : decode cX9_toBinary 26 = .ok (.invokevirtual 299, 3) := by decide +kernel
theorem dX9_toBinary_29 : decode cX9_toBinary 29 = .ok (.lstore_n 1, 1) := by decide +kernel
theorem dX9_toBinary_30 : decode cX9_toBinary 30 = .ok (.lload_n 1, 1) := by decide +kernel
theorem dX9_toBinary_31 : decode cX9_toBinary 31 = .ok (.lload_n 1, 1) := by decide +kernel
theorem dX9_toBinary_32 : decode cX9_toBinary 32 = .ok (.l2i, 1) := by decide +kernel
theorem dX9_toBinary_33 : decode cX9_toBinary 33 = .ok (.i2l, 1) := by decide +kernel
theorem dX9_toBinary_34 : decode cX9_toBinary 34 = .ok (.lcmp, 1) := by decide +kernel
theorem dX9_toBinary_35 : decode cX9_toBinary 35 = .ok (.ifCond .eq 11, 3) := by decide +kernel
theorem dX9_toBinary_38 : decode cX9_toBinary 38 = .ok (.aload_n 0, 1) := by decide +kernel
theorem dX9_toBinary_39 : decode cX9_toBinary 39 = .ok (.bipush 8, 2) := by decide +kernel
theorem dX9_toBinary_41 : decode cX9_toBinary 41 = .ok (.iconst 0, 1) := by decide +kernel
theorem dX9_toBinary_42 : decode cX9_toBinary 42 = .ok (.invokevirtual 134, 3) := by decide +kernel
theorem dX9_toBinary_45 : decode cX9_toBinary 45 = .ok (.ireturn, 1) := by decide +kernel
theorem dX9_toBinary_46 : decode cX9_toBinary 46 = .ok (.aload_n 0, 1) := by decide +kernel
theorem dX9_toBinary_47 : decode cX9_toBinary 47 = .ok (.getfield 45, 3) := by decide +kernel
theorem dX9_toBinary_50 : decode cX9_toBinary 50 = .ok (.sipush 256, 3) := by decide +kernel
theorem dX9_toBinary_53 : decode cX9_toBinary 53 = .ok (.aload_n 0, 1) := by decide +kernel
theorem dX9_toBinary_54 : decode cX9_toBinary 54 = .ok (.getfield 52, 3) := by decide +kernel
theorem dX9_toBinary_57 : decode cX9_toBinary 57 = .ok (.getfield 219, 3) := by decide +kernel
theorem dX9_toBinary_60 : decode cX9_toBinary 60 = .ok (.iadd, 1) := by decide +kernel
theorem dX9_toBinary_61 : decode cX9_toBinary 61 = .ok (.lload_n 1, 1) := by decide +kernel
theorem dX9_toBinary_62 : decode cX9_toBinary 62 = .ok (.l2i, 1) := by decide +kernel
theorem dX9_toBinary_63 : decode cX9_toBinary 63 = .ok (.invokevirtual 233, 3) := by decide +kernel
theorem dX9_toBinary_66 : decode cX9_toBinary 66 = .ok (.iconst 0, 1) := by decide +kernel
theorem dX9_toBinary_67 : decode cX9_toBinary 67 = .ok (.ireturn, 1) := by decide +kernel
theorem dX9_putResult_0 : decode cX9_putResult 0 = .ok (.aload_n 0, 1) := by decide +kernel
theorem dX9_putResult_1 : decode cX9_putResult 1 = .ok (.getfield 21, 3) := by decide +kernel
theorem dX9_putResult_4 : decode cX9_putResult 4 = .ok (.invokevirtual 276, 3) := by decide +kernel
theorem dX9_putResult_7 : decode cX9_putResult 7 = .ok (.iconst 2, 1) := by decide +kernel
theorem dX9_putResult_8 : decode cX9_putResult 8 = .ok (.aload_n 0, 1) := by decide +kernel
theorem dX9_putResult_9 : decode cX9_putResult 9 = .ok (.getfield 52, 3) := by decide +kernel
theorem dX9_putResult_12 : decode cX9_putResult 12 = .ok (.getfield 118, 3) := by decide +kernel
theorem dX9_putResult_15 : decode cX9_putResult 15 = .ok (.imul, 1) := by decide +kernel
theorem dX9_putResult_16 : decode cX9_putResult 16 = .ok (.iconst 1, 1) := by decide +kernel
theorem dX9_putResult_17 : decode cX9_putResult 17 = .ok (.isub, 1) := by decide +kernel
theorem dX9_putResult_18 : decode cX9_putResult 18 = .ok (.if_icmp .le 7, 3) := by decide +kernel
theorem dX9_putResult_21 : decode cX9_putResult 21 = .ok (.iconst 1, 1) := by decide +kernel
theorem dX9_putResult_22 : decode cX9_putResult 22 = .ok (.goto 4, 3) := by decide +kernel
theorem dX9_putResult_25 : decode cX9_putResult 25 = .ok (.iconst 0, 1) := by decide +kernel
theorem dX9_putResult_26 : decode cX9_putResult 26 = .ok (.istore_n 1, 1) := by decide +kernel
theorem dX9_putResult_27 : decode cX9_putResult 27 = .ok (.aload_n 0, 1) := by decide +kernel
theorem dX9_putResult_28 : decode cX9_putResult 28 = .ok (.getfield 21, 3) := by decide +kernel
theorem dX9_putResult_31 : decode cX9_putResult 31 = .ok (.aload_n 0, 1) := by decide +kernel
theorem dX9_putResult_32 : decode cX9_putResult 32 = .ok (.getfield 45, 3) := by decide +kernel
theorem dX9_putResult_35 : decode cX9_putResult 35 = .ok (.aload_n 0, 1) := by decide +kernel
theorem dX9_putResult_36 : decode cX9_putResult 36 = .ok (.getfield 106, 3) := by decide +kernel
theorem dX9_putResult_39 : decode cX9_putResult 39 = .ok (.aload_n 0, 1) := by decide +kernel
theorem dX9_putResult_40 : decode cX9_putResult 40 = .ok (.getfield 52, 3) := by decide +kernel
theorem dX9_putResult_43 : decode cX9_putResult 43 = .ok (.getfield 118, 3) := by decide +kernel
theorem dX9_putResult_46 : decode cX9_putResult 46 = .ok (.aload_n 0, 1) := by decide +kernel
theorem dX9_putResult_47 : decode cX9_putResult 47 = .ok (.getfield 21, 3) := by decide +kernel
theorem dX9_putResult_50 : decode cX9_putResult 50 = .ok (.invokevirtual 226, 3) := by decide +kernel
theorem dX9_putResult_53 : decode cX9_putResult 53 = .ok (.invokevirtual 229, 3) := by decide +kernel
theorem dX9_putResult_56 : decode cX9_putResult 56 = .ok (.aload_n 0, 1) := by decide +kernel
theorem dX9_putResult_57 : decode cX9_putResult 57 = .ok (.getfield 45, 3) := by decide +kernel
theorem dX9_putResult_60 : decode cX9_putResult 60 = .ok (.sipush 264, 3) := by decide +kernel
theorem dX9_putResult_63 : decode cX9_putResult 63 = .ok (.iload_n 1, 1) := by decide +kernel
theorem dX9_putResult_64 : decode cX9_putResult 64 = .ok (.ifCond .eq 7, 3) := by decide +kernel
theorem dX9_putResult_67 : decode cX9_putResult 67 = .ok (.iconst 3, 1) := by decide +kernel
theorem dX9_putResult_68 : decode cX9_putResult 68 = .ok (.goto 10, 3) := by decide +kernel
theorem dX9_putResult_71 : decode cX9_putResult 71 = .ok (.aload_n 0, 1) := by decide +kernel
theorem dX9_putResult_72 : decode cX9_putResult 72 = .ok (.getfield 21, 3) := by decide +kernel
theorem dX9_putResult_75 : decode cX9_putResult 75 = .ok (.invokevirtual 255, 3) := by decide +kernel
theorem dX9_putResult_78 : decode cX9_putResult 78 = .ok (.invokevirtual 233, 3) := by decide +kernel
theorem dX9_putResult_81 : decode cX9_putResult 81 = .ok (.iload_n 1, 1) := by decide +kernel
theorem dX9_putResult_82 : decode cX9_putResult 82 = .ok (.ifCond .eq 13, 3) := by decide +kernel
theorem dX9_putResult_85 : decode cX9_putResult 85 = .ok (.aload_n 0, 1) := by decide +kernel
theorem dX9_putResult_86 : decode cX9_putResult 86 = .ok (.bipush 6, 2) := by decide +kernel
theorem dX9_putResult_88 : decode cX9_putResult 88 = .ok (.iconst 0, 1) := by decide +kernel
theorem dX9_putResult_89 : decode cX9_putResult 89 = .ok (.invokevirtual 134, 3) := by decide +kernel
theorem dX9_putResult_92 : decode cX9_putResult 92 = .ok (.goto 4, 3) := by decide +kernel
theorem dX9_putResult_95 : decode cX9_putResult 95 = .ok (.iconst 0, 1) := by decide +kernel
theorem dX9_putResult_96 : decode cX9_putResult 96 = .ok (.ireturn, 1) := by decide +kernel
theorem dX9_held_0 : decode cX9_held 0 = .ok (.iload_n 1, 1) := by decide +kernel
theorem dX9_held_1 : decode cX9_held 1 = .ok (.iconst (-1), 1) := by decide +kernel
theorem dX9_held_2 : decode cX9_held 2 = .ok (.if_icmp .ne 7, 3) := by decide +kernel
theorem dX9_held_5 : decode cX9_held 5 = .ok (.iconst 0, 1) := by decide +kernel
theorem dX9_held_6 : decode cX9_held 6 = .ok (.goto 15, 3) := by decide +kernel
theorem dX9_held_9 : decode cX9_held 9 = .ok (.aload_n 0, 1) := by decide +kernel
theorem dX9_held_10 : decode cX9_held 10 = .ok (.getfield 45, 3) := by decide +kernel
theorem dX9_held_13 : decode cX9_held 13 = .ok (.sipush 256, 3) := by decide +kernel
theorem dX9_held_16 : decode cX9_held 16 = .ok (.iload_n 1, 1) := by decide +kernel
theorem dX9_held_17 : decode cX9_held 17 = .ok (.iadd, 1) := by decide +kernel
theorem dX9_held_18 : decode cX9_held 18 = .ok (.invokevirtual 64, 3) := by decide +kernel
theorem dX9_held_21 : decode cX9_held 21 = .ok (.ireturn, 1) := by decide +kernel
theorem dX9_blame_0 : decode cX9_blame 0 = .ok (.aload_n 0, 1) := by decide +kernel
theorem dX9_blame_1 : decode cX9_blame 1 = .ok (.getfield 31, 3) := by decide +kernel
theorem dX9_blame_4 : decode cX9_blame 4 = .ok (.iconst 3, 1) := by decide +kernel
theorem dX9_blame_5 : decode cX9_blame 5 = .ok (.iload_n 2, 1) := by decide +kernel
theorem dX9_blame_6 : decode cX9_blame 6 = .ok (.iastore, 1) := by decide +kernel
theorem dX9_blame_7 : decode cX9_blame 7 = .ok (.aload_n 0, 1) := by decide +kernel
theorem dX9_blame_8 : decode cX9_blame 8 = .ok (.getfield 31, 3) := by decide +kernel
theorem dX9_blame_11 : decode cX9_blame 11 = .ok (.iconst 4, 1) := by decide +kernel
theorem dX9_blame_12 : decode cX9_blame 12 = .ok (.iload_n 2, 1) := by decide +kernel
theorem dX9_blame_13 : decode cX9_blame 13 = .ok (.ifCond .ne 10, 3) := by decide +kernel
theorem dX9_blame_16 : decode cX9_blame 16 = .ok (.aload_n 0, 1) := by decide +kernel
theorem dX9_blame_17 : decode cX9_blame 17 = .ok (.getfield 106, 3) := by decide +kernel
theorem dX9_blame_20 : decode cX9_blame 20 = .ok (.goto 7, 3) := by decide +kernel
theorem dX9_blame_23 : decode cX9_blame 23 = .ok (.aload_n 0, 1) := by decide +kernel
theorem dX9_blame_24 : decode cX9_blame 24 = .ok (.getfield 115, 3) := by decide +kernel
theorem dX9_blame_27 : decode cX9_blame 27 = .ok (.iastore, 1) := by decide +kernel
theorem dX9_blame_28 : decode cX9_blame 28 = .ok (.aload_n 0, 1) := by decide +kernel
theorem dX9_blame_29 : decode cX9_blame 29 = .ok (.getfield 31, 3) := by decide +kernel
theorem dX9_blame_32 : decode cX9_blame 32 = .ok (.iconst 5, 1) := by decide +kernel
theorem dX9_blame_33 : decode cX9_blame 33 = .ok (.iload_n 2, 1) := by decide +kernel
theorem dX9_blame_34 : decode cX9_blame 34 = .ok (.ifCond .ne 13, 3) := by decide +kernel
theorem dX9_blame_37 : decode cX9_blame 37 = .ok (.aload_n 0, 1) := by decide +kernel
theorem dX9_blame_38 : decode cX9_blame 38 = .ok (.getfield 52, 3) := by decide +kernel
theorem dX9_blame_41 : decode cX9_blame 41 = .ok (.getfield 118, 3) := by decide +kernel
theorem dX9_blame_44 : decode cX9_blame 44 = .ok (.goto 10, 3) := by decide +kernel
theorem dX9_blame_47 : decode cX9_blame 47 = .ok (.aload_n 0, 1) := by decide +kernel
theorem dX9_blame_48 : decode cX9_blame 48 = .ok (.getfield 52, 3) := by decide +kernel
theorem dX9_blame_51 : decode cX9_blame 51 = .ok (.getfield 124, 3) := by decide +kernel
theorem dX9_blame_54 : decode cX9_blame 54 = .ok (.iastore, 1) := by decide +kernel
theorem dX9_blame_55 : decode cX9_blame 55 = .ok (.iload_n 1, 1) := by decide +kernel
theorem dX9_blame_56 : decode cX9_blame 56 = .ok (.ireturn, 1) := by decide +kernel
theorem dX9_blameHalf_0 : decode cX9_blameHalf 0 = .ok (.aload_n 0, 1) := by decide +kernel
theorem dX9_blameHalf_1 : decode cX9_blameHalf 1 = .ok (.getfield 31, 3) := by decide +kernel
theorem dX9_blameHalf_4 : decode cX9_blameHalf 4 = .ok (.bipush 6, 2) := by decide +kernel
theorem dX9_blameHalf_6 : decode cX9_blameHalf 6 = .ok (.iload_n 1, 1) := by decide +kernel
theorem dX9_blameHalf_7 : decode cX9_blameHalf 7 = .ok (.iconst 1, 1) := by decide +kernel
theorem dX9_blameHalf_8 : decode cX9_blameHalf 8 = .ok (.ishr, 1) := by decide +kernel
theorem dX9_blameHalf_9 : decode cX9_blameHalf 9 = .ok (.iastore, 1) := by decide +kernel
theorem dX9_blameHalf_10 : decode cX9_blameHalf 10 = .ok (.aload_n 0, 1) := by decide +kernel
theorem dX9_blameHalf_11 : decode cX9_blameHalf 11 = .ok (.getfield 31, 3) := by decide +kernel
theorem dX9_blameHalf_14 : decode cX9_blameHalf 14 = .ok (.bipush 7, 2) := by decide +kernel
theorem dX9_blameHalf_16 : decode cX9_blameHalf 16 = .ok (.iload_n 1, 1) := by decide +kernel
theorem dX9_blameHalf_17 : decode cX9_blameHalf 17 = .ok (.iconst 1, 1) := by decide +kernel
theorem dX9_blameHalf_18 : decode cX9_blameHalf 18 = .ok (.iand, 1) := by decide +kernel
theorem dX9_blameHalf_19 : decode cX9_blameHalf 19 = .ok (.iastore, 1) := by decide +kernel
theorem dX9_blameHalf_20 : decode cX9_blameHalf 20 = .ok (.aload_n 0, 1) := by decide +kernel
theorem dX9_blameHalf_21 : decode cX9_blameHalf 21 = .ok (.getfield 31, 3) := by decide +kernel
theorem dX9_blameHalf_24 : decode cX9_blameHalf 24 = .ok (.bipush 8, 2) := by decide +kernel
theorem dX9_blameHalf_26 : decode cX9_blameHalf 26 = .ok (.iload_n 2, 1) := by decide +kernel
theorem dX9_blameHalf_27 : decode cX9_blameHalf 27 = .ok (.iastore, 1) := by decide +kernel
theorem dX9_blameHalf_28 : decode cX9_blameHalf 28 = .ok (.return_, 1) := by decide +kernel
theorem dX9_tellWhy_0 : decode cX9_tellWhy 0 = .ok (.aload_n 0, 1) := by decide +kernel
theorem dX9_tellWhy_1 : decode cX9_tellWhy 1 = .ok (.getfield 31, 3) := by decide +kernel
theorem dX9_tellWhy_4 : decode cX9_tellWhy 4 = .ok (.iconst 0, 1) := by decide +kernel
theorem dX9_tellWhy_5 : decode cX9_tellWhy 5 = .ok (.iload_n 1, 1) := by decide +kernel
theorem dX9_tellWhy_6 : decode cX9_tellWhy 6 = .ok (.iastore, 1) := by decide +kernel
theorem dX9_tellWhy_7 : decode cX9_tellWhy 7 = .ok (.aload_n 0, 1) := by decide +kernel
theorem dX9_tellWhy_8 : decode cX9_tellWhy 8 = .ok (.getfield 31, 3) := by decide +kernel
theorem dX9_tellWhy_11 : decode cX9_tellWhy 11 = .ok (.iconst 1, 1) := by decide +kernel
theorem dX9_tellWhy_12 : decode cX9_tellWhy 12 = .ok (.iload_n 2, 1) := by decide +kernel
theorem dX9_tellWhy_13 : decode cX9_tellWhy 13 = .ok (.iastore, 1) := by decide +kernel
theorem dX9_tellWhy_14 : decode cX9_tellWhy 14 = .ok (.aload_n 0, 1) := by decide +kernel
theorem dX9_tellWhy_15 : decode cX9_tellWhy 15 = .ok (.getfield 31, 3) := by decide +kernel
theorem dX9_tellWhy_18 : decode cX9_tellWhy 18 = .ok (.iconst 2, 1) := by decide +kernel
theorem dX9_tellWhy_19 : decode cX9_tellWhy 19 = .ok (.aload_n 0, 1) := by decide +kernel
theorem dX9_tellWhy_20 : decode cX9_tellWhy 20 = .ok (.getfield 45, 3) := by decide +kernel
theorem dX9_tellWhy_23 : decode cX9_tellWhy 23 = .ok (.sipush 276, 3) := by decide +kernel
theorem dX9_tellWhy_26 : decode cX9_tellWhy 26 = .ok (.invokevirtual 64, 3) := by decide +kernel
theorem dX9_tellWhy_29 : decode cX9_tellWhy 29 = .ok (.iastore, 1) := by decide +kernel
theorem dX9_tellWhy_30 : decode cX9_tellWhy 30 = .ok (.iconst 0, 1) := by decide +kernel
theorem dX9_tellWhy_31 : decode cX9_tellWhy 31 = .ok (.istore_n 3, 1) := by decide +kernel
theorem dX9_tellWhy_32 : decode cX9_tellWhy 32 = .ok (.iload_n 3, 1) := by decide +kernel
theorem dX9_tellWhy_33 : decode cX9_tellWhy 33 = .ok (.aload_n 0, 1) := by decide +kernel
theorem dX9_tellWhy_34 : decode cX9_tellWhy 34 = .ok (.getfield 31, 3) := by decide +kernel
theorem dX9_tellWhy_37 : decode cX9_tellWhy 37 = .ok (.arraylength, 1) := by decide +kernel
theorem dX9_tellWhy_38 : decode cX9_tellWhy 38 = .ok (.if_icmp .ge 27, 3) := by decide +kernel
theorem dX9_tellWhy_41 : decode cX9_tellWhy 41 = .ok (.aload_n 0, 1) := by decide +kernel
theorem dX9_tellWhy_42 : decode cX9_tellWhy 42 = .ok (.getfield 45, 3) := by decide +kernel
theorem dX9_tellWhy_45 : decode cX9_tellWhy 45 = .ok (.sipush 278, 3) := by decide +kernel
theorem dX9_tellWhy_48 : decode cX9_tellWhy 48 = .ok (.iload_n 3, 1) := by decide +kernel
theorem dX9_tellWhy_49 : decode cX9_tellWhy 49 = .ok (.iadd, 1) := by decide +kernel
theorem dX9_tellWhy_50 : decode cX9_tellWhy 50 = .ok (.aload_n 0, 1) := by decide +kernel
theorem dX9_tellWhy_51 : decode cX9_tellWhy 51 = .ok (.getfield 31, 3) := by decide +kernel
theorem dX9_tellWhy_54 : decode cX9_tellWhy 54 = .ok (.iload_n 3, 1) := by decide +kernel
theorem dX9_tellWhy_55 : decode cX9_tellWhy 55 = .ok (.iaload, 1) := by decide +kernel
theorem dX9_tellWhy_56 : decode cX9_tellWhy 56 = .ok (.invokevirtual 233, 3) := by decide +kernel
theorem dX9_tellWhy_59 : decode cX9_tellWhy 59 = .ok (.iinc 3 1, 3) := by decide +kernel
theorem dX9_tellWhy_62 : decode cX9_tellWhy 62 = .ok (.goto (-30), 3) := by decide +kernel
theorem dX9_tellWhy_65 : decode cX9_tellWhy 65 = .ok (.aload_n 0, 1) := by decide +kernel
theorem dX9_tellWhy_66 : decode cX9_tellWhy 66 = .ok (.getfield 45, 3) := by decide +kernel
theorem dX9_tellWhy_69 : decode cX9_tellWhy 69 = .ok (.sipush 277, 3) := by decide +kernel
theorem dX9_tellWhy_72 : decode cX9_tellWhy 72 = .ok (.aload_n 0, 1) := by decide +kernel
theorem dX9_tellWhy_73 : decode cX9_tellWhy 73 = .ok (.getfield 45, 3) := by decide +kernel
theorem dX9_tellWhy_76 : decode cX9_tellWhy 76 = .ok (.sipush 277, 3) := by decide +kernel
theorem dX9_tellWhy_79 : decode cX9_tellWhy 79 = .ok (.invokevirtual 64, 3) := by decide +kernel
theorem dX9_tellWhy_82 : decode cX9_tellWhy 82 = .ok (.iconst 1, 1) := by decide +kernel
theorem dX9_tellWhy_83 : decode cX9_tellWhy 83 = .ok (.iadd, 1) := by decide +kernel
theorem dX9_tellWhy_84 : decode cX9_tellWhy 84 = .ok (.invokevirtual 233, 3) := by decide +kernel
theorem dX9_tellWhy_87 : decode cX9_tellWhy 87 = .ok (.return_, 1) := by decide +kernel
theorem dX9_conclude_0 : decode cX9_conclude 0 = .ok (.iload_n 1, 1) := by decide +kernel
theorem dX9_conclude_1 : decode cX9_conclude 1 = .ok (.ifCond .ne 7, 3) := by decide +kernel
theorem dX9_conclude_4 : decode cX9_conclude 4 = .ok (.iconst (-1), 1) := by decide +kernel
theorem dX9_conclude_5 : decode cX9_conclude 5 = .ok (.goto 17, 3) := by decide +kernel
theorem dX9_conclude_8 : decode cX9_conclude 8 = .ok (.aload_n 0, 1) := by decide +kernel
theorem dX9_conclude_9 : decode cX9_conclude 9 = .ok (.getfield 45, 3) := by decide +kernel
theorem dX9_conclude_12 : decode cX9_conclude 12 = .ok (.sipush 268, 3) := by decide +kernel
theorem dX9_conclude_15 : decode cX9_conclude 15 = .ok (.iload_n 1, 1) := by decide +kernel
theorem dX9_conclude_16 : decode cX9_conclude 16 = .ok (.iadd, 1) := by decide +kernel
theorem dX9_conclude_17 : decode cX9_conclude 17 = .ok (.iconst 1, 1) := by decide +kernel
theorem dX9_conclude_18 : decode cX9_conclude 18 = .ok (.isub, 1) := by decide +kernel
theorem dX9_conclude_19 : decode cX9_conclude 19 = .ok (.invokevirtual 64, 3) := by decide +kernel
theorem dX9_conclude_22 : decode cX9_conclude 22 = .ok (.istore_n 3, 1) := by decide +kernel
theorem dX9_conclude_23 : decode cX9_conclude 23 = .ok (.iload_n 1, 1) := by decide +kernel
theorem dX9_conclude_24 : decode cX9_conclude 24 = .ok (.ifCond .eq 20, 3) := by decide +kernel
theorem dX9_conclude_27 : decode cX9_conclude 27 = .ok (.iload_n 3, 1) := by decide +kernel
theorem dX9_conclude_28 : decode cX9_conclude 28 = .ok (.iconst (-1), 1) := by decide +kernel
theorem dX9_conclude_29 : decode cX9_conclude 29 = .ok (.if_icmp .ne 15, 3) := by decide +kernel
theorem dX9_conclude_32 : decode cX9_conclude 32 = .ok (.aload_n 0, 1) := by decide +kernel
theorem dX9_conclude_33 : decode cX9_conclude 33 = .ok (.getfield 45, 3) := by decide +kernel
theorem dX9_conclude_36 : decode cX9_conclude 36 = .ok (.sipush 267, 3) := by decide +kernel
theorem dX9_conclude_39 : decode cX9_conclude 39 = .ok (.iconst 2, 1) := by decide +kernel
theorem dX9_conclude_40 : decode cX9_conclude 40 = .ok (.invokevirtual 233, 3) := by decide +kernel
theorem dX9_conclude_43 : decode cX9_conclude 43 = .ok (.return_, 1) := by decide +kernel
theorem dX9_conclude_44 : decode cX9_conclude 44 = .ok (.iload_n 1, 1) := by decide +kernel
theorem dX9_conclude_45 : decode cX9_conclude 45 = .ok (.ifCond .eq 19, 3) := by decide +kernel
theorem dX9_conclude_48 : decode cX9_conclude 48 = .ok (.aload_n 0, 1) := by decide +kernel
theorem dX9_conclude_49 : decode cX9_conclude 49 = .ok (.getfield 45, 3) := by decide +kernel
theorem dX9_conclude_52 : decode cX9_conclude 52 = .ok (.sipush 266, 3) := by decide +kernel
theorem dX9_conclude_55 : decode cX9_conclude 55 = .ok (.iload_n 2, 1) := by decide +kernel
theorem dX9_conclude_56 : decode cX9_conclude 56 = .ok (.invokevirtual 233, 3) := by decide +kernel
theorem dX9_conclude_59 : decode cX9_conclude 59 = .ok (.aload_n 0, 1) := by decide +kernel
theorem dX9_conclude_60 : decode cX9_conclude 60 = .ok (.iload_n 3, 1) := by decide +kernel
theorem dX9_conclude_61 : decode cX9_conclude 61 = .ok (.putfield 72, 3) := by decide +kernel
theorem dX9_conclude_64 : decode cX9_conclude 64 = .ok (.aload_n 0, 1) := by decide +kernel
theorem dX9_conclude_65 : decode cX9_conclude 65 = .ok (.getfield 45, 3) := by decide +kernel
theorem dX9_conclude_68 : decode cX9_conclude 68 = .ok (.sipush 265, 3) := by decide +kernel
theorem dX9_conclude_71 : decode cX9_conclude 71 = .ok (.aload_n 0, 1) := by decide +kernel
theorem dX9_conclude_72 : decode cX9_conclude 72 = .ok (.getfield 72, 3) := by decide +kernel
theorem dX9_conclude_75 : decode cX9_conclude 75 = .ok (.invokevirtual 233, 3) := by decide +kernel
theorem dX9_conclude_78 : decode cX9_conclude 78 = .ok (.aload_n 0, 1) := by decide +kernel
theorem dX9_conclude_79 : decode cX9_conclude 79 = .ok (.getfield 45, 3) := by decide +kernel
theorem dX9_conclude_82 : decode cX9_conclude 82 = .ok (.sipush 267, 3) := by decide +kernel
theorem dX9_conclude_85 : decode cX9_conclude 85 = .ok (.aload_n 0, 1) := by decide +kernel
theorem dX9_conclude_86 : decode cX9_conclude 86 = .ok (.getfield 76, 3) := by decide +kernel
theorem dX9_conclude_89 : decode cX9_conclude 89 = .ok (.ifCond .ne 17, 3) := by decide +kernel
theorem dX9_conclude_92 : decode cX9_conclude 92 = .ok (.aload_n 0, 1) := by decide +kernel
theorem dX9_conclude_93 : decode cX9_conclude 93 = .ok (.getfield 72, 3) := by decide +kernel
theorem dX9_conclude_96 : decode cX9_conclude 96 = .ok (.aload_n 0, 1) := by decide +kernel
theorem dX9_conclude_97 : decode cX9_conclude 97 = .ok (.getfield 38, 3) := by decide +kernel
theorem dX9_conclude_100 : decode cX9_conclude 100 = .ok (.invokevirtual 56, 3) := by decide +kernel
theorem dX9_conclude_103 : decode cX9_conclude 103 = .ok (.if_icmp .lt 7, 3) := by decide +kernel
theorem dX9_conclude_106 : decode cX9_conclude 106 = .ok (.iconst 1, 1) := by decide +kernel
theorem dX9_conclude_107 : decode cX9_conclude 107 = .ok (.goto 4, 3) := by decide +kernel
theorem dX9_conclude_110 : decode cX9_conclude 110 = .ok (.iconst 0, 1) := by decide +kernel
theorem dX9_conclude_111 : decode cX9_conclude 111 = .ok (.invokevirtual 233, 3) := by decide +kernel
theorem dX9_conclude_114 : decode cX9_conclude 114 = .ok (.return_, 1) := by decide +kernel
theorem dX10_init_0 : decode cX10_init 0 = .ok (.aload_n 0, 1) := by decide +kernel
theorem dX10_init_1 : decode cX10_init 1 = .ok (.invokespecial 7, 3) := by decide +kernel
theorem dX10_init_4 : decode cX10_init 4 = .ok (.aload_n 0, 1) := by decide +kernel
theorem dX10_init_5 : decode cX10_init 5 = .ok (.sipush 411, 3) := by decide +kernel
theorem dX10_init_8 : decode cX10_init 8 = .ok (.newarray .int, 2) := by decide +kernel
theorem dX10_init_10 : decode cX10_init 10 = .ok (.putfield 13, 3) := by decide +kernel
theorem dX10_init_13 : decode cX10_init 13 = .ok (.aload_n 0, 1) := by decide +kernel
theorem dX10_init_14 : decode cX10_init 14 = .ok (.invokevirtual 17, 3) := by decide +kernel
theorem dX10_init_17 : decode cX10_init 17 = .ok (.return_, 1) := by decide +kernel
theorem dX10_isPlace_0 : decode cX10_isPlace 0 = .ok (.iload_n 0, 1) := by decide +kernel
theorem dX10_isPlace_1 : decode cX10_isPlace 1 = .ok (.ifCond .lt 14, 3) := by decide +kernel
theorem dX10_isPlace_4 : decode cX10_isPlace 4 = .ok (.iload_n 0, 1) := by decide +kernel
theorem dX10_isPlace_5 : decode cX10_isPlace 5 = .ok (.sipush 256, 3) := by decide +kernel
theorem dX10_isPlace_8 : decode cX10_isPlace 8 = .ok (.if_icmp .ge 7, 3) := by decide +kernel
theorem dX10_isPlace_11 : decode cX10_isPlace 11 = .ok (.iconst 1, 1) := by decide +kernel
theorem dX10_isPlace_12 : decode cX10_isPlace 12 = .ok (.goto 4, 3) := by decide +kernel
theorem dX10_isPlace_15 : decode cX10_isPlace 15 = .ok (.iconst 0, 1) := by decide +kernel
theorem dX10_isPlace_16 : decode cX10_isPlace 16 = .ok (.ireturn, 1) := by decide +kernel
theorem dX10_isByte_0 : decode cX10_isByte 0 = .ok (.iload_n 0, 1) := by decide +kernel
theorem dX10_isByte_1 : decode cX10_isByte 1 = .ok (.ifCond .lt 14, 3) := by decide +kernel
theorem dX10_isByte_4 : decode cX10_isByte 4 = .ok (.iload_n 0, 1) := by decide +kernel
theorem dX10_isByte_5 : decode cX10_isByte 5 = .ok (.sipush 256, 3) := by decide +kernel
theorem dX10_isByte_8 : decode cX10_isByte 8 = .ok (.if_icmp .ge 7, 3) := by decide +kernel
theorem dX10_isByte_11 : decode cX10_isByte 11 = .ok (.iconst 1, 1) := by decide +kernel
theorem dX10_isByte_12 : decode cX10_isByte 12 = .ok (.goto 4, 3) := by decide +kernel
theorem dX10_isByte_15 : decode cX10_isByte 15 = .ok (.iconst 0, 1) := by decide +kernel
theorem dX10_isByte_16 : decode cX10_isByte 16 = .ok (.ireturn, 1) := by decide +kernel
theorem dX10_isField_0 : decode cX10_isField 0 = .ok (.iload_n 1, 1) := by decide +kernel
theorem dX10_isField_1 : decode cX10_isField 1 = .ok (.ifCond .lt 27, 3) := by decide +kernel
theorem dX10_isField_4 : decode cX10_isField 4 = .ok (.iload_n 1, 1) := by decide +kernel
theorem dX10_isField_5 : decode cX10_isField 5 = .ok (.sipush 256, 3) := by decide +kernel
theorem dX10_isField_8 : decode cX10_isField 8 = .ok (.if_icmp .gt 20, 3) := by decide +kernel
theorem dX10_isField_11 : decode cX10_isField 11 = .ok (.iload_n 0, 1) := by decide +kernel
theorem dX10_isField_12 : decode cX10_isField 12 = .ok (.ifCond .lt 16, 3) := by decide +kernel
theorem dX10_isField_15 : decode cX10_isField 15 = .ok (.iload_n 0, 1) := by decide +kernel
theorem dX10_isField_16 : decode cX10_isField 16 = .ok (.sipush 256, 3) := by decide +kernel
theorem dX10_isField_19 : decode cX10_isField 19 = .ok (.iload_n 1, 1) := by decide +kernel
theorem dX10_isField_20 : decode cX10_isField 20 = .ok (.isub, 1) := by decide +kernel
theorem dX10_isField_21 : decode cX10_isField 21 = .ok (.if_icmp .gt 7, 3) := by decide +kernel
theorem dX10_isField_24 : decode cX10_isField 24 = .ok (.iconst 1, 1) := by decide +kernel
theorem dX10_isField_25 : decode cX10_isField 25 = .ok (.goto 4, 3) := by decide +kernel
theorem dX10_isField_28 : decode cX10_isField 28 = .ok (.iconst 0, 1) := by decide +kernel
theorem dX10_isField_29 : decode cX10_isField 29 = .ok (.ireturn, 1) := by decide +kernel
theorem dX10_withHalf_0 : decode cX10_withHalf 0 = .ok (.iload_n 1, 1) := by decide +kernel
theorem dX10_withHalf_1 : decode cX10_withHalf 1 = .ok (.ifCond .ne 14, 3) := by decide +kernel
theorem dX10_withHalf_4 : decode cX10_withHalf 4 = .ok (.iload_n 2, 1) := by decide +kernel
theorem dX10_withHalf_5 : decode cX10_withHalf 5 = .ok (.iconst 4, 1) := by decide +kernel
theorem dX10_withHalf_6 : decode cX10_withHalf 6 = .ok (.ishl, 1) := by decide +kernel
theorem dX10_withHalf_7 : decode cX10_withHalf 7 = .ok (.iload_n 0, 1) := by decide +kernel
theorem dX10_withHalf_8 : decode cX10_withHalf 8 = .ok (.bipush 15, 2) := by decide +kernel
theorem dX10_withHalf_10 : decode cX10_withHalf 10 = .ok (.iand, 1) := by decide +kernel
theorem dX10_withHalf_11 : decode cX10_withHalf 11 = .ok (.ior, 1) := by decide +kernel
theorem dX10_withHalf_12 : decode cX10_withHalf 12 = .ok (.goto 10, 3) := by decide +kernel
theorem dX10_withHalf_15 : decode cX10_withHalf 15 = .ok (.iload_n 0, 1) := by decide +kernel
theorem dX10_withHalf_16 : decode cX10_withHalf 16 = .ok (.sipush 240, 3) := by decide +kernel
theorem dX10_withHalf_19 : decode cX10_withHalf 19 = .ok (.iand, 1) := by decide +kernel
theorem dX10_withHalf_20 : decode cX10_withHalf 20 = .ok (.iload_n 2, 1) := by decide +kernel
theorem dX10_withHalf_21 : decode cX10_withHalf 21 = .ok (.ior, 1) := by decide +kernel
theorem dX10_withHalf_22 : decode cX10_withHalf 22 = .ok (.ireturn, 1) := by decide +kernel
theorem dX10_cell_0 : decode cX10_cell 0 = .ok (.iload_n 1, 1) := by decide +kernel
theorem dX10_cell_1 : decode cX10_cell 1 = .ok (.ifCond .lt 19, 3) := by decide +kernel
theorem dX10_cell_4 : decode cX10_cell 4 = .ok (.iload_n 1, 1) := by decide +kernel
theorem dX10_cell_5 : decode cX10_cell 5 = .ok (.sipush 411, 3) := by decide +kernel
theorem dX10_cell_8 : decode cX10_cell 8 = .ok (.if_icmp .ge 12, 3) := by decide +kernel
theorem dX10_cell_11 : decode cX10_cell 11 = .ok (.aload_n 0, 1) := by decide +kernel
theorem dX10_cell_12 : decode cX10_cell 12 = .ok (.getfield 13, 3) := by decide +kernel
theorem dX10_cell_15 : decode cX10_cell 15 = .ok (.iload_n 1, 1) := by decide +kernel
theorem dX10_cell_16 : decode cX10_cell 16 = .ok (.iaload, 1) := by decide +kernel
theorem dX10_cell_17 : decode cX10_cell 17 = .ok (.goto 4, 3) := by decide +kernel
theorem dX10_cell_20 : decode cX10_cell 20 = .ok (.iconst 0, 1) := by decide +kernel
theorem dX10_cell_21 : decode cX10_cell 21 = .ok (.ireturn, 1) := by decide +kernel
theorem dX10_put_0 : decode cX10_put 0 = .ok (.iload_n 1, 1) := by decide +kernel
theorem dX10_put_1 : decode cX10_put 1 = .ok (.ifCond .lt 17, 3) := by decide +kernel
theorem dX10_put_4 : decode cX10_put 4 = .ok (.iload_n 1, 1) := by decide +kernel
theorem dX10_put_5 : decode cX10_put 5 = .ok (.sipush 411, 3) := by decide +kernel
theorem dX10_put_8 : decode cX10_put 8 = .ok (.if_icmp .ge 10, 3) := by decide +kernel
theorem dX10_put_11 : decode cX10_put 11 = .ok (.aload_n 0, 1) := by decide +kernel
theorem dX10_put_12 : decode cX10_put 12 = .ok (.getfield 13, 3) := by decide +kernel
theorem dX10_put_15 : decode cX10_put 15 = .ok (.iload_n 1, 1) := by decide +kernel
theorem dX10_put_16 : decode cX10_put 16 = .ok (.iload_n 2, 1) := by decide +kernel
theorem dX10_put_17 : decode cX10_put 17 = .ok (.iastore, 1) := by decide +kernel
theorem dX10_put_18 : decode cX10_put 18 = .ok (.return_, 1) := by decide +kernel
theorem dX10_running_0 : decode cX10_running 0 = .ok (.aload_n 0, 1) := by decide +kernel
theorem dX10_running_1 : decode cX10_running 1 = .ok (.getfield 13, 3) := by decide +kernel
theorem dX10_running_4 : decode cX10_running 4 = .ok (.sipush 267, 3) := by decide +kernel
theorem dX10_running_7 : decode cX10_running 7 = .ok (.iaload, 1) := by decide +kernel
theorem dX10_running_8 : decode cX10_running 8 = .ok (.ifCond .ne 7, 3) := by decide +kernel
theorem dX10_running_11 : decode cX10_running 11 = .ok (.iconst 1, 1) := by decide +kernel
theorem dX10_running_12 : decode cX10_running 12 = .ok (.goto 4, 3) := by decide +kernel
theorem dX10_running_15 : decode cX10_running 15 = .ok (.iconst 0, 1) := by decide +kernel
theorem dX10_running_16 : decode cX10_running 16 = .ok (.ireturn, 1) := by decide +kernel
theorem dX10_half_0 : decode cX10_half 0 = .ok (.iload_n 1, 1) := by decide +kernel
theorem dX10_half_1 : decode cX10_half 1 = .ok (.iconst 1, 1) := by decide +kernel
theorem dX10_half_2 : decode cX10_half 2 = .ok (.ishr, 1) := by decide +kernel
theorem dX10_half_3 : decode cX10_half 3 = .ok (.istore_n 2, 1) := by decide +kernel
theorem dX10_half_4 : decode cX10_half 4 = .ok (.iload_n 2, 1) := by decide +kernel
theorem dX10_half_5 : decode cX10_half 5 = .ok (.ifCond .lt 10, 3) := by decide +kernel
theorem dX10_half_8 : decode cX10_half 8 = .ok (.iload_n 2, 1) := by decide +kernel
theorem dX10_half_9 : decode cX10_half 9 = .ok (.sipush 256, 3) := by decide +kernel
theorem dX10_half_12 : decode cX10_half 12 = .ok (.if_icmp .lt 7, 3) := by decide +kernel
theorem dX10_half_15 : decode cX10_half 15 = .ok (.iconst 0, 1) := by decide +kernel
theorem dX10_half_16 : decode cX10_half 16 = .ok (.goto 24, 3) := by decide +kernel
theorem dX10_half_19 : decode cX10_half 19 = .ok (.aload_n 0, 1) := by decide +kernel
theorem dX10_half_20 : decode cX10_half 20 = .ok (.getfield 13, 3) := by decide +kernel
theorem dX10_half_23 : decode cX10_half 23 = .ok (.iload_n 2, 1) := by decide +kernel
theorem dX10_half_24 : decode cX10_half 24 = .ok (.iaload, 1) := by decide +kernel
theorem dX10_half_25 : decode cX10_half 25 = .ok (.iload_n 1, 1) := by decide +kernel
theorem dX10_half_26 : decode cX10_half 26 = .ok (.iconst 1, 1) := by decide +kernel
theorem dX10_half_27 : decode cX10_half 27 = .ok (.iand, 1) := by decide +kernel
theorem dX10_half_28 : decode cX10_half 28 = .ok (.ifCond .ne 7, 3) := by decide +kernel
theorem dX10_half_31 : decode cX10_half 31 = .ok (.iconst 4, 1) := by decide +kernel
theorem dX10_half_32 : decode cX10_half 32 = .ok (.goto 4, 3) := by decide +kernel
theorem dX10_half_35 : decode cX10_half 35 = .ok (.iconst 0, 1) := by decide +kernel
theorem dX10_half_36 : decode cX10_half 36 = .ok (.ishr, 1) := by decide +kernel
theorem dX10_half_37 : decode cX10_half 37 = .ok (.bipush 15, 2) := by decide +kernel
theorem dX10_half_39 : decode cX10_half 39 = .ok (.iand, 1) := by decide +kernel
theorem dX10_half_40 : decode cX10_half 40 = .ok (.ireturn, 1) := by decide +kernel
theorem dX10_putHalf_0 : decode cX10_putHalf 0 = .ok (.iload_n 1, 1) := by decide +kernel
theorem dX10_putHalf_1 : decode cX10_putHalf 1 = .ok (.iconst 1, 1) := by decide +kernel
theorem dX10_putHalf_2 : decode cX10_putHalf 2 = .ok (.ishr, 1) := by decide +kernel
theorem dX10_putHalf_3 : decode cX10_putHalf 3 = .ok (.istore_n 3, 1) := by decide +kernel
theorem dX10_putHalf_4 : decode cX10_putHalf 4 = .ok (.iload_n 3, 1) := by decide +kernel
theorem dX10_putHalf_5 : decode cX10_putHalf 5 = .ok (.ifCond .lt 29, 3) := by decide +kernel
theorem dX10_putHalf_8 : decode cX10_putHalf 8 = .ok (.iload_n 3, 1) := by decide +kernel
theorem dX10_putHalf_9 : decode cX10_putHalf 9 = .ok (.sipush 256, 3) := by decide +kernel
theorem dX10_putHalf_12 : decode cX10_putHalf 12 = .ok (.if_icmp .ge 22, 3) := by decide +kernel
theorem dX10_putHalf_15 : decode cX10_putHalf 15 = .ok (.aload_n 0, 1) := by decide +kernel
theorem dX10_putHalf_16 : decode cX10_putHalf 16 = .ok (.getfield 13, 3) := by decide +kernel
theorem dX10_putHalf_19 : decode cX10_putHalf 19 = .ok (.iload_n 3, 1) := by decide +kernel
theorem dX10_putHalf_20 : decode cX10_putHalf 20 = .ok (.aload_n 0, 1) := by decide +kernel
theorem dX10_putHalf_21 : decode cX10_putHalf 21 = .ok (.getfield 13, 3) := by decide +kernel
theorem dX10_putHalf_24 : decode cX10_putHalf 24 = .ok (.iload_n 3, 1) := by decide +kernel
theorem dX10_putHalf_25 : decode cX10_putHalf 25 = .ok (.iaload, 1) := by decide +kernel
theorem dX10_putHalf_26 : decode cX10_putHalf 26 = .ok (.iload_n 1, 1) := by decide +kernel
theorem dX10_putHalf_27 : decode cX10_putHalf 27 = .ok (.iconst 1, 1) := by decide +kernel
theorem dX10_putHalf_28 : decode cX10_putHalf 28 = .ok (.iand, 1) := by decide +kernel
theorem dX10_putHalf_29 : decode cX10_putHalf 29 = .ok (.iload_n 2, 1) := by decide +kernel
theorem dX10_putHalf_30 : decode cX10_putHalf 30 = .ok (.invokestatic 20, 3) := by decide +kernel
theorem dX10_putHalf_33 : decode cX10_putHalf 33 = .ok (.iastore, 1) := by decide +kernel
theorem dX10_putHalf_34 : decode cX10_putHalf 34 = .ok (.return_, 1) := by decide +kernel
theorem dX10_firstFlaw_0 : decode cX10_firstFlaw 0 = .ok (.iconst 2, 1) := by decide +kernel
theorem dX10_firstFlaw_1 : decode cX10_firstFlaw 1 = .ok (.iload_n 1, 1) := by decide +kernel
theorem dX10_firstFlaw_2 : decode cX10_firstFlaw 2 = .ok (.iload_n 2, 1) := by decide +kernel
theorem dX10_firstFlaw_3 : decode cX10_firstFlaw 3 = .ok (.iadd, 1) := by decide +kernel
theorem dX10_firstFlaw_4 : decode cX10_firstFlaw 4 = .ok (.imul, 1) := by decide +kernel
theorem dX10_firstFlaw_5 : decode cX10_firstFlaw 5 = .ok (.iconst 1, 1) := by decide +kernel
theorem dX10_firstFlaw_6 : decode cX10_firstFlaw 6 = .ok (.isub, 1) := by decide +kernel
theorem dX10_firstFlaw_7 : decode cX10_firstFlaw 7 = .ok (.istore 5, 2) := by decide +kernel
theorem dX10_firstFlaw_9 : decode cX10_firstFlaw 9 = .ok (.iload_n 3, 1) := by decide +kernel
theorem dX10_firstFlaw_10 : decode cX10_firstFlaw 10 = .ok (.ifCond .eq 10, 3) := by decide +kernel
theorem dX10_firstFlaw_13 : decode cX10_firstFlaw 13 = .ok (.iload 5, 2) := by decide +kernel
theorem dX10_firstFlaw_15 : decode cX10_firstFlaw 15 = .ok (.iconst 1, 1) := by decide +kernel
theorem dX10_firstFlaw_16 : decode cX10_firstFlaw 16 = .ok (.isub, 1) := by decide +kernel
theorem dX10_firstFlaw_17 : decode cX10_firstFlaw 17 = .ok (.goto 5, 3) := by decide +kernel
theorem dX10_firstFlaw_20 : decode cX10_firstFlaw 20 = .ok (.iload 5, 2) := by decide +kernel
theorem dX10_firstFlaw_22 : decode cX10_firstFlaw 22 = .ok (.istore 6, 2) := by decide +kernel
theorem dX10_firstFlaw_24 : decode cX10_firstFlaw 24 = .ok (.iload 4, 2) := by decide +kernel
theorem dX10_firstFlaw_26 : decode cX10_firstFlaw 26 = .ok (.iconst 0, 1) := by decide +kernel
theorem dX10_firstFlaw_27 : decode cX10_firstFlaw 27 = .ok (.invokestatic 24, 3) := by decide +kernel
theorem dX10_firstFlaw_30 : decode cX10_firstFlaw 30 = .ok (.istore 7, 2) := by decide +kernel
theorem dX10_firstFlaw_32 : decode cX10_firstFlaw 32 = .ok (.iload 7, 2) := by decide +kernel
theorem dX10_firstFlaw_34 : decode cX10_firstFlaw 34 = .ok (.iload 5, 2) := by decide +kernel
theorem dX10_firstFlaw_36 : decode cX10_firstFlaw 36 = .ok (.if_icmp .gt 115, 3) := by decide +kernel
theorem dX10_firstFlaw_39 : decode cX10_firstFlaw 39 = .ok (.iload 7, 2) := by decide +kernel
theorem dX10_firstFlaw_41 : decode cX10_firstFlaw 41 = .ok (.sipush 512, 3) := by decide +kernel
theorem dX10_firstFlaw_44 : decode cX10_firstFlaw 44 = .ok (.if_icmp .ge 107, 3) := by decide +kernel
theorem dX10_firstFlaw_47 : decode cX10_firstFlaw 47 = .ok (.aload_n 0, 1) := by decide +kernel
theorem dX10_firstFlaw_48 : decode cX10_firstFlaw 48 = .ok (.getfield 13, 3) := by decide +kernel
theorem dX10_firstFlaw_51 : decode cX10_firstFlaw 51 = .ok (.iload 7, 2) := by decide +kernel
theorem dX10_firstFlaw_53 : decode cX10_firstFlaw 53 = .ok (.iconst 1, 1) := by decide +kernel
theorem dX10_firstFlaw_54 : decode cX10_firstFlaw 54 = .ok (.ishr, 1) := by decide +kernel
theorem dX10_firstFlaw_55 : decode cX10_firstFlaw 55 = .ok (.iaload, 1) := by decide +kernel
theorem dX10_firstFlaw_56 : decode cX10_firstFlaw 56 = .ok (.iload 7, 2) := by decide +kernel
theorem dX10_firstFlaw_58 : decode cX10_firstFlaw 58 = .ok (.iconst 1, 1) := by decide +kernel
theorem dX10_firstFlaw_59 : decode cX10_firstFlaw 59 = .ok (.iand, 1) := by decide +kernel
theorem dX10_firstFlaw_60 : decode cX10_firstFlaw 60 = .ok (.ifCond .ne 7, 3) := by decide +kernel
theorem dX10_firstFlaw_63 : decode cX10_firstFlaw 63 = .ok (.iconst 4, 1) := by decide +kernel
theorem dX10_firstFlaw_64 : decode cX10_firstFlaw 64 = .ok (.goto 4, 3) := by decide +kernel
theorem dX10_firstFlaw_67 : decode cX10_firstFlaw 67 = .ok (.iconst 0, 1) := by decide +kernel
theorem dX10_firstFlaw_68 : decode cX10_firstFlaw 68 = .ok (.ishr, 1) := by decide +kernel
theorem dX10_firstFlaw_69 : decode cX10_firstFlaw 69 = .ok (.bipush 15, 2) := by decide +kernel
theorem dX10_firstFlaw_71 : decode cX10_firstFlaw 71 = .ok (.iand, 1) := by decide +kernel
theorem dX10_firstFlaw_72 : decode cX10_firstFlaw 72 = .ok (.istore 8, 2) := by decide +kernel
theorem dX10_firstFlaw_74 : decode cX10_firstFlaw 74 = .ok (.iload 8, 2) := by decide +kernel
theorem dX10_firstFlaw_76 : decode cX10_firstFlaw 76 = .ok (.bipush 10, 2) := by decide +kernel
theorem dX10_firstFlaw_78 : decode cX10_firstFlaw 78 = .ok (.if_icmp .ge 7, 3) := by decide +kernel
theorem dX10_firstFlaw_81 : decode cX10_firstFlaw 81 = .ok (.iconst 1, 1) := by decide +kernel
theorem dX10_firstFlaw_82 : decode cX10_firstFlaw 82 = .ok (.goto 4, 3) := by decide +kernel
theorem dX10_firstFlaw_85 : decode cX10_firstFlaw 85 = .ok (.iconst 0, 1) := by decide +kernel
theorem dX10_firstFlaw_86 : decode cX10_firstFlaw 86 = .ok (.istore 9, 2) := by decide +kernel
theorem dX10_firstFlaw_88 : decode cX10_firstFlaw 88 = .ok (.iload 7, 2) := by decide +kernel
theorem dX10_firstFlaw_90 : decode cX10_firstFlaw 90 = .ok (.iload 6, 2) := by decide +kernel
theorem dX10_firstFlaw_92 : decode cX10_firstFlaw 92 = .ok (.if_icmp .ne 20, 3) := by decide +kernel
theorem dX10_firstFlaw_95 : decode cX10_firstFlaw 95 = .ok (.iload 8, 2) := by decide +kernel
theorem dX10_firstFlaw_97 : decode cX10_firstFlaw 97 = .ok (.bipush 9, 2) := by decide +kernel
theorem dX10_firstFlaw_99 : decode cX10_firstFlaw 99 = .ok (.if_icmp .le 7, 3) := by decide +kernel
theorem dX10_firstFlaw_102 : decode cX10_firstFlaw 102 = .ok (.iconst 1, 1) := by decide +kernel
theorem dX10_firstFlaw_103 : decode cX10_firstFlaw 103 = .ok (.goto 4, 3) := by decide +kernel
theorem dX10_firstFlaw_106 : decode cX10_firstFlaw 106 = .ok (.iconst 0, 1) := by decide +kernel
theorem dX10_firstFlaw_107 : decode cX10_firstFlaw 107 = .ok (.istore 9, 2) := by decide +kernel
theorem dX10_firstFlaw_109 : decode cX10_firstFlaw 109 = .ok (.goto 28, 3) := by decide +kernel
theorem dX10_firstFlaw_112 : decode cX10_firstFlaw 112 = .ok (.iload_n 3, 1) := by decide +kernel
theorem dX10_firstFlaw_113 : decode cX10_firstFlaw 113 = .ok (.ifCond .eq 24, 3) := by decide +kernel
theorem dX10_firstFlaw_116 : decode cX10_firstFlaw 116 = .ok (.iload 7, 2) := by decide +kernel
theorem dX10_firstFlaw_118 : decode cX10_firstFlaw 118 = .ok (.iconst 1, 1) := by decide +kernel
theorem dX10_firstFlaw_119 : decode cX10_firstFlaw 119 = .ok (.iand, 1) := by decide +kernel
theorem dX10_firstFlaw_120 : decode cX10_firstFlaw 120 = .ok (.ifCond .ne 17, 3) := by decide +kernel
theorem dX10_firstFlaw_123 : decode cX10_firstFlaw 123 = .ok (.iload 8, 2) := by decide +kernel
theorem dX10_firstFlaw_125 : decode cX10_firstFlaw 125 = .ok (.bipush 15, 2) := by decide +kernel
theorem dX10_firstFlaw_127 : decode cX10_firstFlaw 127 = .ok (.if_icmp .ne 7, 3) := by decide +kernel
theorem dX10_firstFlaw_130 : decode cX10_firstFlaw 130 = .ok (.iconst 1, 1) := by decide +kernel
theorem dX10_firstFlaw_131 : decode cX10_firstFlaw 131 = .ok (.goto 4, 3) := by decide +kernel
theorem dX10_firstFlaw_134 : decode cX10_firstFlaw 134 = .ok (.iconst 0, 1) := by decide +kernel
theorem dX10_firstFlaw_135 : decode cX10_firstFlaw 135 = .ok (.istore 9, 2) := by decide +kernel
theorem dX10_firstFlaw_137 : decode cX10_firstFlaw 137 = .ok (.iload 9, 2) := by decide +kernel
theorem dX10_firstFlaw_139 : decode cX10_firstFlaw 139 = .ok (.ifCond .ne 6, 3) := by decide +kernel
theorem dX10_firstFlaw_142 : decode cX10_firstFlaw 142 = .ok (.iload 7, 2) := by decide +kernel
theorem dX10_firstFlaw_144 : decode cX10_firstFlaw 144 = .ok (.ireturn, 1) := by decide +kernel
theorem dX10_firstFlaw_145 : decode cX10_firstFlaw 145 = .ok (.iinc 7 1, 3) := by decide +kernel
theorem dX10_firstFlaw_148 : decode cX10_firstFlaw 148 = .ok (.goto (-116), 3) := by decide +kernel
theorem dX10_firstFlaw_151 : decode cX10_firstFlaw 151 = .ok (.iconst (-1), 1) := by decide +kernel
theorem dX10_firstFlaw_152 : decode cX10_firstFlaw 152 = .ok (.ireturn, 1) := by decide +kernel
theorem dX10_traced_0 : decode cX10_traced 0 = .ok (.aload_n 0, 1) := by decide +kernel
theorem dX10_traced_1 : decode cX10_traced 1 = .ok (.getfield 13, 3) := by decide +kernel
theorem dX10_traced_4 : decode cX10_traced 4 = .ok (.sipush 276, 3) := by decide +kernel
theorem dX10_traced_7 : decode cX10_traced 7 = .ok (.iaload, 1) := by decide +kernel
theorem dX10_traced_8 : decode cX10_traced 8 = .ok (.bipush 64, 2) := by decide +kernel
theorem dX10_traced_10 : decode cX10_traced 10 = .ok (.invokestatic 30, 3) := by decide +kernel
theorem dX10_traced_13 : decode cX10_traced 13 = .ok (.ireturn, 1) := by decide +kernel
theorem dX10_latest_0 : decode cX10_latest 0 = .ok (.aload_n 0, 1) := by decide +kernel
theorem dX10_latest_1 : decode cX10_latest 1 = .ok (.sipush 287, 3) := by decide +kernel
theorem dX10_latest_4 : decode cX10_latest 4 = .ok (.aload_n 0, 1) := by decide +kernel
theorem dX10_latest_5 : decode cX10_latest 5 = .ok (.getfield 13, 3) := by decide +kernel
theorem dX10_latest_8 : decode cX10_latest 8 = .ok (.sipush 276, 3) := by decide +kernel
theorem dX10_latest_11 : decode cX10_latest 11 = .ok (.iaload, 1) := by decide +kernel
theorem dX10_latest_12 : decode cX10_latest 12 = .ok (.iconst 1, 1) := by decide +kernel
theorem dX10_latest_13 : decode cX10_latest 13 = .ok (.isub, 1) := by decide +kernel
theorem dX10_latest_14 : decode cX10_latest 14 = .ok (.iload_n 1, 1) := by decide +kernel
theorem dX10_latest_15 : decode cX10_latest 15 = .ok (.isub, 1) := by decide +kernel
theorem dX10_latest_16 : decode cX10_latest 16 = .ok (.bipush 64, 2) := by decide +kernel
theorem dX10_latest_18 : decode cX10_latest 18 = .ok (.invokestatic 33, 3) := by decide +kernel
theorem dX10_latest_21 : decode cX10_latest 21 = .ok (.iadd, 1) := by decide +kernel
theorem dX10_latest_22 : decode cX10_latest 22 = .ok (.invokevirtual 36, 3) := by decide +kernel
theorem dX10_latest_25 : decode cX10_latest 25 = .ok (.ireturn, 1) := by decide +kernel
theorem dX10_record_0 : decode cX10_record 0 = .ok (.aload_n 0, 1) := by decide +kernel
theorem dX10_record_1 : decode cX10_record 1 = .ok (.sipush 287, 3) := by decide +kernel
theorem dX10_record_4 : decode cX10_record 4 = .ok (.aload_n 0, 1) := by decide +kernel
theorem dX10_record_5 : decode cX10_record 5 = .ok (.getfield 13, 3) := by decide +kernel
theorem dX10_record_8 : decode cX10_record 8 = .ok (.sipush 276, 3) := by decide +kernel
theorem dX10_record_11 : decode cX10_record 11 = .ok (.iaload, 1) := by decide +kernel
theorem dX10_record_12 : decode cX10_record 12 = .ok (.bipush 64, 2) := by decide +kernel
theorem dX10_record_14 : decode cX10_record 14 = .ok (.invokestatic 33, 3) := by decide +kernel
theorem dX10_record_17 : decode cX10_record 17 = .ok (.iadd, 1) := by decide +kernel
theorem dX10_record_18 : decode cX10_record 18 = .ok (.iload_n 1, 1) := by decide +kernel
theorem dX10_record_19 : decode cX10_record 19 = .ok (.invokevirtual 40, 3) := by decide +kernel
theorem dX10_record_22 : decode cX10_record 22 = .ok (.aload_n 0, 1) := by decide +kernel
theorem dX10_record_23 : decode cX10_record 23 = .ok (.sipush 351, 3) := by decide +kernel
theorem dX10_record_26 : decode cX10_record 26 = .ok (.iload_n 1, 1) := by decide +kernel
theorem dX10_record_27 : decode cX10_record 27 = .ok (.iadd, 1) := by decide +kernel
theorem dX10_record_28 : decode cX10_record 28 = .ok (.aload_n 0, 1) := by decide +kernel
theorem dX10_record_29 : decode cX10_record 29 = .ok (.sipush 351, 3) := by decide +kernel
theorem dX10_record_32 : decode cX10_record 32 = .ok (.iload_n 1, 1) := by decide +kernel
theorem dX10_record_33 : decode cX10_record 33 = .ok (.iadd, 1) := by decide +kernel
theorem dX10_record_34 : decode cX10_record 34 = .ok (.invokevirtual 36, 3) := by decide +kernel
theorem dX10_record_37 : decode cX10_record 37 = .ok (.iconst 1, 1) := by decide +kernel
theorem dX10_record_38 : decode cX10_record 38 = .ok (.iadd, 1) := by decide +kernel
theorem dX10_record_39 : decode cX10_record 39 = .ok (.invokevirtual 40, 3) := by decide +kernel
theorem dX10_record_42 : decode cX10_record 42 = .ok (.aload_n 0, 1) := by decide +kernel
theorem dX10_record_43 : decode cX10_record 43 = .ok (.getfield 13, 3) := by decide +kernel
theorem dX10_record_46 : decode cX10_record 46 = .ok (.sipush 276, 3) := by decide +kernel
theorem dX10_record_49 : decode cX10_record 49 = .ok (.dup2, 1) := by decide +kernel
theorem dX10_record_50 : decode cX10_record 50 = .ok (.iaload, 1) := by decide +kernel
theorem dX10_record_51 : decode cX10_record 51 = .ok (.iconst 1, 1) := by decide +kernel
theorem dX10_record_52 : decode cX10_record 52 = .ok (.iadd, 1) := by decide +kernel
theorem dX10_record_53 : decode cX10_record 53 = .ok (.iastore, 1) := by decide +kernel
theorem dX10_record_54 : decode cX10_record 54 = .ok (.return_, 1) := by decide +kernel
theorem dX10_neverDone_0 : decode cX10_neverDone 0 = .ok (.iconst 0, 1) := by decide +kernel
theorem dX10_neverDone_1 : decode cX10_neverDone 1 = .ok (.istore_n 2, 1) := by decide +kernel
theorem dX10_neverDone_2 : decode cX10_neverDone 2 = .ok (.iconst 0, 1) := by decide +kernel
theorem dX10_neverDone_3 : decode cX10_neverDone 3 = .ok (.istore_n 3, 1) := by decide +kernel
theorem dX10_neverDone_4 : decode cX10_neverDone 4 = .ok (.iload_n 3, 1) := by decide +kernel
theorem dX10_neverDone_5 : decode cX10_neverDone 5 = .ok (.iload_n 1, 1) := by decide +kernel
theorem dX10_neverDone_6 : decode cX10_neverDone 6 = .ok (.if_icmp .ge 24, 3) := by decide +kernel
theorem dX10_neverDone_9 : decode cX10_neverDone 9 = .ok (.aload_n 0, 1) := by decide +kernel
theorem dX10_neverDone_10 : decode cX10_neverDone 10 = .ok (.sipush 351, 3) := by decide +kernel
theorem dX10_neverDone_13 : decode cX10_neverDone 13 = .ok (.iload_n 3, 1) := by decide +kernel
theorem dX10_neverDone_14 : decode cX10_neverDone 14 = .ok (.iadd, 1) := by decide +kernel
theorem dX10_neverDone_15 : decode cX10_neverDone 15 = .ok (.invokevirtual 36, 3) := by decide +kernel
theorem dX10_neverDone_18 : decode cX10_neverDone 18 = .ok (.ifCond .ne 6, 3) := by decide +kernel
theorem dX10_neverDone_21 : decode cX10_neverDone 21 = .ok (.iinc 2 1, 3) := by decide +kernel
theorem dX10_neverDone_24 : decode cX10_neverDone 24 = .ok (.iinc 3 1, 3) := by decide +kernel
theorem dX10_neverDone_27 : decode cX10_neverDone 27 = .ok (.goto (-23), 3) := by decide +kernel
theorem dX10_neverDone_30 : decode cX10_neverDone 30 = .ok (.iload_n 2, 1) := by decide +kernel
theorem dX10_neverDone_31 : decode cX10_neverDone 31 = .ok (.ireturn, 1) := by decide +kernel
theorem dX10_causes_0 : decode cX10_causes 0 = .ok (.aload_n 0, 1) := by decide +kernel
theorem dX10_causes_1 : decode cX10_causes 1 = .ok (.getfield 13, 3) := by decide +kernel
theorem dX10_causes_4 : decode cX10_causes 4 = .ok (.sipush 277, 3) := by decide +kernel
theorem dX10_causes_7 : decode cX10_causes 7 = .ok (.iaload, 1) := by decide +kernel
theorem dX10_causes_8 : decode cX10_causes 8 = .ok (.ifCond .ne 5, 3) := by decide +kernel
theorem dX10_causes_11 : decode cX10_causes 11 = .ok (.iconst 0, 1) := by decide +kernel
theorem dX10_causes_12 : decode cX10_causes 12 = .ok (.ireturn, 1) := by decide +kernel
theorem dX10_causes_13 : decode cX10_causes 13 = .ok (.aload_n 0, 1) := by decide +kernel
theorem dX10_causes_14 : decode cX10_causes 14 = .ok (.getfield 13, 3) := by decide +kernel
theorem dX10_causes_17 : decode cX10_causes 17 = .ok (.sipush 278, 3) := by decide +kernel
theorem dX10_causes_20 : decode cX10_causes 20 = .ok (.iaload, 1) := by decide +kernel
theorem dX10_causes_21 : decode cX10_causes 21 = .ok (.iconst 4, 1) := by decide +kernel
theorem dX10_causes_22 : decode cX10_causes 22 = .ok (.if_icmp .eq 15, 3) := by decide +kernel
theorem dX10_causes_25 : decode cX10_causes 25 = .ok (.aload_n 0, 1) := by decide +kernel
theorem dX10_causes_26 : decode cX10_causes 26 = .ok (.getfield 13, 3) := by decide +kernel
theorem dX10_causes_29 : decode cX10_causes 29 = .ok (.sipush 278, 3) := by decide +kernel
theorem dX10_causes_32 : decode cX10_causes 32 = .ok (.iaload, 1) := by decide +kernel
theorem dX10_causes_33 : decode cX10_causes 33 = .ok (.iconst 5, 1) := by decide +kernel
theorem dX10_causes_34 : decode cX10_causes 34 = .ok (.if_icmp .ne 7, 3) := by decide +kernel
theorem dX10_causes_37 : decode cX10_causes 37 = .ok (.iconst 3, 1) := by decide +kernel
theorem dX10_causes_38 : decode cX10_causes 38 = .ok (.goto 4, 3) := by decide +kernel
theorem dX10_causes_41 : decode cX10_causes 41 = .ok (.iconst 2, 1) := by decide +kernel
theorem dX10_causes_42 : decode cX10_causes 42 = .ok (.ireturn, 1) := by decide +kernel
theorem dX10_become_0 : decode cX10_become 0 = .ok (.aload_n 1, 1) := by decide +kernel
theorem dX10_become_1 : decode cX10_become 1 = .ok (.getfield 13, 3) := by decide +kernel
theorem dX10_become_4 : decode cX10_become 4 = .ok (.iconst 0, 1) := by decide +kernel
theorem dX10_become_5 : decode cX10_become 5 = .ok (.aload_n 0, 1) := by decide +kernel
theorem dX10_become_6 : decode cX10_become 6 = .ok (.getfield 13, 3) := by decide +kernel
theorem dX10_become_9 : decode cX10_become 9 = .ok (.iconst 0, 1) := by decide +kernel
theorem dX10_become_10 : decode cX10_become 10 = .ok (.sipush 411, 3) := by decide +kernel
theorem dX10_become_13 : decode cX10_become 13 = .ok (.invokestatic 46, 3) := by decide +kernel
theorem dX10_become_16 : decode cX10_become 16 = .ok (.return_, 1) := by decide +kernel
theorem dX10_alike_0 : decode cX10_alike 0 = .ok (.iconst 0, 1) := by decide +kernel
theorem dX10_alike_1 : decode cX10_alike 1 = .ok (.istore 4, 2) := by decide +kernel
theorem dX10_alike_3 : decode cX10_alike 3 = .ok (.iload 4, 2) := by decide +kernel
theorem dX10_alike_5 : decode cX10_alike 5 = .ok (.iload_n 2, 1) := by decide +kernel
theorem dX10_alike_6 : decode cX10_alike 6 = .ok (.if_icmp .ge 42, 3) := by decide +kernel
theorem dX10_alike_9 : decode cX10_alike 9 = .ok (.iload 4, 2) := by decide +kernel
theorem dX10_alike_11 : decode cX10_alike 11 = .ok (.sipush 411, 3) := by decide +kernel
theorem dX10_alike_14 : decode cX10_alike 14 = .ok (.if_icmp .ge 34, 3) := by decide +kernel
theorem dX10_alike_17 : decode cX10_alike 17 = .ok (.aload_n 0, 1) := by decide +kernel
theorem dX10_alike_18 : decode cX10_alike 18 = .ok (.getfield 13, 3) := by decide +kernel
theorem dX10_alike_21 : decode cX10_alike 21 = .ok (.iload 4, 2) := by decide +kernel
theorem dX10_alike_23 : decode cX10_alike 23 = .ok (.iaload, 1) := by decide +kernel
theorem dX10_alike_24 : decode cX10_alike 24 = .ok (.aload_n 1, 1) := by decide +kernel
theorem dX10_alike_25 : decode cX10_alike 25 = .ok (.getfield 13, 3) := by decide +kernel
theorem dX10_alike_28 : decode cX10_alike 28 = .ok (.iload 4, 2) := by decide +kernel
theorem dX10_alike_30 : decode cX10_alike 30 = .ok (.iaload, 1) := by decide +kernel
theorem dX10_alike_31 : decode cX10_alike 31 = .ok (.if_icmp .eq 11, 3) := by decide +kernel
theorem dX10_alike_34 : decode cX10_alike 34 = .ok (.iload 4, 2) := by decide +kernel
theorem dX10_alike_36 : decode cX10_alike 36 = .ok (.iload_n 3, 1) := by decide +kernel
theorem dX10_alike_37 : decode cX10_alike 37 = .ok (.if_icmp .eq 5, 3) := by decide +kernel
theorem dX10_alike_40 : decode cX10_alike 40 = .ok (.iconst 0, 1) := by decide +kernel
theorem dX10_alike_41 : decode cX10_alike 41 = .ok (.ireturn, 1) := by decide +kernel
theorem dX10_alike_42 : decode cX10_alike 42 = .ok (.iinc 4 1, 3) := by decide +kernel
theorem dX10_alike_45 : decode cX10_alike 45 = .ok (.goto (-42), 3) := by decide +kernel
theorem dX10_alike_48 : decode cX10_alike 48 = .ok (.iconst 1, 1) := by decide +kernel
theorem dX10_alike_49 : decode cX10_alike 49 = .ok (.ireturn, 1) := by decide +kernel
theorem dX10_unlike_0 : decode cX10_unlike 0 = .ok (.iconst 0, 1) := by decide +kernel
theorem dX10_unlike_1 : decode cX10_unlike 1 = .ok (.istore_n 2, 1) := by decide +kernel
theorem dX10_unlike_2 : decode cX10_unlike 2 = .ok (.iconst 0, 1) := by decide +kernel
theorem dX10_unlike_3 : decode cX10_unlike 3 = .ok (.istore_n 3, 1) := by decide +kernel
theorem dX10_unlike_4 : decode cX10_unlike 4 = .ok (.iload_n 3, 1) := by decide +kernel
theorem dX10_unlike_5 : decode cX10_unlike 5 = .ok (.sipush 256, 3) := by decide +kernel
theorem dX10_unlike_8 : decode cX10_unlike 8 = .ok (.if_icmp .ge 27, 3) := by decide +kernel
theorem dX10_unlike_11 : decode cX10_unlike 11 = .ok (.aload_n 0, 1) := by decide +kernel
theorem dX10_unlike_12 : decode cX10_unlike 12 = .ok (.getfield 13, 3) := by decide +kernel
theorem dX10_unlike_15 : decode cX10_unlike 15 = .ok (.iload_n 3, 1) := by decide +kernel
theorem dX10_unlike_16 : decode cX10_unlike 16 = .ok (.iaload, 1) := by decide +kernel
theorem dX10_unlike_17 : decode cX10_unlike 17 = .ok (.aload_n 1, 1) := by decide +kernel
theorem dX10_unlike_18 : decode cX10_unlike 18 = .ok (.getfield 13, 3) := by decide +kernel
theorem dX10_unlike_21 : decode cX10_unlike 21 = .ok (.iload_n 3, 1) := by decide +kernel
theorem dX10_unlike_22 : decode cX10_unlike 22 = .ok (.iaload, 1) := by decide +kernel
theorem dX10_unlike_23 : decode cX10_unlike 23 = .ok (.if_icmp .eq 6, 3) := by decide +kernel
theorem dX10_unlike_26 : decode cX10_unlike 26 = .ok (.iinc 2 1, 3) := by decide +kernel
theorem dX10_unlike_29 : decode cX10_unlike 29 = .ok (.iinc 3 1, 3) := by decide +kernel
theorem dX10_unlike_32 : decode cX10_unlike 32 = .ok (.goto (-28), 3) := by decide +kernel
theorem dX10_unlike_35 : decode cX10_unlike 35 = .ok (.iload_n 2, 1) := by decide +kernel
theorem dX10_unlike_36 : decode cX10_unlike 36 = .ok (.ireturn, 1) := by decide +kernel
theorem dX10_renew_0 : decode cX10_renew 0 = .ok (.aload_n 0, 1) := by decide +kernel
theorem dX10_renew_1 : decode cX10_renew 1 = .ok (.invokevirtual 17, 3) := by decide +kernel
theorem dX10_renew_4 : decode cX10_renew 4 = .ok (.aload_n 0, 1) := by decide +kernel
theorem dX10_renew_5 : decode cX10_renew 5 = .ok (.aload_n 1, 1) := by decide +kernel
theorem dX10_renew_6 : decode cX10_renew 6 = .ok (.invokevirtual 52, 3) := by decide +kernel
theorem dX10_renew_9 : decode cX10_renew 9 = .ok (.return_, 1) := by decide +kernel
theorem dX10_restart_0 : decode cX10_restart 0 = .ok (.iconst 0, 1) := by decide +kernel
theorem dX10_restart_1 : decode cX10_restart 1 = .ok (.istore_n 2, 1) := by decide +kernel
theorem dX10_restart_2 : decode cX10_restart 2 = .ok (.iload_n 2, 1) := by decide +kernel
theorem dX10_restart_3 : decode cX10_restart 3 = .ok (.sipush 256, 3) := by decide +kernel
theorem dX10_restart_6 : decode cX10_restart 6 = .ok (.if_icmp .ge 20, 3) := by decide +kernel
theorem dX10_restart_9 : decode cX10_restart 9 = .ok (.aload_n 0, 1) := by decide +kernel
theorem dX10_restart_10 : decode cX10_restart 10 = .ok (.getfield 13, 3) := by decide +kernel
theorem dX10_restart_13 : decode cX10_restart 13 = .ok (.iload_n 2, 1) := by decide +kernel
theorem dX10_restart_14 : decode cX10_restart 14 = .ok (.aload_n 1, 1) := by decide +kernel
theorem dX10_restart_15 : decode cX10_restart 15 = .ok (.iload_n 2, 1) := by decide +kernel
theorem dX10_restart_16 : decode cX10_restart 16 = .ok (.invokevirtual 56, 3) := by decide +kernel
theorem dX10_restart_19 : decode cX10_restart 19 = .ok (.iastore, 1) := by decide +kernel
theorem dX10_restart_20 : decode cX10_restart 20 = .ok (.iinc 2 1, 3) := by decide +kernel
theorem dX10_restart_23 : decode cX10_restart 23 = .ok (.goto (-21), 3) := by decide +kernel
theorem dX10_restart_26 : decode cX10_restart 26 = .ok (.sipush 256, 3) := by decide +kernel
theorem dX10_restart_29 : decode cX10_restart 29 = .ok (.istore_n 2, 1) := by decide +kernel
theorem dX10_restart_30 : decode cX10_restart 30 = .ok (.iload_n 2, 1) := by decide +kernel
theorem dX10_restart_31 : decode cX10_restart 31 = .ok (.sipush 268, 3) := by decide +kernel
theorem dX10_restart_34 : decode cX10_restart 34 = .ok (.if_icmp .ge 16, 3) := by decide +kernel
theorem dX10_restart_37 : decode cX10_restart 37 = .ok (.aload_n 0, 1) := by decide +kernel
theorem dX10_restart_38 : decode cX10_restart 38 = .ok (.getfield 13, 3) := by decide +kernel
theorem dX10_restart_41 : decode cX10_restart 41 = .ok (.iload_n 2, 1) := by decide +kernel
theorem dX10_restart_42 : decode cX10_restart 42 = .ok (.iconst 0, 1) := by decide +kernel
theorem dX10_restart_43 : decode cX10_restart 43 = .ok (.iastore, 1) := by decide +kernel
theorem dX10_restart_44 : decode cX10_restart 44 = .ok (.iinc 2 1, 3) := by decide +kernel
theorem dX10_restart_47 : decode cX10_restart 47 = .ok (.goto (-17), 3) := by decide +kernel
theorem dX10_restart_50 : decode cX10_restart 50 = .ok (.aload_n 0, 1) := by decide +kernel
theorem dX10_restart_51 : decode cX10_restart 51 = .ok (.invokevirtual 59, 3) := by decide +kernel
theorem dX10_restart_54 : decode cX10_restart 54 = .ok (.aload_n 0, 1) := by decide +kernel
theorem dX10_restart_55 : decode cX10_restart 55 = .ok (.getfield 13, 3) := by decide +kernel
theorem dX10_restart_58 : decode cX10_restart 58 = .ok (.sipush 267, 3) := by decide +kernel
theorem dX10_restart_61 : decode cX10_restart 61 = .ok (.aload_n 1, 1) := by decide +kernel
theorem dX10_restart_62 : decode cX10_restart 62 = .ok (.invokevirtual 62, 3) := by decide +kernel
theorem dX10_restart_65 : decode cX10_restart 65 = .ok (.ifCond .le 7, 3) := by decide +kernel
theorem dX10_restart_68 : decode cX10_restart 68 = .ok (.iconst 0, 1) := by decide +kernel
theorem dX10_restart_69 : decode cX10_restart 69 = .ok (.goto 4, 3) := by decide +kernel
theorem dX10_restart_72 : decode cX10_restart 72 = .ok (.iconst 1, 1) := by decide +kernel
theorem dX10_restart_73 : decode cX10_restart 73 = .ok (.iastore, 1) := by decide +kernel
theorem dX10_restart_74 : decode cX10_restart 74 = .ok (.return_, 1) := by decide +kernel
theorem dX10_clear_0 : decode cX10_clear 0 = .ok (.iconst 0, 1) := by decide +kernel
theorem dX10_clear_1 : decode cX10_clear 1 = .ok (.istore_n 1, 1) := by decide +kernel
theorem dX10_clear_2 : decode cX10_clear 2 = .ok (.iload_n 1, 1) := by decide +kernel
theorem dX10_clear_3 : decode cX10_clear 3 = .ok (.sipush 411, 3) := by decide +kernel
theorem dX10_clear_6 : decode cX10_clear 6 = .ok (.if_icmp .ge 16, 3) := by decide +kernel
theorem dX10_clear_9 : decode cX10_clear 9 = .ok (.aload_n 0, 1) := by decide +kernel
theorem dX10_clear_10 : decode cX10_clear 10 = .ok (.getfield 13, 3) := by decide +kernel
theorem dX10_clear_13 : decode cX10_clear 13 = .ok (.iload_n 1, 1) := by decide +kernel
theorem dX10_clear_14 : decode cX10_clear 14 = .ok (.iconst 0, 1) := by decide +kernel
theorem dX10_clear_15 : decode cX10_clear 15 = .ok (.iastore, 1) := by decide +kernel
theorem dX10_clear_16 : decode cX10_clear 16 = .ok (.iinc 1 1, 3) := by decide +kernel
theorem dX10_clear_19 : decode cX10_clear 19 = .ok (.goto (-17), 3) := by decide +kernel
theorem dX10_clear_22 : decode cX10_clear 22 = .ok (.aload_n 0, 1) := by decide +kernel
theorem dX10_clear_23 : decode cX10_clear 23 = .ok (.invokevirtual 59, 3) := by decide +kernel
theorem dX10_clear_26 : decode cX10_clear 26 = .ok (.aload_n 0, 1) := by decide +kernel
theorem dX10_clear_27 : decode cX10_clear 27 = .ok (.getfield 13, 3) := by decide +kernel
theorem dX10_clear_30 : decode cX10_clear 30 = .ok (.sipush 267, 3) := by decide +kernel
theorem dX10_clear_33 : decode cX10_clear 33 = .ok (.iconst 1, 1) := by decide +kernel
theorem dX10_clear_34 : decode cX10_clear 34 = .ok (.iastore, 1) := by decide +kernel
theorem dX10_clear_35 : decode cX10_clear 35 = .ok (.return_, 1) := by decide +kernel
theorem dX10_clearGuards_0 : decode cX10_clearGuards 0 = .ok (.sipush 268, 3) := by decide +kernel
theorem dX10_clearGuards_3 : decode cX10_clearGuards 3 = .ok (.istore_n 1, 1) := by decide +kernel
theorem dX10_clearGuards_4 : decode cX10_clearGuards 4 = .ok (.iload_n 1, 1) := by decide +kernel
theorem dX10_clearGuards_5 : decode cX10_clearGuards 5 = .ok (.sipush 276, 3) := by decide +kernel
theorem dX10_clearGuards_8 : decode cX10_clearGuards 8 = .ok (.if_icmp .ge 16, 3) := by decide +kernel
theorem dX10_clearGuards_11 : decode cX10_clearGuards 11 = .ok (.aload_n 0, 1) := by decide +kernel
theorem dX10_clearGuards_12 : decode cX10_clearGuards 12 = .ok (.getfield 13, 3) := by decide +kernel
theorem dX10_clearGuards_15 : decode cX10_clearGuards 15 = .ok (.iload_n 1, 1) := by decide +kernel
theorem dX10_clearGuards_16 : decode cX10_clearGuards 16 = .ok (.iconst (-1), 1) := by decide +kernel
theorem dX10_clearGuards_17 : decode cX10_clearGuards 17 = .ok (.iastore, 1) := by decide +kernel
theorem dX10_clearGuards_18 : decode cX10_clearGuards 18 = .ok (.iinc 1 1, 3) := by decide +kernel
theorem dX10_clearGuards_21 : decode cX10_clearGuards 21 = .ok (.goto (-17), 3) := by decide +kernel
theorem dX10_clearGuards_24 : decode cX10_clearGuards 24 = .ok (.aload_n 0, 1) := by decide +kernel
theorem dX10_clearGuards_25 : decode cX10_clearGuards 25 = .ok (.getfield 13, 3) := by decide +kernel
theorem dX10_clearGuards_28 : decode cX10_clearGuards 28 = .ok (.sipush 266, 3) := by decide +kernel
theorem dX10_clearGuards_31 : decode cX10_clearGuards 31 = .ok (.iconst (-1), 1) := by decide +kernel
theorem dX10_clearGuards_32 : decode cX10_clearGuards 32 = .ok (.iastore, 1) := by decide +kernel
theorem dX10_clearGuards_33 : decode cX10_clearGuards 33 = .ok (.return_, 1) := by decide +kernel
theorem dX11_told_0 : decode cX11_told 0 = .ok (.iload_n 1, 1) := by decide +kernel
theorem dX11_told_1 : decode cX11_told 1 = .ok (.ifCond .lt 9, 3) := by decide +kernel
theorem dX11_told_4 : decode cX11_told 4 = .ok (.iload_n 2, 1) := by decide +kernel
theorem dX11_told_5 : decode cX11_told 5 = .ok (.aload_n 0, 1) := by decide +kernel
theorem dX11_told_6 : decode cX11_told 6 = .ok (.arraylength, 1) := by decide +kernel
theorem dX11_told_7 : decode cX11_told 7 = .ok (.if_icmp .le 5, 3) := by decide +kernel
theorem dX11_told_10 : decode cX11_told 10 = .ok (.aconst_null, 1) := by decide +kernel
theorem dX11_told_11 : decode cX11_told 11 = .ok (.areturn, 1) := by decide +kernel
theorem dX11_told_12 : decode cX11_told 12 = .ok (.iconst 0, 1) := by decide +kernel
theorem dX11_told_13 : decode cX11_told 13 = .ok (.istore_n 3, 1) := by decide +kernel
theorem dX11_told_14 : decode cX11_told 14 = .ok (.iload_n 3, 1) := by decide +kernel
theorem dX11_told_15 : decode cX11_told 15 = .ok (.getstatic 125, 3) := by decide +kernel
theorem dX11_told_18 : decode cX11_told 18 = .ok (.arraylength, 1) := by decide +kernel
theorem dX11_told_19 : decode cX11_told 19 = .ok (.if_icmp .ge 86, 3) := by decide +kernel
theorem dX11_told_22 : decode cX11_told 22 = .ok (.getstatic 125, 3) := by decide +kernel
theorem dX11_told_25 : decode cX11_told 25 = .ok (.iload_n 3, 1) := by decide +kernel
theorem dX11_told_26 : decode cX11_told 26 = .ok (.aaload, 1) := by decide +kernel
theorem dX11_told_27 : decode cX11_told 27 = .ok (.getfield 110, 3) := by decide +kernel
theorem dX11_told_30 : decode cX11_told 30 = .ok (.astore 4, 2) := by decide +kernel
theorem dX11_told_32 : decode cX11_told 32 = .ok (.iconst 0, 1) := by decide +kernel
theorem dX11_told_33 : decode cX11_told 33 = .ok (.istore 5, 2) := by decide +kernel
theorem dX11_told_35 : decode cX11_told 35 = .ok (.aload 4, 2) := by decide +kernel
theorem dX11_told_37 : decode cX11_told 37 = .ok (.invokevirtual 128, 3) := by decide +kernel
theorem dX11_told_40 : decode cX11_told 40 = .ok (.iload_n 2, 1) := by decide +kernel
theorem dX11_told_41 : decode cX11_told 41 = .ok (.iload_n 1, 1) := by decide +kernel
theorem dX11_told_42 : decode cX11_told 42 = .ok (.isub, 1) := by decide +kernel
theorem dX11_told_43 : decode cX11_told 43 = .ok (.if_icmp .ne 35, 3) := by decide +kernel
theorem dX11_told_46 : decode cX11_told 46 = .ok (.iload 5, 2) := by decide +kernel
theorem dX11_told_48 : decode cX11_told 48 = .ok (.aload 4, 2) := by decide +kernel
theorem dX11_told_50 : decode cX11_told 50 = .ok (.invokevirtual 128, 3) := by decide +kernel
theorem dX11_told_53 : decode cX11_told 53 = .ok (.if_icmp .ge 25, 3) := by decide +kernel
theorem dX11_told_56 : decode cX11_told 56 = .ok (.aload 4, 2) := by decide +kernel
theorem dX11_told_58 : decode cX11_told 58 = .ok (.iload 5, 2) := by decide +kernel
theorem dX11_told_60 : decode cX11_told 60 = .ok (.invokevirtual 134, 3) := by decide +kernel
theorem dX11_told_63 : decode cX11_told 63 = .ok (.aload_n 0, 1) := by decide +kernel
theorem dX11_told_64 : decode cX11_told 64 = .ok (.iload_n 1, 1) := by decide +kernel
theorem dX11_told_65 : decode cX11_told 65 = .ok (.iload 5, 2) := by decide +kernel
theorem dX11_told_67 : decode cX11_told 67 = .ok (.iadd, 1) := by decide +kernel
theorem dX11_told_68 : decode cX11_told 68 = .ok (.iaload, 1) := by decide +kernel
theorem dX11_told_69 : decode cX11_told 69 = .ok (.if_icmp .ne 9, 3) := by decide +kernel
theorem dX11_told_72 : decode cX11_told 72 = .ok (.iinc 5 1, 3) := by decide +kernel
theorem dX11_told_75 : decode cX11_told 75 = .ok (.goto (-40), 3) := by decide +kernel
theorem dX11_told_78 : decode cX11_told 78 = .ok (.iload 5, 2) := by decide +kernel
theorem dX11_told_80 : decode cX11_told 80 = .ok (.ifCond .le 19, 3) := by decide +kernel
theorem dX11_told_83 : decode cX11_told 83 = .ok (.iload 5, 2) := by decide +kernel
theorem dX11_told_85 : decode cX11_told 85 = .ok (.aload 4, 2) := by decide +kernel
theorem dX11_told_87 : decode cX11_told 87 = .ok (.invokevirtual 128, 3) := by decide +kernel
theorem dX11_told_90 : decode cX11_told 90 = .ok (.if_icmp .ne 9, 3) := by decide +kernel
theorem dX11_told_93 : decode cX11_told 93 = .ok (.getstatic 125, 3) := by decide +kernel
theorem dX11_told_96 : decode cX11_told 96 = .ok (.iload_n 3, 1) := by decide +kernel
theorem dX11_told_97 : decode cX11_told 97 = .ok (.aaload, 1) := by decide +kernel
theorem dX11_told_98 : decode cX11_told 98 = .ok (.areturn, 1) := by decide +kernel
theorem dX11_told_99 : decode cX11_told 99 = .ok (.iinc 3 1, 3) := by decide +kernel
theorem dX11_told_102 : decode cX11_told 102 = .ok (.goto (-88), 3) := by decide +kernel
theorem dX11_told_105 : decode cX11_told 105 = .ok (.aconst_null, 1) := by decide +kernel
theorem dX11_told_106 : decode cX11_told 106 = .ok (.areturn, 1) := by decide +kernel
theorem dX12_init_0 : decode cX12_init 0 = .ok (.aload_n 0, 1) := by decide +kernel
theorem dX12_init_1 : decode cX12_init 1 = .ok (.invokespecial 1, 3) := by decide +kernel
theorem dX12_init_4 : decode cX12_init 4 = .ok (.aload_n 0, 1) := by decide +kernel
theorem dX12_init_5 : decode cX12_init 5 = .ok (.sipush 700, 3) := by decide +kernel
theorem dX12_init_8 : decode cX12_init 8 = .ok (.newarray .int, 2) := by decide +kernel
theorem dX12_init_10 : decode cX12_init 10 = .ok (.putfield 9, 3) := by decide +kernel
theorem dX12_init_13 : decode cX12_init 13 = .ok (.aload_n 0, 1) := by decide +kernel
theorem dX12_init_14 : decode cX12_init 14 = .ok (.iconst (-1), 1) := by decide +kernel
theorem dX12_init_15 : decode cX12_init 15 = .ok (.putfield 13, 3) := by decide +kernel
theorem dX12_init_18 : decode cX12_init 18 = .ok (.aload_n 0, 1) := by decide +kernel
theorem dX12_init_19 : decode cX12_init 19 = .ok (.new 17, 3) := by decide +kernel
theorem dX12_init_22 : decode cX12_init 22 = .ok (.dup, 1) := by decide +kernel
theorem dX12_init_23 : decode cX12_init 23 = .ok (.invokespecial 19, 3) := by decide +kernel
theorem dX12_init_26 : decode cX12_init 26 = .ok (.putfield 20, 3) := by decide +kernel
theorem dX12_init_29 : decode cX12_init 29 = .ok (.aload_n 0, 1) := by decide +kernel
theorem dX12_init_30 : decode cX12_init 30 = .ok (.new 24, 3) := by decide +kernel
theorem dX12_init_33 : decode cX12_init 33 = .ok (.dup, 1) := by decide +kernel
theorem dX12_init_34 : decode cX12_init 34 = .ok (.invokespecial 26, 3) := by decide +kernel
theorem dX12_init_37 : decode cX12_init 37 = .ok (.putfield 27, 3) := by decide +kernel
theorem dX12_init_40 : decode cX12_init 40 = .ok (.aload_n 0, 1) := by decide +kernel
theorem dX12_init_41 : decode cX12_init 41 = .ok (.new 31, 3) := by decide +kernel
theorem dX12_init_44 : decode cX12_init 44 = .ok (.dup, 1) := by decide +kernel
theorem dX12_init_45 : decode cX12_init 45 = .ok (.invokespecial 33, 3) := by decide +kernel
theorem dX12_init_48 : decode cX12_init 48 = .ok (.putfield 34, 3) := by decide +kernel
theorem dX12_init_51 : decode cX12_init 51 = .ok (.aload_n 0, 1) := by decide +kernel
theorem dX12_init_52 : decode cX12_init 52 = .ok (.new 38, 3) := by decide +kernel
theorem dX12_init_55 : decode cX12_init 55 = .ok (.dup, 1) := by decide +kernel
theorem dX12_init_56 : decode cX12_init 56 = .ok (.invokespecial 40, 3) := by decide +kernel
theorem dX12_init_59 : decode cX12_init 59 = .ok (.putfield 41, 3) := by decide +kernel
theorem dX12_init_62 : decode cX12_init 62 = .ok (.aload_n 0, 1) := by decide +kernel
theorem dX12_init_63 : decode cX12_init 63 = .ok (.new 45, 3) := by decide +kernel
theorem dX12_init_66 : decode cX12_init 66 = .ok (.dup, 1) := by decide +kernel
theorem dX12_init_67 : decode cX12_init 67 = .ok (.invokespecial 47, 3) := by decide +kernel
theorem dX12_init_70 : decode cX12_init 70 = .ok (.putfield 48, 3) := by decide +kernel
theorem dX12_init_73 : decode cX12_init 73 = .ok (.aload_n 0, 1) := by decide +kernel
theorem dX12_init_74 : decode cX12_init 74 = .ok (.new 45, 3) := by decide +kernel
theorem dX12_init_77 : decode cX12_init 77 = .ok (.dup, 1) := by decide +kernel
theorem dX12_init_78 : decode cX12_init 78 = .ok (.invokespecial 47, 3) := by decide +kernel
theorem dX12_init_81 : decode cX12_init 81 = .ok (.putfield 52, 3) := by decide +kernel
theorem dX12_init_84 : decode cX12_init 84 = .ok (.aload_n 0, 1) := by decide +kernel
theorem dX12_init_85 : decode cX12_init 85 = .ok (.new 45, 3) := by decide +kernel
theorem dX12_init_88 : decode cX12_init 88 = .ok (.dup, 1) := by decide +kernel
theorem dX12_init_89 : decode cX12_init 89 = .ok (.invokespecial 47, 3) := by decide +kernel
theorem dX12_init_92 : decode cX12_init 92 = .ok (.putfield 55, 3) := by decide +kernel
theorem dX12_init_95 : decode cX12_init 95 = .ok (.aload_n 0, 1) := by decide +kernel
theorem dX12_init_96 : decode cX12_init 96 = .ok (.new 58, 3) := by decide +kernel
theorem dX12_init_99 : decode cX12_init 99 = .ok (.dup, 1) := by decide +kernel
theorem dX12_init_100 : decode cX12_init 100 = .ok (.invokespecial 60, 3) := by decide +kernel
theorem dX12_init_103 : decode cX12_init 103 = .ok (.putfield 61, 3) := by decide +kernel
theorem dX12_init_106 : decode cX12_init 106 = .ok (.return_, 1) := by decide +kernel
theorem dX12_feed_0 : decode cX12_feed 0 = .ok (.aload_n 0, 1) := by decide +kernel
theorem dX12_feed_1 : decode cX12_feed 1 = .ok (.getfield 65, 3) := by decide +kernel
theorem dX12_feed_4 : decode cX12_feed 4 = .ok (.sipush 680, 3) := by decide +kernel
theorem dX12_feed_7 : decode cX12_feed 7 = .ok (.if_icmp .le 5, 3) := by decide +kernel
theorem dX12_feed_10 : decode cX12_feed 10 = .ok (.iconst (-1), 1) := by decide +kernel
theorem dX12_feed_11 : decode cX12_feed 11 = .ok (.ireturn, 1) := by decide +kernel
theorem dX12_feed_12 : decode cX12_feed 12 = .ok (.aload_n 0, 1) := by decide +kernel
theorem dX12_feed_13 : decode cX12_feed 13 = .ok (.iload_n 1, 1) := by decide +kernel
theorem dX12_feed_14 : decode cX12_feed 14 = .ok (.invokevirtual 68, 3) := by decide +kernel
theorem dX12_feed_17 : decode cX12_feed 17 = .ok (.aload_n 0, 1) := by decide +kernel
theorem dX12_feed_18 : decode cX12_feed 18 = .ok (.iload_n 2, 1) := by decide +kernel
theorem dX12_feed_19 : decode cX12_feed 19 = .ok (.invokevirtual 68, 3) := by decide +kernel
theorem dX12_feed_22 : decode cX12_feed 22 = .ok (.aload_n 0, 1) := by decide +kernel
theorem dX12_feed_23 : decode cX12_feed 23 = .ok (.iload_n 3, 1) := by decide +kernel
theorem dX12_feed_24 : decode cX12_feed 24 = .ok (.invokevirtual 68, 3) := by decide +kernel
theorem dX12_feed_27 : decode cX12_feed 27 = .ok (.aload_n 0, 1) := by decide +kernel
theorem dX12_feed_28 : decode cX12_feed 28 = .ok (.iload 4, 2) := by decide +kernel
theorem dX12_feed_30 : decode cX12_feed 30 = .ok (.invokevirtual 68, 3) := by decide +kernel
theorem dX12_feed_33 : decode cX12_feed 33 = .ok (.aload_n 0, 1) := by decide +kernel
theorem dX12_feed_34 : decode cX12_feed 34 = .ok (.iload 5, 2) := by decide +kernel
theorem dX12_feed_36 : decode cX12_feed 36 = .ok (.invokevirtual 68, 3) := by decide +kernel
theorem dX12_feed_39 : decode cX12_feed 39 = .ok (.aload_n 0, 1) := by decide +kernel
theorem dX12_feed_40 : decode cX12_feed 40 = .ok (.getfield 65, 3) := by decide +kernel
theorem dX12_feed_43 : decode cX12_feed 43 = .ok (.ireturn, 1) := by decide +kernel
theorem dX12_program_0 : decode cX12_program 0 = .ok (.iload_n 1, 1) := by decide +kernel
theorem dX12_program_1 : decode cX12_program 1 = .ok (.ifCond .lt 11, 3) := by decide +kernel
theorem dX12_program_4 : decode cX12_program 4 = .ok (.iload_n 1, 1) := by decide +kernel
theorem dX12_program_5 : decode cX12_program 5 = .ok (.aload_n 0, 1) := by decide +kernel
theorem dX12_program_6 : decode cX12_program 6 = .ok (.getfield 65, 3) := by decide +kernel
theorem dX12_program_9 : decode cX12_program 9 = .ok (.if_icmp .le 13, 3) := by decide +kernel
theorem dX12_program_12 : decode cX12_program 12 = .ok (.new 72, 3) := by decide +kernel
theorem dX12_program_15 : decode cX12_program 15 = .ok (.dup, 1) := by decide +kernel
theorem dX12_program_16 : decode cX12_program 16 = .ok (.ldc 74, 2) := by decide +kernel
theorem dX12_program_18 : decode cX12_program 18 = .ok (.invokespecial 76, 3) := by decide +kernel
theorem dX12_program_21 : decode cX12_program 21 = .ok (.athrow, 1) := by decide +kernel
theorem dX12_program_22 : decode cX12_program 22 = .ok (.aload_n 0, 1) := by decide +kernel
theorem dX12_program_23 : decode cX12_program 23 = .ok (.iconst 0, 1) := by decide +kernel
theorem dX12_program_24 : decode cX12_program 24 = .ok (.putfield 65, 3) := by decide +kernel
theorem dX12_program_27 : decode cX12_program 27 = .ok (.aload_n 0, 1) := by decide +kernel
theorem dX12_program_28 : decode cX12_program 28 = .ok (.getfield 27, 3) := by decide +kernel
theorem dX12_program_31 : decode cX12_program 31 = .ok (.aload_n 0, 1) := by decide +kernel
theorem dX12_program_32 : decode cX12_program 32 = .ok (.getfield 9, 3) := by decide +kernel
theorem dX12_program_35 : decode cX12_program 35 = .ok (.iload_n 1, 1) := by decide +kernel
theorem dX12_program_36 : decode cX12_program 36 = .ok (.aload_n 0, 1) := by decide +kernel
theorem dX12_program_37 : decode cX12_program 37 = .ok (.getfield 20, 3) := by decide +kernel
theorem dX12_program_40 : decode cX12_program 40 = .ok (.invokevirtual 79, 3) := by decide +kernel
theorem dX12_program_43 : decode cX12_program 43 = .ok (.istore_n 2, 1) := by decide +kernel
theorem dX12_program_44 : decode cX12_program 44 = .ok (.iload_n 2, 1) := by decide +kernel
theorem dX12_program_45 : decode cX12_program 45 = .ok (.ifCond .eq 24, 3) := by decide +kernel
theorem dX12_program_48 : decode cX12_program 48 = .ok (.aload_n 0, 1) := by decide +kernel
theorem dX12_program_49 : decode cX12_program 49 = .ok (.aload_n 0, 1) := by decide +kernel
theorem dX12_program_50 : decode cX12_program 50 = .ok (.getfield 27, 3) := by decide +kernel
theorem dX12_program_53 : decode cX12_program 53 = .ok (.invokevirtual 83, 3) := by decide +kernel
theorem dX12_program_56 : decode cX12_program 56 = .ok (.putfield 13, 3) := by decide +kernel
theorem dX12_program_59 : decode cX12_program 59 = .ok (.aload_n 0, 1) := by decide +kernel
theorem dX12_program_60 : decode cX12_program 60 = .ok (.getfield 61, 3) := by decide +kernel
theorem dX12_program_63 : decode cX12_program 63 = .ok (.iconst 0, 1) := by decide +kernel
theorem dX12_program_64 : decode cX12_program 64 = .ok (.invokevirtual 86, 3) := by decide +kernel
theorem dX12_program_67 : decode cX12_program 67 = .ok (.iload_n 2, 1) := by decide +kernel
theorem dX12_program_68 : decode cX12_program 68 = .ok (.ireturn, 1) := by decide +kernel
theorem dX12_program_69 : decode cX12_program 69 = .ok (.aload_n 0, 1) := by decide +kernel
theorem dX12_program_70 : decode cX12_program 70 = .ok (.iconst (-1), 1) := by decide +kernel
theorem dX12_program_71 : decode cX12_program 71 = .ok (.putfield 13, 3) := by decide +kernel
theorem dX12_program_74 : decode cX12_program 74 = .ok (.aload_n 0, 1) := by decide +kernel
theorem dX12_program_75 : decode cX12_program 75 = .ok (.getfield 61, 3) := by decide +kernel
theorem dX12_program_78 : decode cX12_program 78 = .ok (.aload_n 0, 1) := by decide +kernel
theorem dX12_program_79 : decode cX12_program 79 = .ok (.getfield 20, 3) := by decide +kernel
theorem dX12_program_82 : decode cX12_program 82 = .ok (.invokevirtual 89, 3) := by decide +kernel
theorem dX12_program_85 : decode cX12_program 85 = .ok (.aload_n 0, 1) := by decide +kernel
theorem dX12_program_86 : decode cX12_program 86 = .ok (.aload_n 0, 1) := by decide +kernel
theorem dX12_program_87 : decode cX12_program 87 = .ok (.getfield 34, 3) := by decide +kernel
theorem dX12_program_90 : decode cX12_program 90 = .ok (.getfield 93, 3) := by decide +kernel
theorem dX12_program_93 : decode cX12_program 93 = .ok (.aload_n 0, 1) := by decide +kernel
theorem dX12_program_94 : decode cX12_program 94 = .ok (.getfield 20, 3) := by decide +kernel
theorem dX12_program_97 : decode cX12_program 97 = .ok (.invokevirtual 97, 3) := by decide +kernel
theorem dX12_program_100 : decode cX12_program 100 = .ok (.putfield 20, 3) := by decide +kernel
theorem dX12_program_103 : decode cX12_program 103 = .ok (.aload_n 0, 1) := by decide +kernel
theorem dX12_program_104 : decode cX12_program 104 = .ok (.iconst 0, 1) := by decide +kernel
theorem dX12_program_105 : decode cX12_program 105 = .ok (.putfield 103, 3) := by decide +kernel
theorem dX12_program_108 : decode cX12_program 108 = .ok (.iconst 0, 1) := by decide +kernel
theorem dX12_program_109 : decode cX12_program 109 = .ok (.ireturn, 1) := by decide +kernel
theorem dX12_fault_0 : decode cX12_fault 0 = .ok (.aload_n 0, 1) := by decide +kernel
theorem dX12_fault_1 : decode cX12_fault 1 = .ok (.getfield 13, 3) := by decide +kernel
theorem dX12_fault_4 : decode cX12_fault 4 = .ok (.ireturn, 1) := by decide +kernel
theorem dX12_count_0 : decode cX12_count 0 = .ok (.aload_n 0, 1) := by decide +kernel
theorem dX12_count_1 : decode cX12_count 1 = .ok (.getfield 61, 3) := by decide +kernel
theorem dX12_count_4 : decode cX12_count 4 = .ok (.getfield 107, 3) := by decide +kernel
theorem dX12_count_7 : decode cX12_count 7 = .ok (.astore_n 2, 1) := by decide +kernel
theorem dX12_count_8 : decode cX12_count 8 = .ok (.iload_n 1, 1) := by decide +kernel
theorem dX12_count_9 : decode cX12_count 9 = .ok (.tableswitch 190 0 14 #[75, 83, 91, 99, 107, 115, 120, 128, 137, 142, 150, 158, 163, 172, 181], 75) := by decide +kernel
theorem dX12_count_84 : decode cX12_count 84 = .ok (.aload_n 2, 1) := by decide +kernel
theorem dX12_count_85 : decode cX12_count 85 = .ok (.sipush 276, 3) := by decide +kernel
theorem dX12_count_88 : decode cX12_count 88 = .ok (.invokevirtual 113, 3) := by decide +kernel
theorem dX12_count_91 : decode cX12_count 91 = .ok (.ireturn, 1) := by decide +kernel
theorem dX12_count_92 : decode cX12_count 92 = .ok (.aload_n 2, 1) := by decide +kernel
theorem dX12_count_93 : decode cX12_count 93 = .ok (.sipush 267, 3) := by decide +kernel
theorem dX12_count_96 : decode cX12_count 96 = .ok (.invokevirtual 113, 3) := by decide +kernel
theorem dX12_count_99 : decode cX12_count 99 = .ok (.ireturn, 1) := by decide +kernel
theorem dX12_count_100 : decode cX12_count 100 = .ok (.aload_n 2, 1) := by decide +kernel
theorem dX12_count_101 : decode cX12_count 101 = .ok (.sipush 265, 3) := by decide +kernel
theorem dX12_count_104 : decode cX12_count 104 = .ok (.invokevirtual 113, 3) := by decide +kernel
theorem dX12_count_107 : decode cX12_count 107 = .ok (.ireturn, 1) := by decide +kernel
theorem dX12_count_108 : decode cX12_count 108 = .ok (.aload_n 2, 1) := by decide +kernel
theorem dX12_count_109 : decode cX12_count 109 = .ok (.sipush 264, 3) := by decide +kernel
theorem dX12_count_112 : decode cX12_count 112 = .ok (.invokevirtual 113, 3) := by decide +kernel
theorem dX12_count_115 : decode cX12_count 115 = .ok (.ireturn, 1) := by decide +kernel
theorem dX12_count_116 : decode cX12_count 116 = .ok (.aload_n 2, 1) := by decide +kernel
theorem dX12_count_117 : decode cX12_count 117 = .ok (.sipush 266, 3) := by decide +kernel
theorem dX12_count_120 : decode cX12_count 120 = .ok (.invokevirtual 113, 3) := by decide +kernel
theorem dX12_count_123 : decode cX12_count 123 = .ok (.ireturn, 1) := by decide +kernel
theorem dX12_count_124 : decode cX12_count 124 = .ok (.aload_n 0, 1) := by decide +kernel
theorem dX12_count_125 : decode cX12_count 125 = .ok (.invokevirtual 117, 3) := by decide +kernel
theorem dX12_count_128 : decode cX12_count 128 = .ok (.ireturn, 1) := by decide +kernel
theorem dX12_count_129 : decode cX12_count 129 = .ok (.aload_n 2, 1) := by decide +kernel
theorem dX12_count_130 : decode cX12_count 130 = .ok (.sipush 277, 3) := by decide +kernel
theorem dX12_count_133 : decode cX12_count 133 = .ok (.invokevirtual 113, 3) := by decide +kernel
theorem dX12_count_136 : decode cX12_count 136 = .ok (.ireturn, 1) := by decide +kernel
theorem dX12_count_137 : decode cX12_count 137 = .ok (.aload_n 2, 1) := by decide +kernel
theorem dX12_count_138 : decode cX12_count 138 = .ok (.aload_n 0, 1) := by decide +kernel
theorem dX12_count_139 : decode cX12_count 139 = .ok (.invokevirtual 117, 3) := by decide +kernel
theorem dX12_count_142 : decode cX12_count 142 = .ok (.invokevirtual 120, 3) := by decide +kernel
theorem dX12_count_145 : decode cX12_count 145 = .ok (.ireturn, 1) := by decide +kernel
theorem dX12_count_146 : decode cX12_count 146 = .ok (.aload_n 2, 1) := by decide +kernel
theorem dX12_count_147 : decode cX12_count 147 = .ok (.invokevirtual 123, 3) := by decide +kernel
theorem dX12_count_150 : decode cX12_count 150 = .ok (.ireturn, 1) := by decide +kernel
theorem dX12_count_151 : decode cX12_count 151 = .ok (.aload_n 0, 1) := by decide +kernel
theorem dX12_count_152 : decode cX12_count 152 = .ok (.getfield 61, 3) := by decide +kernel
theorem dX12_count_155 : decode cX12_count 155 = .ok (.invokevirtual 126, 3) := by decide +kernel
theorem dX12_count_158 : decode cX12_count 158 = .ok (.ireturn, 1) := by decide +kernel
theorem dX12_count_159 : decode cX12_count 159 = .ok (.aload_n 0, 1) := by decide +kernel
theorem dX12_count_160 : decode cX12_count 160 = .ok (.getfield 61, 3) := by decide +kernel
theorem dX12_count_163 : decode cX12_count 163 = .ok (.invokevirtual 129, 3) := by decide +kernel
theorem dX12_count_166 : decode cX12_count 166 = .ok (.ireturn, 1) := by decide +kernel
theorem dX12_count_167 : decode cX12_count 167 = .ok (.aload_n 0, 1) := by decide +kernel
theorem dX12_count_168 : decode cX12_count 168 = .ok (.getfield 65, 3) := by decide +kernel
theorem dX12_count_171 : decode cX12_count 171 = .ok (.ireturn, 1) := by decide +kernel
theorem dX12_count_172 : decode cX12_count 172 = .ok (.aload_n 0, 1) := by decide +kernel
theorem dX12_count_173 : decode cX12_count 173 = .ok (.getfield 61, 3) := by decide +kernel
theorem dX12_count_176 : decode cX12_count 176 = .ok (.iconst 0, 1) := by decide +kernel
theorem dX12_count_177 : decode cX12_count 177 = .ok (.invokevirtual 132, 3) := by decide +kernel
theorem dX12_count_180 : decode cX12_count 180 = .ok (.ireturn, 1) := by decide +kernel
theorem dX12_count_181 : decode cX12_count 181 = .ok (.aload_n 0, 1) := by decide +kernel
theorem dX12_count_182 : decode cX12_count 182 = .ok (.getfield 61, 3) := by decide +kernel
theorem dX12_count_185 : decode cX12_count 185 = .ok (.iconst 1, 1) := by decide +kernel
theorem dX12_count_186 : decode cX12_count 186 = .ok (.invokevirtual 132, 3) := by decide +kernel
theorem dX12_count_189 : decode cX12_count 189 = .ok (.ireturn, 1) := by decide +kernel
theorem dX12_count_190 : decode cX12_count 190 = .ok (.aload_n 0, 1) := by decide +kernel
theorem dX12_count_191 : decode cX12_count 191 = .ok (.getfield 61, 3) := by decide +kernel
theorem dX12_count_194 : decode cX12_count 194 = .ok (.iconst 2, 1) := by decide +kernel
theorem dX12_count_195 : decode cX12_count 195 = .ok (.invokevirtual 132, 3) := by decide +kernel
theorem dX12_count_198 : decode cX12_count 198 = .ok (.ireturn, 1) := by decide +kernel
theorem dX12_count_199 : decode cX12_count 199 = .ok (.new 135, 3) := by decide +kernel
theorem dX12_count_202 : decode cX12_count 202 = .ok (.dup, 1) := by decide +kernel
theorem dX12_count_203 : decode cX12_count 203 = .ok (.ldc 137, 2) := by decide +kernel
theorem dX12_count_205 : decode cX12_count 205 = .ok (.invokespecial 139, 3) := by decide +kernel
theorem dX12_count_208 : decode cX12_count 208 = .ok (.athrow, 1) := by decide +kernel
theorem dX12_at_0 : decode cX12_at 0 = .ok (.aload_n 0, 1) := by decide +kernel
theorem dX12_at_1 : decode cX12_at 1 = .ok (.iload_n 1, 1) := by decide +kernel
theorem dX12_at_2 : decode cX12_at 2 = .ok (.invokevirtual 140, 3) := by decide +kernel
theorem dX12_at_5 : decode cX12_at 5 = .ok (.aload_n 0, 1) := by decide +kernel
theorem dX12_at_6 : decode cX12_at 6 = .ok (.getfield 61, 3) := by decide +kernel
theorem dX12_at_9 : decode cX12_at 9 = .ok (.getfield 107, 3) := by decide +kernel
theorem dX12_at_12 : decode cX12_at 12 = .ok (.iload_n 1, 1) := by decide +kernel
theorem dX12_at_13 : decode cX12_at 13 = .ok (.invokevirtual 113, 3) := by decide +kernel
theorem dX12_at_16 : decode cX12_at 16 = .ok (.ireturn, 1) := by decide +kernel
theorem dX12_register_0 : decode cX12_register 0 = .ok (.aload_n 0, 1) := by decide +kernel
theorem dX12_register_1 : decode cX12_register 1 = .ok (.iload_n 1, 1) := by decide +kernel
theorem dX12_register_2 : decode cX12_register 2 = .ok (.invokevirtual 143, 3) := by decide +kernel
theorem dX12_register_5 : decode cX12_register 5 = .ok (.aload_n 0, 1) := by decide +kernel
theorem dX12_register_6 : decode cX12_register 6 = .ok (.getfield 61, 3) := by decide +kernel
theorem dX12_register_9 : decode cX12_register 9 = .ok (.getfield 107, 3) := by decide +kernel
theorem dX12_register_12 : decode cX12_register 12 = .ok (.sipush 256, 3) := by decide +kernel
theorem dX12_register_15 : decode cX12_register 15 = .ok (.iload_n 1, 1) := by decide +kernel
theorem dX12_register_16 : decode cX12_register 16 = .ok (.iadd, 1) := by decide +kernel
theorem dX12_register_17 : decode cX12_register 17 = .ok (.invokevirtual 113, 3) := by decide +kernel
theorem dX12_register_20 : decode cX12_register 20 = .ok (.ireturn, 1) := by decide +kernel
theorem dX12_guard_0 : decode cX12_guard 0 = .ok (.aload_n 0, 1) := by decide +kernel
theorem dX12_guard_1 : decode cX12_guard 1 = .ok (.iload_n 1, 1) := by decide +kernel
theorem dX12_guard_2 : decode cX12_guard 2 = .ok (.invokevirtual 146, 3) := by decide +kernel
theorem dX12_guard_5 : decode cX12_guard 5 = .ok (.aload_n 0, 1) := by decide +kernel
theorem dX12_guard_6 : decode cX12_guard 6 = .ok (.getfield 61, 3) := by decide +kernel
theorem dX12_guard_9 : decode cX12_guard 9 = .ok (.getfield 107, 3) := by decide +kernel
theorem dX12_guard_12 : decode cX12_guard 12 = .ok (.sipush 268, 3) := by decide +kernel
theorem dX12_guard_15 : decode cX12_guard 15 = .ok (.iload_n 1, 1) := by decide +kernel
theorem dX12_guard_16 : decode cX12_guard 16 = .ok (.iadd, 1) := by decide +kernel
theorem dX12_guard_17 : decode cX12_guard 17 = .ok (.iconst 1, 1) := by decide +kernel
theorem dX12_guard_18 : decode cX12_guard 18 = .ok (.isub, 1) := by decide +kernel
theorem dX12_guard_19 : decode cX12_guard 19 = .ok (.invokevirtual 113, 3) := by decide +kernel
theorem dX12_guard_22 : decode cX12_guard 22 = .ok (.ireturn, 1) := by decide +kernel
theorem dX12_done_0 : decode cX12_done 0 = .ok (.iload_n 1, 1) := by decide +kernel
theorem dX12_done_1 : decode cX12_done 1 = .ok (.ifCond .lt 11, 3) := by decide +kernel
theorem dX12_done_4 : decode cX12_done 4 = .ok (.iload_n 1, 1) := by decide +kernel
theorem dX12_done_5 : decode cX12_done 5 = .ok (.aload_n 0, 1) := by decide +kernel
theorem dX12_done_6 : decode cX12_done 6 = .ok (.invokevirtual 117, 3) := by decide +kernel
theorem dX12_done_9 : decode cX12_done 9 = .ok (.if_icmp .lt 13, 3) := by decide +kernel
theorem dX12_done_12 : decode cX12_done 12 = .ok (.new 135, 3) := by decide +kernel
theorem dX12_done_15 : decode cX12_done 15 = .ok (.dup, 1) := by decide +kernel
theorem dX12_done_16 : decode cX12_done 16 = .ok (.ldc 149, 2) := by decide +kernel
theorem dX12_done_18 : decode cX12_done 18 = .ok (.invokespecial 139, 3) := by decide +kernel
theorem dX12_done_21 : decode cX12_done 21 = .ok (.athrow, 1) := by decide +kernel
theorem dX12_done_22 : decode cX12_done 22 = .ok (.aload_n 0, 1) := by decide +kernel
theorem dX12_done_23 : decode cX12_done 23 = .ok (.getfield 61, 3) := by decide +kernel
theorem dX12_done_26 : decode cX12_done 26 = .ok (.getfield 107, 3) := by decide +kernel
theorem dX12_done_29 : decode cX12_done 29 = .ok (.sipush 351, 3) := by decide +kernel
theorem dX12_done_32 : decode cX12_done 32 = .ok (.iload_n 1, 1) := by decide +kernel
theorem dX12_done_33 : decode cX12_done 33 = .ok (.iadd, 1) := by decide +kernel
theorem dX12_done_34 : decode cX12_done 34 = .ok (.invokevirtual 113, 3) := by decide +kernel
theorem dX12_done_37 : decode cX12_done 37 = .ok (.ireturn, 1) := by decide +kernel
theorem dX12_trace_0 : decode cX12_trace 0 = .ok (.iload_n 1, 1) := by decide +kernel
theorem dX12_trace_1 : decode cX12_trace 1 = .ok (.ifCond .lt 17, 3) := by decide +kernel
theorem dX12_trace_4 : decode cX12_trace 4 = .ok (.iload_n 1, 1) := by decide +kernel
theorem dX12_trace_5 : decode cX12_trace 5 = .ok (.aload_n 0, 1) := by decide +kernel
theorem dX12_trace_6 : decode cX12_trace 6 = .ok (.getfield 61, 3) := by decide +kernel
theorem dX12_trace_9 : decode cX12_trace 9 = .ok (.getfield 107, 3) := by decide +kernel
theorem dX12_trace_12 : decode cX12_trace 12 = .ok (.invokevirtual 123, 3) := by decide +kernel
theorem dX12_trace_15 : decode cX12_trace 15 = .ok (.if_icmp .lt 13, 3) := by decide +kernel
theorem dX12_trace_18 : decode cX12_trace 18 = .ok (.new 135, 3) := by decide +kernel
theorem dX12_trace_21 : decode cX12_trace 21 = .ok (.dup, 1) := by decide +kernel
theorem dX12_trace_22 : decode cX12_trace 22 = .ok (.ldc 151, 2) := by decide +kernel
theorem dX12_trace_24 : decode cX12_trace 24 = .ok (.invokespecial 139, 3) := by decide +kernel
theorem dX12_trace_27 : decode cX12_trace 27 = .ok (.athrow, 1) := by decide +kernel
theorem dX12_trace_28 : decode cX12_trace 28 = .ok (.aload_n 0, 1) := by decide +kernel
theorem dX12_trace_29 : decode cX12_trace 29 = .ok (.getfield 61, 3) := by decide +kernel
theorem dX12_trace_32 : decode cX12_trace 32 = .ok (.getfield 107, 3) := by decide +kernel
theorem dX12_trace_35 : decode cX12_trace 35 = .ok (.iload_n 1, 1) := by decide +kernel
theorem dX12_trace_36 : decode cX12_trace 36 = .ok (.invokevirtual 153, 3) := by decide +kernel
theorem dX12_trace_39 : decode cX12_trace 39 = .ok (.ireturn, 1) := by decide +kernel
theorem dX12_why_0 : decode cX12_why 0 = .ok (.aload_n 0, 1) := by decide +kernel
theorem dX12_why_1 : decode cX12_why 1 = .ok (.getfield 61, 3) := by decide +kernel
theorem dX12_why_4 : decode cX12_why 4 = .ok (.getfield 107, 3) := by decide +kernel
theorem dX12_why_7 : decode cX12_why 7 = .ok (.astore_n 3, 1) := by decide +kernel
theorem dX12_why_8 : decode cX12_why 8 = .ok (.aload_n 3, 1) := by decide +kernel
theorem dX12_why_9 : decode cX12_why 9 = .ok (.invokevirtual 156, 3) := by decide +kernel
theorem dX12_why_12 : decode cX12_why 12 = .ok (.istore 4, 2) := by decide +kernel
theorem dX12_why_14 : decode cX12_why 14 = .ok (.iload_n 1, 1) := by decide +kernel
theorem dX12_why_15 : decode cX12_why 15 = .ok (.ifCond .lt 18, 3) := by decide +kernel
theorem dX12_why_18 : decode cX12_why 18 = .ok (.iload_n 1, 1) := by decide +kernel
theorem dX12_why_19 : decode cX12_why 19 = .ok (.iload 4, 2) := by decide +kernel
theorem dX12_why_21 : decode cX12_why 21 = .ok (.if_icmp .ge 12, 3) := by decide +kernel
theorem dX12_why_24 : decode cX12_why 24 = .ok (.iload_n 2, 1) := by decide +kernel
theorem dX12_why_25 : decode cX12_why 25 = .ok (.ifCond .lt 8, 3) := by decide +kernel
theorem dX12_why_28 : decode cX12_why 28 = .ok (.iload_n 2, 1) := by decide +kernel
theorem dX12_why_29 : decode cX12_why 29 = .ok (.iconst 2, 1) := by decide +kernel
theorem dX12_why_30 : decode cX12_why 30 = .ok (.if_icmp .le 13, 3) := by decide +kernel
theorem dX12_why_33 : decode cX12_why 33 = .ok (.new 135, 3) := by decide +kernel
theorem dX12_why_36 : decode cX12_why 36 = .ok (.dup, 1) := by decide +kernel
theorem dX12_why_37 : decode cX12_why 37 = .ok (.ldc 159, 2) := by decide +kernel
theorem dX12_why_39 : decode cX12_why 39 = .ok (.invokespecial 139, 3) := by decide +kernel
theorem dX12_why_42 : decode cX12_why 42 = .ok (.athrow, 1) := by decide +kernel
theorem dX12_why_43 : decode cX12_why 43 = .ok (.aload_n 3, 1) := by decide +kernel
theorem dX12_why_44 : decode cX12_why 44 = .ok (.sipush 278, 3) := by decide +kernel
theorem dX12_why_47 : decode cX12_why 47 = .ok (.iconst 3, 1) := by decide +kernel
theorem dX12_why_48 : decode cX12_why 48 = .ok (.iload_n 1, 1) := by decide +kernel
theorem dX12_why_49 : decode cX12_why 49 = .ok (.imul, 1) := by decide +kernel
theorem dX12_why_50 : decode cX12_why 50 = .ok (.iadd, 1) := by decide +kernel
theorem dX12_why_51 : decode cX12_why 51 = .ok (.iload_n 2, 1) := by decide +kernel
theorem dX12_why_52 : decode cX12_why 52 = .ok (.iadd, 1) := by decide +kernel
theorem dX12_why_53 : decode cX12_why 53 = .ok (.invokevirtual 113, 3) := by decide +kernel
theorem dX12_why_56 : decode cX12_why 56 = .ok (.ireturn, 1) := by decide +kernel
theorem dX12_flaws_0 : decode cX12_flaws 0 = .ok (.aload_n 0, 1) := by decide +kernel
theorem dX12_flaws_1 : decode cX12_flaws 1 = .ok (.iload_n 1, 1) := by decide +kernel
theorem dX12_flaws_2 : decode cX12_flaws 2 = .ok (.iload_n 2, 1) := by decide +kernel
theorem dX12_flaws_3 : decode cX12_flaws 3 = .ok (.bipush 64, 2) := by decide +kernel
theorem dX12_flaws_5 : decode cX12_flaws 5 = .ok (.invokevirtual 161, 3) := by decide +kernel
theorem dX12_flaws_8 : decode cX12_flaws 8 = .ok (.aload_n 0, 1) := by decide +kernel
theorem dX12_flaws_9 : decode cX12_flaws 9 = .ok (.getfield 61, 3) := by decide +kernel
theorem dX12_flaws_12 : decode cX12_flaws 12 = .ok (.getfield 107, 3) := by decide +kernel
theorem dX12_flaws_15 : decode cX12_flaws 15 = .ok (.iload_n 1, 1) := by decide +kernel
theorem dX12_flaws_16 : decode cX12_flaws 16 = .ok (.iload_n 2, 1) := by decide +kernel
theorem dX12_flaws_17 : decode cX12_flaws 17 = .ok (.iload_n 3, 1) := by decide +kernel
theorem dX12_flaws_18 : decode cX12_flaws 18 = .ok (.iconst 2, 1) := by decide +kernel
theorem dX12_flaws_19 : decode cX12_flaws 19 = .ok (.iload_n 1, 1) := by decide +kernel
theorem dX12_flaws_20 : decode cX12_flaws 20 = .ok (.imul, 1) := by decide +kernel
theorem dX12_flaws_21 : decode cX12_flaws 21 = .ok (.invokevirtual 165, 3) := by decide +kernel
theorem dX12_flaws_24 : decode cX12_flaws 24 = .ok (.istore 5, 2) := by decide +kernel
theorem dX12_flaws_26 : decode cX12_flaws 26 = .ok (.iconst 0, 1) := by decide +kernel
theorem dX12_flaws_27 : decode cX12_flaws 27 = .ok (.istore 6, 2) := by decide +kernel
theorem dX12_flaws_29 : decode cX12_flaws 29 = .ok (.iconst 0, 1) := by decide +kernel
theorem dX12_flaws_30 : decode cX12_flaws 30 = .ok (.istore 7, 2) := by decide +kernel
theorem dX12_flaws_32 : decode cX12_flaws 32 = .ok (.iload 7, 2) := by decide +kernel
theorem dX12_flaws_34 : decode cX12_flaws 34 = .ok (.iconst 2, 1) := by decide +kernel
theorem dX12_flaws_35 : decode cX12_flaws 35 = .ok (.iload_n 2, 1) := by decide +kernel
theorem dX12_flaws_36 : decode cX12_flaws 36 = .ok (.imul, 1) := by decide +kernel
theorem dX12_flaws_37 : decode cX12_flaws 37 = .ok (.if_icmp .ge 44, 3) := by decide +kernel
theorem dX12_flaws_40 : decode cX12_flaws 40 = .ok (.iload 5, 2) := by decide +kernel
theorem dX12_flaws_42 : decode cX12_flaws 42 = .ok (.iconst (-1), 1) := by decide +kernel
theorem dX12_flaws_43 : decode cX12_flaws 43 = .ok (.if_icmp .eq 38, 3) := by decide +kernel
theorem dX12_flaws_46 : decode cX12_flaws 46 = .ok (.iload 6, 2) := by decide +kernel
theorem dX12_flaws_48 : decode cX12_flaws 48 = .ok (.iload 4, 2) := by decide +kernel
theorem dX12_flaws_50 : decode cX12_flaws 50 = .ok (.if_icmp .eq 31, 3) := by decide +kernel
theorem dX12_flaws_53 : decode cX12_flaws 53 = .ok (.iinc 6 1, 3) := by decide +kernel
theorem dX12_flaws_56 : decode cX12_flaws 56 = .ok (.aload_n 0, 1) := by decide +kernel
theorem dX12_flaws_57 : decode cX12_flaws 57 = .ok (.getfield 61, 3) := by decide +kernel
theorem dX12_flaws_60 : decode cX12_flaws 60 = .ok (.getfield 107, 3) := by decide +kernel
theorem dX12_flaws_63 : decode cX12_flaws 63 = .ok (.iload_n 1, 1) := by decide +kernel
theorem dX12_flaws_64 : decode cX12_flaws 64 = .ok (.iload_n 2, 1) := by decide +kernel
theorem dX12_flaws_65 : decode cX12_flaws 65 = .ok (.iload_n 3, 1) := by decide +kernel
theorem dX12_flaws_66 : decode cX12_flaws 66 = .ok (.iload 5, 2) := by decide +kernel
theorem dX12_flaws_68 : decode cX12_flaws 68 = .ok (.iconst 1, 1) := by decide +kernel
theorem dX12_flaws_69 : decode cX12_flaws 69 = .ok (.iadd, 1) := by decide +kernel
theorem dX12_flaws_70 : decode cX12_flaws 70 = .ok (.invokevirtual 165, 3) := by decide +kernel
theorem dX12_flaws_73 : decode cX12_flaws 73 = .ok (.istore 5, 2) := by decide +kernel
theorem dX12_flaws_75 : decode cX12_flaws 75 = .ok (.iinc 7 1, 3) := by decide +kernel
theorem dX12_flaws_78 : decode cX12_flaws 78 = .ok (.goto (-46), 3) := by decide +kernel
theorem dX12_flaws_81 : decode cX12_flaws 81 = .ok (.iload 4, 2) := by decide +kernel
theorem dX12_flaws_83 : decode cX12_flaws 83 = .ok (.iconst (-1), 1) := by decide +kernel
theorem dX12_flaws_84 : decode cX12_flaws 84 = .ok (.if_icmp .ne 6, 3) := by decide +kernel
theorem dX12_flaws_87 : decode cX12_flaws 87 = .ok (.iload 6, 2) := by decide +kernel
theorem dX12_flaws_89 : decode cX12_flaws 89 = .ok (.ireturn, 1) := by decide +kernel
theorem dX12_flaws_90 : decode cX12_flaws 90 = .ok (.iload 4, 2) := by decide +kernel
theorem dX12_flaws_92 : decode cX12_flaws 92 = .ok (.ifCond .lt 9, 3) := by decide +kernel
theorem dX12_flaws_95 : decode cX12_flaws 95 = .ok (.iload 5, 2) := by decide +kernel
theorem dX12_flaws_97 : decode cX12_flaws 97 = .ok (.iconst (-1), 1) := by decide +kernel
theorem dX12_flaws_98 : decode cX12_flaws 98 = .ok (.if_icmp .ne 13, 3) := by decide +kernel
theorem dX12_flaws_101 : decode cX12_flaws 101 = .ok (.new 135, 3) := by decide +kernel
theorem dX12_flaws_104 : decode cX12_flaws 104 = .ok (.dup, 1) := by decide +kernel
theorem dX12_flaws_105 : decode cX12_flaws 105 = .ok (.ldc 169, 2) := by decide +kernel
theorem dX12_flaws_107 : decode cX12_flaws 107 = .ok (.invokespecial 139, 3) := by decide +kernel
theorem dX12_flaws_110 : decode cX12_flaws 110 = .ok (.athrow, 1) := by decide +kernel
theorem dX12_flaws_111 : decode cX12_flaws 111 = .ok (.iload 5, 2) := by decide +kernel
theorem dX12_flaws_113 : decode cX12_flaws 113 = .ok (.ireturn, 1) := by decide +kernel
theorem dX12_number_0 : decode cX12_number 0 = .ok (.aload_n 0, 1) := by decide +kernel
theorem dX12_number_1 : decode cX12_number 1 = .ok (.iload_n 1, 1) := by decide +kernel
theorem dX12_number_2 : decode cX12_number 2 = .ok (.iload_n 2, 1) := by decide +kernel
theorem dX12_number_3 : decode cX12_number 3 = .ok (.bipush 16, 2) := by decide +kernel
theorem dX12_number_5 : decode cX12_number 5 = .ok (.invokevirtual 161, 3) := by decide +kernel
theorem dX12_number_8 : decode cX12_number 8 = .ok (.aload_n 0, 1) := by decide +kernel
theorem dX12_number_9 : decode cX12_number 9 = .ok (.iload_n 1, 1) := by decide +kernel
theorem dX12_number_10 : decode cX12_number 10 = .ok (.iload_n 2, 1) := by decide +kernel
theorem dX12_number_11 : decode cX12_number 11 = .ok (.iload_n 3, 1) := by decide +kernel
theorem dX12_number_12 : decode cX12_number 12 = .ok (.invokevirtual 171, 3) := by decide +kernel
theorem dX12_number_15 : decode cX12_number 15 = .ok (.iload_n 3, 1) := by decide +kernel
theorem dX12_number_16 : decode cX12_number 16 = .ok (.ifCond .eq 22, 3) := by decide +kernel
theorem dX12_number_19 : decode cX12_number 19 = .ok (.aload_n 0, 1) := by decide +kernel
theorem dX12_number_20 : decode cX12_number 20 = .ok (.getfield 48, 3) := by decide +kernel
theorem dX12_number_23 : decode cX12_number 23 = .ok (.aload_n 0, 1) := by decide +kernel
theorem dX12_number_24 : decode cX12_number 24 = .ok (.getfield 61, 3) := by decide +kernel
theorem dX12_number_27 : decode cX12_number 27 = .ok (.getfield 107, 3) := by decide +kernel
theorem dX12_number_30 : decode cX12_number 30 = .ok (.iload_n 1, 1) := by decide +kernel
theorem dX12_number_31 : decode cX12_number 31 = .ok (.iload_n 2, 1) := by decide +kernel
theorem dX12_number_32 : decode cX12_number 32 = .ok (.invokevirtual 175, 3) := by decide +kernel
theorem dX12_number_35 : decode cX12_number 35 = .ok (.goto 19, 3) := by decide +kernel
theorem dX12_number_38 : decode cX12_number 38 = .ok (.aload_n 0, 1) := by decide +kernel
theorem dX12_number_39 : decode cX12_number 39 = .ok (.getfield 48, 3) := by decide +kernel
theorem dX12_number_42 : decode cX12_number 42 = .ok (.aload_n 0, 1) := by decide +kernel
theorem dX12_number_43 : decode cX12_number 43 = .ok (.getfield 61, 3) := by decide +kernel
theorem dX12_number_46 : decode cX12_number 46 = .ok (.getfield 107, 3) := by decide +kernel
theorem dX12_number_49 : decode cX12_number 49 = .ok (.iload_n 1, 1) := by decide +kernel
theorem dX12_number_50 : decode cX12_number 50 = .ok (.iload_n 2, 1) := by decide +kernel
theorem dX12_number_51 : decode cX12_number 51 = .ok (.invokevirtual 179, 3) := by decide +kernel
theorem dX12_number_54 : decode cX12_number 54 = .ok (.aload_n 0, 1) := by decide +kernel
theorem dX12_number_55 : decode cX12_number 55 = .ok (.getfield 48, 3) := by decide +kernel
theorem dX12_number_58 : decode cX12_number 58 = .ok (.invokevirtual 182, 3) := by decide +kernel
theorem dX12_number_61 : decode cX12_number 61 = .ok (.bipush 18, 2) := by decide +kernel
theorem dX12_number_63 : decode cX12_number 63 = .ok (.if_icmp .le 13, 3) := by decide +kernel
theorem dX12_number_66 : decode cX12_number 66 = .ok (.new 185, 3) := by decide +kernel
theorem dX12_number_69 : decode cX12_number 69 = .ok (.dup, 1) := by decide +kernel
theorem dX12_number_70 : decode cX12_number 70 = .ok (.ldc 187, 2) := by decide +kernel
theorem dX12_number_72 : decode cX12_number 72 = .ok (.invokespecial 189, 3) := by decide +kernel
theorem dX12_number_75 : decode cX12_number 75 = .ok (.athrow, 1) := by decide +kernel
theorem dX12_number_76 : decode cX12_number 76 = .ok (.aload_n 0, 1) := by decide +kernel
theorem dX12_number_77 : decode cX12_number 77 = .ok (.getfield 48, 3) := by decide +kernel
theorem dX12_number_80 : decode cX12_number 80 = .ok (.invokevirtual 190, 3) := by decide +kernel
theorem dX12_number_83 : decode cX12_number 83 = .ok (.lreturn, 1) := by decide +kernel
theorem dX12_need_0 : decode cX12_need 0 = .ok (.iload_n 1, 1) := by decide +kernel
theorem dX12_need_1 : decode cX12_need 1 = .ok (.ifCond .lt 8, 3) := by decide +kernel
theorem dX12_need_4 : decode cX12_need 4 = .ok (.iload_n 1, 1) := by decide +kernel
theorem dX12_need_5 : decode cX12_need 5 = .ok (.iconst 2, 1) := by decide +kernel
theorem dX12_need_6 : decode cX12_need 6 = .ok (.if_icmp .le 13, 3) := by decide +kernel
theorem dX12_need_9 : decode cX12_need 9 = .ok (.new 72, 3) := by decide +kernel
theorem dX12_need_12 : decode cX12_need 12 = .ok (.dup, 1) := by decide +kernel
theorem dX12_need_13 : decode cX12_need 13 = .ok (.ldc 194, 2) := by decide +kernel
theorem dX12_need_15 : decode cX12_need 15 = .ok (.invokespecial 76, 3) := by decide +kernel
theorem dX12_need_18 : decode cX12_need 18 = .ok (.athrow, 1) := by decide +kernel
theorem dX12_need_19 : decode cX12_need 19 = .ok (.aload_n 0, 1) := by decide +kernel
theorem dX12_need_20 : decode cX12_need 20 = .ok (.iload_n 2, 1) := by decide +kernel
theorem dX12_need_21 : decode cX12_need 21 = .ok (.iload_n 3, 1) := by decide +kernel
theorem dX12_need_22 : decode cX12_need 22 = .ok (.bipush 16, 2) := by decide +kernel
theorem dX12_need_24 : decode cX12_need 24 = .ok (.invokevirtual 161, 3) := by decide +kernel
theorem dX12_need_27 : decode cX12_need 27 = .ok (.aload_n 0, 1) := by decide +kernel
theorem dX12_need_28 : decode cX12_need 28 = .ok (.iload 4, 2) := by decide +kernel
theorem dX12_need_30 : decode cX12_need 30 = .ok (.iload 5, 2) := by decide +kernel
theorem dX12_need_32 : decode cX12_need 32 = .ok (.bipush 16, 2) := by decide +kernel
theorem dX12_need_34 : decode cX12_need 34 = .ok (.invokevirtual 161, 3) := by decide +kernel
theorem dX12_need_37 : decode cX12_need 37 = .ok (.aload_n 0, 1) := by decide +kernel
theorem dX12_need_38 : decode cX12_need 38 = .ok (.iload_n 2, 1) := by decide +kernel
theorem dX12_need_39 : decode cX12_need 39 = .ok (.iload_n 3, 1) := by decide +kernel
theorem dX12_need_40 : decode cX12_need 40 = .ok (.iconst 0, 1) := by decide +kernel
theorem dX12_need_41 : decode cX12_need 41 = .ok (.invokevirtual 171, 3) := by decide +kernel
theorem dX12_need_44 : decode cX12_need 44 = .ok (.aload_n 0, 1) := by decide +kernel
theorem dX12_need_45 : decode cX12_need 45 = .ok (.iload 4, 2) := by decide +kernel
theorem dX12_need_47 : decode cX12_need 47 = .ok (.iload 5, 2) := by decide +kernel
theorem dX12_need_49 : decode cX12_need 49 = .ok (.iconst 0, 1) := by decide +kernel
theorem dX12_need_50 : decode cX12_need 50 = .ok (.invokevirtual 171, 3) := by decide +kernel
theorem dX12_need_53 : decode cX12_need 53 = .ok (.aload_n 0, 1) := by decide +kernel
theorem dX12_need_54 : decode cX12_need 54 = .ok (.getfield 48, 3) := by decide +kernel
theorem dX12_need_57 : decode cX12_need 57 = .ok (.aload_n 0, 1) := by decide +kernel
theorem dX12_need_58 : decode cX12_need 58 = .ok (.getfield 61, 3) := by decide +kernel
theorem dX12_need_61 : decode cX12_need 61 = .ok (.getfield 107, 3) := by decide +kernel
theorem dX12_need_64 : decode cX12_need 64 = .ok (.iload_n 2, 1) := by decide +kernel
theorem dX12_need_65 : decode cX12_need 65 = .ok (.iload_n 3, 1) := by decide +kernel
theorem dX12_need_66 : decode cX12_need 66 = .ok (.invokevirtual 179, 3) := by decide +kernel
theorem dX12_need_69 : decode cX12_need 69 = .ok (.aload_n 0, 1) := by decide +kernel
theorem dX12_need_70 : decode cX12_need 70 = .ok (.getfield 52, 3) := by decide +kernel
theorem dX12_need_73 : decode cX12_need 73 = .ok (.aload_n 0, 1) := by decide +kernel
theorem dX12_need_74 : decode cX12_need 74 = .ok (.getfield 61, 3) := by decide +kernel
theorem dX12_need_77 : decode cX12_need 77 = .ok (.getfield 107, 3) := by decide +kernel
theorem dX12_need_80 : decode cX12_need 80 = .ok (.iload 4, 2) := by decide +kernel
theorem dX12_need_82 : decode cX12_need 82 = .ok (.iload 5, 2) := by decide +kernel
theorem dX12_need_84 : decode cX12_need 84 = .ok (.invokevirtual 179, 3) := by decide +kernel
theorem dX12_need_87 : decode cX12_need 87 = .ok (.iload_n 1, 1) := by decide +kernel
theorem dX12_need_88 : decode cX12_need 88 = .ok (.iconst 2, 1) := by decide +kernel
theorem dX12_need_89 : decode cX12_need 89 = .ok (.if_icmp .ne 21, 3) := by decide +kernel
theorem dX12_need_92 : decode cX12_need 92 = .ok (.aload_n 0, 1) := by decide +kernel
theorem dX12_need_93 : decode cX12_need 93 = .ok (.getfield 55, 3) := by decide +kernel
theorem dX12_need_96 : decode cX12_need 96 = .ok (.aload_n 0, 1) := by decide +kernel
theorem dX12_need_97 : decode cX12_need 97 = .ok (.getfield 48, 3) := by decide +kernel
theorem dX12_need_100 : decode cX12_need 100 = .ok (.aload_n 0, 1) := by decide +kernel
theorem dX12_need_101 : decode cX12_need 101 = .ok (.getfield 52, 3) := by decide +kernel
theorem dX12_need_104 : decode cX12_need 104 = .ok (.invokevirtual 196, 3) := by decide +kernel
theorem dX12_need_107 : decode cX12_need 107 = .ok (.goto 28, 3) := by decide +kernel
theorem dX12_need_110 : decode cX12_need 110 = .ok (.aload_n 0, 1) := by decide +kernel
theorem dX12_need_111 : decode cX12_need 111 = .ok (.getfield 55, 3) := by decide +kernel
theorem dX12_need_114 : decode cX12_need 114 = .ok (.aload_n 0, 1) := by decide +kernel
theorem dX12_need_115 : decode cX12_need 115 = .ok (.getfield 48, 3) := by decide +kernel
theorem dX12_need_118 : decode cX12_need 118 = .ok (.aload_n 0, 1) := by decide +kernel
theorem dX12_need_119 : decode cX12_need 119 = .ok (.getfield 52, 3) := by decide +kernel
theorem dX12_need_122 : decode cX12_need 122 = .ok (.iload_n 1, 1) := by decide +kernel
theorem dX12_need_123 : decode cX12_need 123 = .ok (.iconst 1, 1) := by decide +kernel
theorem dX12_need_124 : decode cX12_need 124 = .ok (.if_icmp .ne 7, 3) := by decide +kernel
theorem dX12_need_127 : decode cX12_need 127 = .ok (.iconst 1, 1) := by decide +kernel
theorem dX12_need_128 : decode cX12_need 128 = .ok (.goto 4, 3) := by decide +kernel
theorem dX12_need_131 : decode cX12_need 131 = .ok (.iconst 0, 1) := by decide +kernel
theorem dX12_need_132 : decode cX12_need 132 = .ok (.invokevirtual 200, 3) := by decide +kernel
theorem dX12_need_135 : decode cX12_need 135 = .ok (.aload_n 0, 1) := by decide +kernel
theorem dX12_need_136 : decode cX12_need 136 = .ok (.getfield 55, 3) := by decide +kernel
theorem dX12_need_139 : decode cX12_need 139 = .ok (.invokevirtual 182, 3) := by decide +kernel
theorem dX12_need_142 : decode cX12_need 142 = .ok (.iconst 2, 1) := by decide +kernel
theorem dX12_need_143 : decode cX12_need 143 = .ok (.idiv, 1) := by decide +kernel
theorem dX12_need_144 : decode cX12_need 144 = .ok (.iconst 1, 1) := by decide +kernel
theorem dX12_need_145 : decode cX12_need 145 = .ok (.iadd, 1) := by decide +kernel
theorem dX12_need_146 : decode cX12_need 146 = .ok (.ireturn, 1) := by decide +kernel
theorem dX12_rounds_0 : decode cX12_rounds 0 = .ok (.iload_n 3, 1) := by decide +kernel
theorem dX12_rounds_1 : decode cX12_rounds 1 = .ok (.iconst 1, 1) := by decide +kernel
theorem dX12_rounds_2 : decode cX12_rounds 2 = .ok (.if_icmp .lt 9, 3) := by decide +kernel
theorem dX12_rounds_5 : decode cX12_rounds 5 = .ok (.iload_n 3, 1) := by decide +kernel
theorem dX12_rounds_6 : decode cX12_rounds 6 = .ok (.bipush 32, 2) := by decide +kernel
theorem dX12_rounds_8 : decode cX12_rounds 8 = .ok (.if_icmp .le 13, 3) := by decide +kernel
theorem dX12_rounds_11 : decode cX12_rounds 11 = .ok (.new 72, 3) := by decide +kernel
theorem dX12_rounds_14 : decode cX12_rounds 14 = .ok (.dup, 1) := by decide +kernel
theorem dX12_rounds_15 : decode cX12_rounds 15 = .ok (.ldc 204, 2) := by decide +kernel
theorem dX12_rounds_17 : decode cX12_rounds 17 = .ok (.invokespecial 76, 3) := by decide +kernel
theorem dX12_rounds_20 : decode cX12_rounds 20 = .ok (.athrow, 1) := by decide +kernel
theorem dX12_rounds_21 : decode cX12_rounds 21 = .ok (.aload_n 0, 1) := by decide +kernel
theorem dX12_rounds_22 : decode cX12_rounds 22 = .ok (.iload_n 1, 1) := by decide +kernel
theorem dX12_rounds_23 : decode cX12_rounds 23 = .ok (.iload_n 2, 1) := by decide +kernel
theorem dX12_rounds_24 : decode cX12_rounds 24 = .ok (.bipush 16, 2) := by decide +kernel
theorem dX12_rounds_26 : decode cX12_rounds 26 = .ok (.invokevirtual 161, 3) := by decide +kernel
theorem dX12_rounds_29 : decode cX12_rounds 29 = .ok (.aload_n 0, 1) := by decide +kernel
theorem dX12_rounds_30 : decode cX12_rounds 30 = .ok (.iload_n 1, 1) := by decide +kernel
theorem dX12_rounds_31 : decode cX12_rounds 31 = .ok (.iload_n 2, 1) := by decide +kernel
theorem dX12_rounds_32 : decode cX12_rounds 32 = .ok (.iconst 0, 1) := by decide +kernel
theorem dX12_rounds_33 : decode cX12_rounds 33 = .ok (.invokevirtual 171, 3) := by decide +kernel
theorem dX12_rounds_36 : decode cX12_rounds 36 = .ok (.aload_n 0, 1) := by decide +kernel
theorem dX12_rounds_37 : decode cX12_rounds 37 = .ok (.getfield 48, 3) := by decide +kernel
theorem dX12_rounds_40 : decode cX12_rounds 40 = .ok (.aload_n 0, 1) := by decide +kernel
theorem dX12_rounds_41 : decode cX12_rounds 41 = .ok (.getfield 61, 3) := by decide +kernel
theorem dX12_rounds_44 : decode cX12_rounds 44 = .ok (.getfield 107, 3) := by decide +kernel
theorem dX12_rounds_47 : decode cX12_rounds 47 = .ok (.iload_n 1, 1) := by decide +kernel
