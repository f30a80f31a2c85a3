theorem dX13_doRegister_79 : decode cX13_doRegister 79 = .ok (.iastore, 1) := by decide +kernel
theorem dX13_doRegister_80 : decode cX13_doRegister 80 = .ok (.aload_n 0, 1) := by decide +kernel
theorem dX13_doRegister_81 : decode cX13_doRegister 81 = .ok (.getfield 76, 3) := by decide +kernel
theorem dX13_doRegister_84 : decode cX13_doRegister 84 = .ok (.sipush 256, 3) := by decide +kernel
theorem dX13_doRegister_87 : decode cX13_doRegister 87 = .ok (.iload_n 3, 1) := by decide +kernel
theorem dX13_doRegister_88 : decode cX13_doRegister 88 = .ok (.iadd, 1) := by decide +kernel
theorem dX13_doRegister_89 : decode cX13_doRegister 89 = .ok (.iaload, 1) := by decide +kernel
theorem dX13_doRegister_90 : decode cX13_doRegister 90 = .ok (.ifCond .eq 110, 3) := by decide +kernel
theorem dX13_doRegister_93 : decode cX13_doRegister 93 = .ok (.aload_n 0, 1) := by decide +kernel
theorem dX13_doRegister_94 : decode cX13_doRegister 94 = .ok (.aload_n 0, 1) := by decide +kernel
theorem dX13_doRegister_95 : decode cX13_doRegister 95 = .ok (.getfield 101, 3) := by decide +kernel
theorem dX13_doRegister_98 : decode cX13_doRegister 98 = .ok (.iload_n 1, 1) := by decide +kernel
theorem dX13_doRegister_99 : decode cX13_doRegister 99 = .ok (.iaload, 1) := by decide +kernel
theorem dX13_doRegister_100 : decode cX13_doRegister 100 = .ok (.putfield 532, 3) := by decide +kernel
theorem dX13_doRegister_103 : decode cX13_doRegister 103 = .ok (.goto 97, 3) := by decide +kernel
theorem dX13_doRegister_106 : decode cX13_doRegister 106 = .ok (.iload_n 2, 1) := by decide +kernel
theorem dX13_doRegister_107 : decode cX13_doRegister 107 = .ok (.bipush 21, 2) := by decide +kernel
theorem dX13_doRegister_109 : decode cX13_doRegister 109 = .ok (.if_icmp .ne 34, 3) := by decide +kernel
theorem dX13_doRegister_112 : decode cX13_doRegister 112 = .ok (.iload_n 3, 1) := by decide +kernel
theorem dX13_doRegister_113 : decode cX13_doRegister 113 = .ok (.iconst 3, 1) := by decide +kernel
theorem dX13_doRegister_114 : decode cX13_doRegister 114 = .ok (.aload_n 0, 1) := by decide +kernel
theorem dX13_doRegister_115 : decode cX13_doRegister 115 = .ok (.getfield 76, 3) := by decide +kernel
theorem dX13_doRegister_118 : decode cX13_doRegister 118 = .ok (.sipush 264, 3) := by decide +kernel
theorem dX13_doRegister_121 : decode cX13_doRegister 121 = .ok (.iaload, 1) := by decide +kernel
theorem dX13_doRegister_122 : decode cX13_doRegister 122 = .ok (.isub, 1) := by decide +kernel
theorem dX13_doRegister_123 : decode cX13_doRegister 123 = .ok (.ishr, 1) := by decide +kernel
theorem dX13_doRegister_124 : decode cX13_doRegister 124 = .ok (.iconst 1, 1) := by decide +kernel
theorem dX13_doRegister_125 : decode cX13_doRegister 125 = .ok (.iand, 1) := by decide +kernel
theorem dX13_doRegister_126 : decode cX13_doRegister 126 = .ok (.iconst 1, 1) := by decide +kernel
theorem dX13_doRegister_127 : decode cX13_doRegister 127 = .ok (.if_icmp .ne 73, 3) := by decide +kernel
theorem dX13_doRegister_130 : decode cX13_doRegister 130 = .ok (.aload_n 0, 1) := by decide +kernel
theorem dX13_doRegister_131 : decode cX13_doRegister 131 = .ok (.aload_n 0, 1) := by decide +kernel
theorem dX13_doRegister_132 : decode cX13_doRegister 132 = .ok (.getfield 101, 3) := by decide +kernel
theorem dX13_doRegister_135 : decode cX13_doRegister 135 = .ok (.iload_n 1, 1) := by decide +kernel
theorem dX13_doRegister_136 : decode cX13_doRegister 136 = .ok (.iaload, 1) := by decide +kernel
theorem dX13_doRegister_137 : decode cX13_doRegister 137 = .ok (.putfield 532, 3) := by decide +kernel
theorem dX13_doRegister_140 : decode cX13_doRegister 140 = .ok (.goto 60, 3) := by decide +kernel
theorem dX13_doRegister_143 : decode cX13_doRegister 143 = .ok (.iload_n 2, 1) := by decide +kernel
theorem dX13_doRegister_144 : decode cX13_doRegister 144 = .ok (.bipush 22, 2) := by decide +kernel
theorem dX13_doRegister_146 : decode cX13_doRegister 146 = .ok (.if_icmp .ne 22, 3) := by decide +kernel
theorem dX13_doRegister_149 : decode cX13_doRegister 149 = .ok (.aload_n 0, 1) := by decide +kernel
theorem dX13_doRegister_150 : decode cX13_doRegister 150 = .ok (.getfield 76, 3) := by decide +kernel
theorem dX13_doRegister_153 : decode cX13_doRegister 153 = .ok (.sipush 267, 3) := by decide +kernel
theorem dX13_doRegister_156 : decode cX13_doRegister 156 = .ok (.iload_n 3, 1) := by decide +kernel
theorem dX13_doRegister_157 : decode cX13_doRegister 157 = .ok (.iadd, 1) := by decide +kernel
theorem dX13_doRegister_158 : decode cX13_doRegister 158 = .ok (.aload_n 0, 1) := by decide +kernel
theorem dX13_doRegister_159 : decode cX13_doRegister 159 = .ok (.getfield 101, 3) := by decide +kernel
theorem dX13_doRegister_162 : decode cX13_doRegister 162 = .ok (.iload_n 1, 1) := by decide +kernel
theorem dX13_doRegister_163 : decode cX13_doRegister 163 = .ok (.iaload, 1) := by decide +kernel
theorem dX13_doRegister_164 : decode cX13_doRegister 164 = .ok (.iastore, 1) := by decide +kernel
theorem dX13_doRegister_165 : decode cX13_doRegister 165 = .ok (.goto 35, 3) := by decide +kernel
theorem dX13_doRegister_168 : decode cX13_doRegister 168 = .ok (.iload_n 2, 1) := by decide +kernel
theorem dX13_doRegister_169 : decode cX13_doRegister 169 = .ok (.bipush 23, 2) := by decide +kernel
theorem dX13_doRegister_171 : decode cX13_doRegister 171 = .ok (.if_icmp .ne 29, 3) := by decide +kernel
theorem dX13_doRegister_174 : decode cX13_doRegister 174 = .ok (.aload_n 0, 1) := by decide +kernel
theorem dX13_doRegister_175 : decode cX13_doRegister 175 = .ok (.getfield 76, 3) := by decide +kernel
theorem dX13_doRegister_178 : decode cX13_doRegister 178 = .ok (.sipush 266, 3) := by decide +kernel
theorem dX13_doRegister_181 : decode cX13_doRegister 181 = .ok (.iaload, 1) := by decide +kernel
theorem dX13_doRegister_182 : decode cX13_doRegister 182 = .ok (.iconst (-1), 1) := by decide +kernel
theorem dX13_doRegister_183 : decode cX13_doRegister 183 = .ok (.if_icmp .eq 17, 3) := by decide +kernel
theorem dX13_doRegister_186 : decode cX13_doRegister 186 = .ok (.aload_n 0, 1) := by decide +kernel
theorem dX13_doRegister_187 : decode cX13_doRegister 187 = .ok (.aload_n 0, 1) := by decide +kernel
theorem dX13_doRegister_188 : decode cX13_doRegister 188 = .ok (.getfield 76, 3) := by decide +kernel
theorem dX13_doRegister_191 : decode cX13_doRegister 191 = .ok (.sipush 266, 3) := by decide +kernel
theorem dX13_doRegister_194 : decode cX13_doRegister 194 = .ok (.iaload, 1) := by decide +kernel
theorem dX13_doRegister_195 : decode cX13_doRegister 195 = .ok (.iconst 1, 1) := by decide +kernel
theorem dX13_doRegister_196 : decode cX13_doRegister 196 = .ok (.iadd, 1) := by decide +kernel
theorem dX13_doRegister_197 : decode cX13_doRegister 197 = .ok (.putfield 532, 3) := by decide +kernel
theorem dX13_doRegister_200 : decode cX13_doRegister 200 = .ok (.return_, 1) := by decide +kernel
theorem dX13_perform_0 : decode cX13_perform 0 = .ok (.aload_n 0, 1) := by decide +kernel
theorem dX13_perform_1 : decode cX13_perform 1 = .ok (.getfield 388, 3) := by decide +kernel
theorem dX13_perform_4 : decode cX13_perform 4 = .ok (.ifCond .eq 4, 3) := by decide +kernel
theorem dX13_perform_7 : decode cX13_perform 7 = .ok (.return_, 1) := by decide +kernel
theorem dX13_perform_8 : decode cX13_perform 8 = .ok (.iload_n 2, 1) := by decide +kernel
theorem dX13_perform_9 : decode cX13_perform 9 = .ok (.ifCond .ne 10, 3) := by decide +kernel
theorem dX13_perform_12 : decode cX13_perform 12 = .ok (.aload_n 0, 1) := by decide +kernel
theorem dX13_perform_13 : decode cX13_perform 13 = .ok (.invokevirtual 535, 3) := by decide +kernel
theorem dX13_perform_16 : decode cX13_perform 16 = .ok (.goto 187, 3) := by decide +kernel
theorem dX13_perform_19 : decode cX13_perform 19 = .ok (.iload_n 2, 1) := by decide +kernel
theorem dX13_perform_20 : decode cX13_perform 20 = .ok (.iconst 1, 1) := by decide +kernel
theorem dX13_perform_21 : decode cX13_perform 21 = .ok (.if_icmp .ne 10, 3) := by decide +kernel
theorem dX13_perform_24 : decode cX13_perform 24 = .ok (.aload_n 0, 1) := by decide +kernel
theorem dX13_perform_25 : decode cX13_perform 25 = .ok (.invokevirtual 538, 3) := by decide +kernel
theorem dX13_perform_28 : decode cX13_perform 28 = .ok (.goto 175, 3) := by decide +kernel
theorem dX13_perform_31 : decode cX13_perform 31 = .ok (.iload_n 2, 1) := by decide +kernel
theorem dX13_perform_32 : decode cX13_perform 32 = .ok (.iconst 2, 1) := by decide +kernel
theorem dX13_perform_33 : decode cX13_perform 33 = .ok (.if_icmp .ne 10, 3) := by decide +kernel
theorem dX13_perform_36 : decode cX13_perform 36 = .ok (.aload_n 0, 1) := by decide +kernel
theorem dX13_perform_37 : decode cX13_perform 37 = .ok (.invokevirtual 541, 3) := by decide +kernel
theorem dX13_perform_40 : decode cX13_perform 40 = .ok (.goto 163, 3) := by decide +kernel
theorem dX13_perform_43 : decode cX13_perform 43 = .ok (.iload_n 2, 1) := by decide +kernel
theorem dX13_perform_44 : decode cX13_perform 44 = .ok (.bipush 6, 2) := by decide +kernel
theorem dX13_perform_46 : decode cX13_perform 46 = .ok (.if_icmp .gt 11, 3) := by decide +kernel
theorem dX13_perform_49 : decode cX13_perform 49 = .ok (.aload_n 0, 1) := by decide +kernel
theorem dX13_perform_50 : decode cX13_perform 50 = .ok (.iload_n 2, 1) := by decide +kernel
theorem dX13_perform_51 : decode cX13_perform 51 = .ok (.invokevirtual 544, 3) := by decide +kernel
theorem dX13_perform_54 : decode cX13_perform 54 = .ok (.goto 149, 3) := by decide +kernel
theorem dX13_perform_57 : decode cX13_perform 57 = .ok (.iload_n 2, 1) := by decide +kernel
theorem dX13_perform_58 : decode cX13_perform 58 = .ok (.bipush 7, 2) := by decide +kernel
theorem dX13_perform_60 : decode cX13_perform 60 = .ok (.if_icmp .ne 10, 3) := by decide +kernel
theorem dX13_perform_63 : decode cX13_perform 63 = .ok (.aload_n 0, 1) := by decide +kernel
theorem dX13_perform_64 : decode cX13_perform 64 = .ok (.invokevirtual 547, 3) := by decide +kernel
theorem dX13_perform_67 : decode cX13_perform 67 = .ok (.goto 136, 3) := by decide +kernel
theorem dX13_perform_70 : decode cX13_perform 70 = .ok (.iload_n 2, 1) := by decide +kernel
theorem dX13_perform_71 : decode cX13_perform 71 = .ok (.bipush 8, 2) := by decide +kernel
theorem dX13_perform_73 : decode cX13_perform 73 = .ok (.if_icmp .ne 10, 3) := by decide +kernel
theorem dX13_perform_76 : decode cX13_perform 76 = .ok (.aload_n 0, 1) := by decide +kernel
theorem dX13_perform_77 : decode cX13_perform 77 = .ok (.invokevirtual 550, 3) := by decide +kernel
theorem dX13_perform_80 : decode cX13_perform 80 = .ok (.goto 123, 3) := by decide +kernel
theorem dX13_perform_83 : decode cX13_perform 83 = .ok (.iload_n 2, 1) := by decide +kernel
theorem dX13_perform_84 : decode cX13_perform 84 = .ok (.bipush 11, 2) := by decide +kernel
theorem dX13_perform_86 : decode cX13_perform 86 = .ok (.if_icmp .gt 11, 3) := by decide +kernel
theorem dX13_perform_89 : decode cX13_perform 89 = .ok (.aload_n 0, 1) := by decide +kernel
theorem dX13_perform_90 : decode cX13_perform 90 = .ok (.iload_n 2, 1) := by decide +kernel
theorem dX13_perform_91 : decode cX13_perform 91 = .ok (.invokevirtual 553, 3) := by decide +kernel
theorem dX13_perform_94 : decode cX13_perform 94 = .ok (.goto 109, 3) := by decide +kernel
theorem dX13_perform_97 : decode cX13_perform 97 = .ok (.iload_n 2, 1) := by decide +kernel
theorem dX13_perform_98 : decode cX13_perform 98 = .ok (.bipush 13, 2) := by decide +kernel
theorem dX13_perform_100 : decode cX13_perform 100 = .ok (.if_icmp .gt 21, 3) := by decide +kernel
theorem dX13_perform_103 : decode cX13_perform 103 = .ok (.aload_n 0, 1) := by decide +kernel
theorem dX13_perform_104 : decode cX13_perform 104 = .ok (.iload_n 2, 1) := by decide +kernel
theorem dX13_perform_105 : decode cX13_perform 105 = .ok (.bipush 13, 2) := by decide +kernel
theorem dX13_perform_107 : decode cX13_perform 107 = .ok (.if_icmp .ne 7, 3) := by decide +kernel
theorem dX13_perform_110 : decode cX13_perform 110 = .ok (.iconst 1, 1) := by decide +kernel
theorem dX13_perform_111 : decode cX13_perform 111 = .ok (.goto 4, 3) := by decide +kernel
theorem dX13_perform_114 : decode cX13_perform 114 = .ok (.iconst 0, 1) := by decide +kernel
theorem dX13_perform_115 : decode cX13_perform 115 = .ok (.invokevirtual 556, 3) := by decide +kernel
theorem dX13_perform_118 : decode cX13_perform 118 = .ok (.goto 85, 3) := by decide +kernel
theorem dX13_perform_121 : decode cX13_perform 121 = .ok (.iload_n 2, 1) := by decide +kernel
theorem dX13_perform_122 : decode cX13_perform 122 = .ok (.bipush 14, 2) := by decide +kernel
theorem dX13_perform_124 : decode cX13_perform 124 = .ok (.if_icmp .ne 22, 3) := by decide +kernel
theorem dX13_perform_127 : decode cX13_perform 127 = .ok (.aload_n 0, 1) := by decide +kernel
theorem dX13_perform_128 : decode cX13_perform 128 = .ok (.aload_n 0, 1) := by decide +kernel
theorem dX13_perform_129 : decode cX13_perform 129 = .ok (.getfield 95, 3) := by decide +kernel
theorem dX13_perform_132 : decode cX13_perform 132 = .ok (.iload_n 1, 1) := by decide +kernel
theorem dX13_perform_133 : decode cX13_perform 133 = .ok (.iaload, 1) := by decide +kernel
theorem dX13_perform_134 : decode cX13_perform 134 = .ok (.aload_n 0, 1) := by decide +kernel
theorem dX13_perform_135 : decode cX13_perform 135 = .ok (.getfield 98, 3) := by decide +kernel
theorem dX13_perform_138 : decode cX13_perform 138 = .ok (.iload_n 1, 1) := by decide +kernel
theorem dX13_perform_139 : decode cX13_perform 139 = .ok (.iaload, 1) := by decide +kernel
theorem dX13_perform_140 : decode cX13_perform 140 = .ok (.invokevirtual 560, 3) := by decide +kernel
theorem dX13_perform_143 : decode cX13_perform 143 = .ok (.goto 60, 3) := by decide +kernel
theorem dX13_perform_146 : decode cX13_perform 146 = .ok (.iload_n 2, 1) := by decide +kernel
theorem dX13_perform_147 : decode cX13_perform 147 = .ok (.bipush 15, 2) := by decide +kernel
theorem dX13_perform_149 : decode cX13_perform 149 = .ok (.if_icmp .ne 10, 3) := by decide +kernel
theorem dX13_perform_152 : decode cX13_perform 152 = .ok (.aload_n 0, 1) := by decide +kernel
theorem dX13_perform_153 : decode cX13_perform 153 = .ok (.invokevirtual 563, 3) := by decide +kernel
theorem dX13_perform_156 : decode cX13_perform 156 = .ok (.goto 47, 3) := by decide +kernel
theorem dX13_perform_159 : decode cX13_perform 159 = .ok (.iload_n 2, 1) := by decide +kernel
theorem dX13_perform_160 : decode cX13_perform 160 = .ok (.bipush 16, 2) := by decide +kernel
theorem dX13_perform_162 : decode cX13_perform 162 = .ok (.if_icmp .ne 16, 3) := by decide +kernel
theorem dX13_perform_165 : decode cX13_perform 165 = .ok (.aload_n 0, 1) := by decide +kernel
theorem dX13_perform_166 : decode cX13_perform 166 = .ok (.aload_n 0, 1) := by decide +kernel
theorem dX13_perform_167 : decode cX13_perform 167 = .ok (.getfield 95, 3) := by decide +kernel
theorem dX13_perform_170 : decode cX13_perform 170 = .ok (.iload_n 1, 1) := by decide +kernel
theorem dX13_perform_171 : decode cX13_perform 171 = .ok (.iaload, 1) := by decide +kernel
theorem dX13_perform_172 : decode cX13_perform 172 = .ok (.invokevirtual 566, 3) := by decide +kernel
theorem dX13_perform_175 : decode cX13_perform 175 = .ok (.goto 28, 3) := by decide +kernel
theorem dX13_perform_178 : decode cX13_perform 178 = .ok (.iload_n 2, 1) := by decide +kernel
theorem dX13_perform_179 : decode cX13_perform 179 = .ok (.bipush 17, 2) := by decide +kernel
theorem dX13_perform_181 : decode cX13_perform 181 = .ok (.if_icmp .ne 16, 3) := by decide +kernel
theorem dX13_perform_184 : decode cX13_perform 184 = .ok (.aload_n 0, 1) := by decide +kernel
theorem dX13_perform_185 : decode cX13_perform 185 = .ok (.aload_n 0, 1) := by decide +kernel
theorem dX13_perform_186 : decode cX13_perform 186 = .ok (.getfield 95, 3) := by decide +kernel
theorem dX13_perform_189 : decode cX13_perform 189 = .ok (.iload_n 1, 1) := by decide +kernel
theorem dX13_perform_190 : decode cX13_perform 190 = .ok (.iaload, 1) := by decide +kernel
theorem dX13_perform_191 : decode cX13_perform 191 = .ok (.invokevirtual 569, 3) := by decide +kernel
theorem dX13_perform_194 : decode cX13_perform 194 = .ok (.goto 9, 3) := by decide +kernel
theorem dX13_perform_197 : decode cX13_perform 197 = .ok (.aload_n 0, 1) := by decide +kernel
theorem dX13_perform_198 : decode cX13_perform 198 = .ok (.iload_n 1, 1) := by decide +kernel
theorem dX13_perform_199 : decode cX13_perform 199 = .ok (.iload_n 2, 1) := by decide +kernel
theorem dX13_perform_200 : decode cX13_perform 200 = .ok (.invokevirtual 572, 3) := by decide +kernel
theorem dX13_perform_203 : decode cX13_perform 203 = .ok (.return_, 1) := by decide +kernel
theorem dX13_keepFault_0 : decode cX13_keepFault 0 = .ok (.aload_n 0, 1) := by decide +kernel
theorem dX13_keepFault_1 : decode cX13_keepFault 1 = .ok (.getfield 76, 3) := by decide +kernel
theorem dX13_keepFault_4 : decode cX13_keepFault 4 = .ok (.sipush 278, 3) := by decide +kernel
theorem dX13_keepFault_7 : decode cX13_keepFault 7 = .ok (.dup2, 1) := by decide +kernel
theorem dX13_keepFault_8 : decode cX13_keepFault 8 = .ok (.iaload, 1) := by decide +kernel
theorem dX13_keepFault_9 : decode cX13_keepFault 9 = .ok (.iconst 1, 1) := by decide +kernel
theorem dX13_keepFault_10 : decode cX13_keepFault 10 = .ok (.iadd, 1) := by decide +kernel
theorem dX13_keepFault_11 : decode cX13_keepFault 11 = .ok (.iastore, 1) := by decide +kernel
theorem dX13_keepFault_12 : decode cX13_keepFault 12 = .ok (.aload_n 0, 1) := by decide +kernel
theorem dX13_keepFault_13 : decode cX13_keepFault 13 = .ok (.getfield 76, 3) := by decide +kernel
theorem dX13_keepFault_16 : decode cX13_keepFault 16 = .ok (.sipush 280, 3) := by decide +kernel
theorem dX13_keepFault_19 : decode cX13_keepFault 19 = .ok (.aload_n 0, 1) := by decide +kernel
theorem dX13_keepFault_20 : decode cX13_keepFault 20 = .ok (.getfield 388, 3) := by decide +kernel
theorem dX13_keepFault_23 : decode cX13_keepFault 23 = .ok (.iastore, 1) := by decide +kernel
theorem dX13_keepFault_24 : decode cX13_keepFault 24 = .ok (.aload_n 0, 1) := by decide +kernel
theorem dX13_keepFault_25 : decode cX13_keepFault 25 = .ok (.getfield 76, 3) := by decide +kernel
theorem dX13_keepFault_28 : decode cX13_keepFault 28 = .ok (.sipush 281, 3) := by decide +kernel
theorem dX13_keepFault_31 : decode cX13_keepFault 31 = .ok (.iload_n 1, 1) := by decide +kernel
theorem dX13_keepFault_32 : decode cX13_keepFault 32 = .ok (.iastore, 1) := by decide +kernel
theorem dX13_keepFault_33 : decode cX13_keepFault 33 = .ok (.aload_n 0, 1) := by decide +kernel
theorem dX13_keepFault_34 : decode cX13_keepFault 34 = .ok (.getfield 76, 3) := by decide +kernel
theorem dX13_keepFault_37 : decode cX13_keepFault 37 = .ok (.sipush 282, 3) := by decide +kernel
theorem dX13_keepFault_40 : decode cX13_keepFault 40 = .ok (.aload_n 0, 1) := by decide +kernel
theorem dX13_keepFault_41 : decode cX13_keepFault 41 = .ok (.getfield 76, 3) := by decide +kernel
theorem dX13_keepFault_44 : decode cX13_keepFault 44 = .ok (.sipush 277, 3) := by decide +kernel
theorem dX13_keepFault_47 : decode cX13_keepFault 47 = .ok (.iaload, 1) := by decide +kernel
theorem dX13_keepFault_48 : decode cX13_keepFault 48 = .ok (.iastore, 1) := by decide +kernel
theorem dX13_keepFault_49 : decode cX13_keepFault 49 = .ok (.aload_n 0, 1) := by decide +kernel
theorem dX13_keepFault_50 : decode cX13_keepFault 50 = .ok (.getfield 76, 3) := by decide +kernel
theorem dX13_keepFault_53 : decode cX13_keepFault 53 = .ok (.sipush 283, 3) := by decide +kernel
theorem dX13_keepFault_56 : decode cX13_keepFault 56 = .ok (.aload_n 0, 1) := by decide +kernel
theorem dX13_keepFault_57 : decode cX13_keepFault 57 = .ok (.getfield 391, 3) := by decide +kernel
theorem dX13_keepFault_60 : decode cX13_keepFault 60 = .ok (.iastore, 1) := by decide +kernel
theorem dX13_keepFault_61 : decode cX13_keepFault 61 = .ok (.aload_n 0, 1) := by decide +kernel
theorem dX13_keepFault_62 : decode cX13_keepFault 62 = .ok (.getfield 76, 3) := by decide +kernel
theorem dX13_keepFault_65 : decode cX13_keepFault 65 = .ok (.sipush 284, 3) := by decide +kernel
theorem dX13_keepFault_68 : decode cX13_keepFault 68 = .ok (.aload_n 0, 1) := by decide +kernel
theorem dX13_keepFault_69 : decode cX13_keepFault 69 = .ok (.getfield 400, 3) := by decide +kernel
theorem dX13_keepFault_72 : decode cX13_keepFault 72 = .ok (.iastore, 1) := by decide +kernel
theorem dX13_keepFault_73 : decode cX13_keepFault 73 = .ok (.aload_n 0, 1) := by decide +kernel
theorem dX13_keepFault_74 : decode cX13_keepFault 74 = .ok (.getfield 76, 3) := by decide +kernel
theorem dX13_keepFault_77 : decode cX13_keepFault 77 = .ok (.sipush 285, 3) := by decide +kernel
theorem dX13_keepFault_80 : decode cX13_keepFault 80 = .ok (.aload_n 0, 1) := by decide +kernel
theorem dX13_keepFault_81 : decode cX13_keepFault 81 = .ok (.getfield 409, 3) := by decide +kernel
theorem dX13_keepFault_84 : decode cX13_keepFault 84 = .ok (.iastore, 1) := by decide +kernel
theorem dX13_keepFault_85 : decode cX13_keepFault 85 = .ok (.aload_n 0, 1) := by decide +kernel
theorem dX13_keepFault_86 : decode cX13_keepFault 86 = .ok (.getfield 76, 3) := by decide +kernel
theorem dX13_keepFault_89 : decode cX13_keepFault 89 = .ok (.sipush 289, 3) := by decide +kernel
theorem dX13_keepFault_92 : decode cX13_keepFault 92 = .ok (.aload_n 0, 1) := by decide +kernel
theorem dX13_keepFault_93 : decode cX13_keepFault 93 = .ok (.getfield 412, 3) := by decide +kernel
theorem dX13_keepFault_96 : decode cX13_keepFault 96 = .ok (.iconst (-1), 1) := by decide +kernel
theorem dX13_keepFault_97 : decode cX13_keepFault 97 = .ok (.if_icmp .ne 7, 3) := by decide +kernel
theorem dX13_keepFault_100 : decode cX13_keepFault 100 = .ok (.iconst 0, 1) := by decide +kernel
theorem dX13_keepFault_101 : decode cX13_keepFault 101 = .ok (.goto 4, 3) := by decide +kernel
theorem dX13_keepFault_104 : decode cX13_keepFault 104 = .ok (.iconst 1, 1) := by decide +kernel
theorem dX13_keepFault_105 : decode cX13_keepFault 105 = .ok (.iastore, 1) := by decide +kernel
theorem dX13_keepFault_106 : decode cX13_keepFault 106 = .ok (.iconst 0, 1) := by decide +kernel
theorem dX13_keepFault_107 : decode cX13_keepFault 107 = .ok (.istore_n 2, 1) := by decide +kernel
theorem dX13_keepFault_108 : decode cX13_keepFault 108 = .ok (.iload_n 2, 1) := by decide +kernel
theorem dX13_keepFault_109 : decode cX13_keepFault 109 = .ok (.iconst 3, 1) := by decide +kernel
theorem dX13_keepFault_110 : decode cX13_keepFault 110 = .ok (.if_icmp .ge 62, 3) := by decide +kernel
theorem dX13_keepFault_113 : decode cX13_keepFault 113 = .ok (.aload_n 0, 1) := by decide +kernel
theorem dX13_keepFault_114 : decode cX13_keepFault 114 = .ok (.getfield 76, 3) := by decide +kernel
theorem dX13_keepFault_117 : decode cX13_keepFault 117 = .ok (.sipush 286, 3) := by decide +kernel
theorem dX13_keepFault_120 : decode cX13_keepFault 120 = .ok (.iload_n 2, 1) := by decide +kernel
theorem dX13_keepFault_121 : decode cX13_keepFault 121 = .ok (.iadd, 1) := by decide +kernel
theorem dX13_keepFault_122 : decode cX13_keepFault 122 = .ok (.aload_n 0, 1) := by decide +kernel
theorem dX13_keepFault_123 : decode cX13_keepFault 123 = .ok (.getfield 412, 3) := by decide +kernel
theorem dX13_keepFault_126 : decode cX13_keepFault 126 = .ok (.iconst (-1), 1) := by decide +kernel
theorem dX13_keepFault_127 : decode cX13_keepFault 127 = .ok (.if_icmp .ne 7, 3) := by decide +kernel
theorem dX13_keepFault_130 : decode cX13_keepFault 130 = .ok (.iconst 0, 1) := by decide +kernel
theorem dX13_keepFault_131 : decode cX13_keepFault 131 = .ok (.goto 34, 3) := by decide +kernel
theorem dX13_keepFault_134 : decode cX13_keepFault 134 = .ok (.iload_n 2, 1) := by decide +kernel
theorem dX13_keepFault_135 : decode cX13_keepFault 135 = .ok (.ifCond .ne 12, 3) := by decide +kernel
theorem dX13_keepFault_138 : decode cX13_keepFault 138 = .ok (.aload_n 0, 1) := by decide +kernel
theorem dX13_keepFault_139 : decode cX13_keepFault 139 = .ok (.getfield 412, 3) := by decide +kernel
theorem dX13_keepFault_142 : decode cX13_keepFault 142 = .ok (.iconst 2, 1) := by decide +kernel
theorem dX13_keepFault_143 : decode cX13_keepFault 143 = .ok (.idiv, 1) := by decide +kernel
theorem dX13_keepFault_144 : decode cX13_keepFault 144 = .ok (.goto 21, 3) := by decide +kernel
theorem dX13_keepFault_147 : decode cX13_keepFault 147 = .ok (.iload_n 2, 1) := by decide +kernel
theorem dX13_keepFault_148 : decode cX13_keepFault 148 = .ok (.iconst 1, 1) := by decide +kernel
theorem dX13_keepFault_149 : decode cX13_keepFault 149 = .ok (.if_icmp .ne 12, 3) := by decide +kernel
theorem dX13_keepFault_152 : decode cX13_keepFault 152 = .ok (.aload_n 0, 1) := by decide +kernel
theorem dX13_keepFault_153 : decode cX13_keepFault 153 = .ok (.getfield 412, 3) := by decide +kernel
theorem dX13_keepFault_156 : decode cX13_keepFault 156 = .ok (.iconst 2, 1) := by decide +kernel
theorem dX13_keepFault_157 : decode cX13_keepFault 157 = .ok (.irem, 1) := by decide +kernel
theorem dX13_keepFault_158 : decode cX13_keepFault 158 = .ok (.goto 7, 3) := by decide +kernel
theorem dX13_keepFault_161 : decode cX13_keepFault 161 = .ok (.aload_n 0, 1) := by decide +kernel
theorem dX13_keepFault_162 : decode cX13_keepFault 162 = .ok (.getfield 418, 3) := by decide +kernel
theorem dX13_keepFault_165 : decode cX13_keepFault 165 = .ok (.iastore, 1) := by decide +kernel
theorem dX13_keepFault_166 : decode cX13_keepFault 166 = .ok (.iinc 2 1, 3) := by decide +kernel
theorem dX13_keepFault_169 : decode cX13_keepFault 169 = .ok (.goto (-61), 3) := by decide +kernel
theorem dX13_keepFault_172 : decode cX13_keepFault 172 = .ok (.return_, 1) := by decide +kernel
theorem dX13_aStep_0 : decode cX13_aStep 0 = .ok (.aload_n 0, 1) := by decide +kernel
theorem dX13_aStep_1 : decode cX13_aStep 1 = .ok (.getfield 76, 3) := by decide +kernel
theorem dX13_aStep_4 : decode cX13_aStep 4 = .ok (.sipush 276, 3) := by decide +kernel
theorem dX13_aStep_7 : decode cX13_aStep 7 = .ok (.iaload, 1) := by decide +kernel
theorem dX13_aStep_8 : decode cX13_aStep 8 = .ok (.ifCond .eq 4, 3) := by decide +kernel
theorem dX13_aStep_11 : decode cX13_aStep 11 = .ok (.return_, 1) := by decide +kernel
theorem dX13_aStep_12 : decode cX13_aStep 12 = .ok (.aload_n 0, 1) := by decide +kernel
theorem dX13_aStep_13 : decode cX13_aStep 13 = .ok (.getfield 76, 3) := by decide +kernel
theorem dX13_aStep_16 : decode cX13_aStep 16 = .ok (.sipush 265, 3) := by decide +kernel
theorem dX13_aStep_19 : decode cX13_aStep 19 = .ok (.iaload, 1) := by decide +kernel
theorem dX13_aStep_20 : decode cX13_aStep 20 = .ok (.istore_n 1, 1) := by decide +kernel
theorem dX13_aStep_21 : decode cX13_aStep 21 = .ok (.aload_n 0, 1) := by decide +kernel
theorem dX13_aStep_22 : decode cX13_aStep 22 = .ok (.getfield 83, 3) := by decide +kernel
theorem dX13_aStep_25 : decode cX13_aStep 25 = .ok (.iload_n 1, 1) := by decide +kernel
theorem dX13_aStep_26 : decode cX13_aStep 26 = .ok (.iaload, 1) := by decide +kernel
theorem dX13_aStep_27 : decode cX13_aStep 27 = .ok (.istore_n 2, 1) := by decide +kernel
theorem dX13_aStep_28 : decode cX13_aStep 28 = .ok (.aload_n 0, 1) := by decide +kernel
theorem dX13_aStep_29 : decode cX13_aStep 29 = .ok (.iconst 0, 1) := by decide +kernel
theorem dX13_aStep_30 : decode cX13_aStep 30 = .ok (.putfield 388, 3) := by decide +kernel
theorem dX13_aStep_33 : decode cX13_aStep 33 = .ok (.aload_n 0, 1) := by decide +kernel
theorem dX13_aStep_34 : decode cX13_aStep 34 = .ok (.iload_n 1, 1) := by decide +kernel
theorem dX13_aStep_35 : decode cX13_aStep 35 = .ok (.iconst 1, 1) := by decide +kernel
theorem dX13_aStep_36 : decode cX13_aStep 36 = .ok (.iadd, 1) := by decide +kernel
theorem dX13_aStep_37 : decode cX13_aStep 37 = .ok (.putfield 532, 3) := by decide +kernel
theorem dX13_aStep_40 : decode cX13_aStep 40 = .ok (.aload_n 0, 1) := by decide +kernel
theorem dX13_aStep_41 : decode cX13_aStep 41 = .ok (.iload_n 1, 1) := by decide +kernel
theorem dX13_aStep_42 : decode cX13_aStep 42 = .ok (.iload_n 2, 1) := by decide +kernel
theorem dX13_aStep_43 : decode cX13_aStep 43 = .ok (.invokevirtual 575, 3) := by decide +kernel
theorem dX13_aStep_46 : decode cX13_aStep 46 = .ok (.aload_n 0, 1) := by decide +kernel
theorem dX13_aStep_47 : decode cX13_aStep 47 = .ok (.iload_n 2, 1) := by decide +kernel
theorem dX13_aStep_48 : decode cX13_aStep 48 = .ok (.invokevirtual 578, 3) := by decide +kernel
theorem dX13_aStep_51 : decode cX13_aStep 51 = .ok (.aload_n 0, 1) := by decide +kernel
theorem dX13_aStep_52 : decode cX13_aStep 52 = .ok (.iload_n 1, 1) := by decide +kernel
theorem dX13_aStep_53 : decode cX13_aStep 53 = .ok (.iload_n 2, 1) := by decide +kernel
theorem dX13_aStep_54 : decode cX13_aStep 54 = .ok (.invokevirtual 581, 3) := by decide +kernel
theorem dX13_aStep_57 : decode cX13_aStep 57 = .ok (.aload_n 0, 1) := by decide +kernel
theorem dX13_aStep_58 : decode cX13_aStep 58 = .ok (.getfield 76, 3) := by decide +kernel
theorem dX13_aStep_61 : decode cX13_aStep 61 = .ok (.sipush 290, 3) := by decide +kernel
theorem dX13_aStep_64 : decode cX13_aStep 64 = .ok (.aload_n 0, 1) := by decide +kernel
theorem dX13_aStep_65 : decode cX13_aStep 65 = .ok (.getfield 76, 3) := by decide +kernel
theorem dX13_aStep_68 : decode cX13_aStep 68 = .ok (.sipush 279, 3) := by decide +kernel
theorem dX13_aStep_71 : decode cX13_aStep 71 = .ok (.iaload, 1) := by decide +kernel
theorem dX13_aStep_72 : decode cX13_aStep 72 = .ok (.bipush 64, 2) := by decide +kernel
theorem dX13_aStep_74 : decode cX13_aStep 74 = .ok (.irem, 1) := by decide +kernel
theorem dX13_aStep_75 : decode cX13_aStep 75 = .ok (.iadd, 1) := by decide +kernel
theorem dX13_aStep_76 : decode cX13_aStep 76 = .ok (.iload_n 1, 1) := by decide +kernel
theorem dX13_aStep_77 : decode cX13_aStep 77 = .ok (.iastore, 1) := by decide +kernel
theorem dX13_aStep_78 : decode cX13_aStep 78 = .ok (.aload_n 0, 1) := by decide +kernel
theorem dX13_aStep_79 : decode cX13_aStep 79 = .ok (.getfield 76, 3) := by decide +kernel
theorem dX13_aStep_82 : decode cX13_aStep 82 = .ok (.sipush 279, 3) := by decide +kernel
theorem dX13_aStep_85 : decode cX13_aStep 85 = .ok (.dup2, 1) := by decide +kernel
theorem dX13_aStep_86 : decode cX13_aStep 86 = .ok (.iaload, 1) := by decide +kernel
theorem dX13_aStep_87 : decode cX13_aStep 87 = .ok (.iconst 1, 1) := by decide +kernel
theorem dX13_aStep_88 : decode cX13_aStep 88 = .ok (.iadd, 1) := by decide +kernel
theorem dX13_aStep_89 : decode cX13_aStep 89 = .ok (.iastore, 1) := by decide +kernel
theorem dX13_aStep_90 : decode cX13_aStep 90 = .ok (.aload_n 0, 1) := by decide +kernel
theorem dX13_aStep_91 : decode cX13_aStep 91 = .ok (.getfield 76, 3) := by decide +kernel
theorem dX13_aStep_94 : decode cX13_aStep 94 = .ok (.sipush 354, 3) := by decide +kernel
theorem dX13_aStep_97 : decode cX13_aStep 97 = .ok (.iload_n 1, 1) := by decide +kernel
theorem dX13_aStep_98 : decode cX13_aStep 98 = .ok (.iadd, 1) := by decide +kernel
theorem dX13_aStep_99 : decode cX13_aStep 99 = .ok (.dup2, 1) := by decide +kernel
theorem dX13_aStep_100 : decode cX13_aStep 100 = .ok (.iaload, 1) := by decide +kernel
theorem dX13_aStep_101 : decode cX13_aStep 101 = .ok (.iconst 1, 1) := by decide +kernel
theorem dX13_aStep_102 : decode cX13_aStep 102 = .ok (.iadd, 1) := by decide +kernel
theorem dX13_aStep_103 : decode cX13_aStep 103 = .ok (.iastore, 1) := by decide +kernel
theorem dX13_aStep_104 : decode cX13_aStep 104 = .ok (.aload_n 0, 1) := by decide +kernel
theorem dX13_aStep_105 : decode cX13_aStep 105 = .ok (.getfield 388, 3) := by decide +kernel
theorem dX13_aStep_108 : decode cX13_aStep 108 = .ok (.ifCond .ne 48, 3) := by decide +kernel
theorem dX13_aStep_111 : decode cX13_aStep 111 = .ok (.aload_n 0, 1) := by decide +kernel
theorem dX13_aStep_112 : decode cX13_aStep 112 = .ok (.getfield 76, 3) := by decide +kernel
theorem dX13_aStep_115 : decode cX13_aStep 115 = .ok (.sipush 265, 3) := by decide +kernel
theorem dX13_aStep_118 : decode cX13_aStep 118 = .ok (.aload_n 0, 1) := by decide +kernel
theorem dX13_aStep_119 : decode cX13_aStep 119 = .ok (.getfield 532, 3) := by decide +kernel
theorem dX13_aStep_122 : decode cX13_aStep 122 = .ok (.iastore, 1) := by decide +kernel
theorem dX13_aStep_123 : decode cX13_aStep 123 = .ok (.aload_n 0, 1) := by decide +kernel
theorem dX13_aStep_124 : decode cX13_aStep 124 = .ok (.getfield 76, 3) := by decide +kernel
theorem dX13_aStep_127 : decode cX13_aStep 127 = .ok (.sipush 276, 3) := by decide +kernel
theorem dX13_aStep_130 : decode cX13_aStep 130 = .ok (.iload_n 2, 1) := by decide +kernel
theorem dX13_aStep_131 : decode cX13_aStep 131 = .ok (.bipush 24, 2) := by decide +kernel
theorem dX13_aStep_133 : decode cX13_aStep 133 = .ok (.if_icmp .eq 14, 3) := by decide +kernel
theorem dX13_aStep_136 : decode cX13_aStep 136 = .ok (.aload_n 0, 1) := by decide +kernel
theorem dX13_aStep_137 : decode cX13_aStep 137 = .ok (.getfield 532, 3) := by decide +kernel
theorem dX13_aStep_140 : decode cX13_aStep 140 = .ok (.aload_n 0, 1) := by decide +kernel
theorem dX13_aStep_141 : decode cX13_aStep 141 = .ok (.getfield 345, 3) := by decide +kernel
theorem dX13_aStep_144 : decode cX13_aStep 144 = .ok (.if_icmp .ne 7, 3) := by decide +kernel
theorem dX13_aStep_147 : decode cX13_aStep 147 = .ok (.iconst 1, 1) := by decide +kernel
theorem dX13_aStep_148 : decode cX13_aStep 148 = .ok (.goto 4, 3) := by decide +kernel
theorem dX13_aStep_151 : decode cX13_aStep 151 = .ok (.iconst 0, 1) := by decide +kernel
theorem dX13_aStep_152 : decode cX13_aStep 152 = .ok (.iastore, 1) := by decide +kernel
theorem dX13_aStep_153 : decode cX13_aStep 153 = .ok (.goto 67, 3) := by decide +kernel
theorem dX13_aStep_156 : decode cX13_aStep 156 = .ok (.aload_n 0, 1) := by decide +kernel
theorem dX13_aStep_157 : decode cX13_aStep 157 = .ok (.iload_n 1, 1) := by decide +kernel
theorem dX13_aStep_158 : decode cX13_aStep 158 = .ok (.invokevirtual 584, 3) := by decide +kernel
theorem dX13_aStep_161 : decode cX13_aStep 161 = .ok (.aload_n 0, 1) := by decide +kernel
theorem dX13_aStep_162 : decode cX13_aStep 162 = .ok (.getfield 76, 3) := by decide +kernel
theorem dX13_aStep_165 : decode cX13_aStep 165 = .ok (.sipush 267, 3) := by decide +kernel
theorem dX13_aStep_168 : decode cX13_aStep 168 = .ok (.aload_n 0, 1) := by decide +kernel
theorem dX13_aStep_169 : decode cX13_aStep 169 = .ok (.getfield 388, 3) := by decide +kernel
theorem dX13_aStep_172 : decode cX13_aStep 172 = .ok (.iadd, 1) := by decide +kernel
theorem dX13_aStep_173 : decode cX13_aStep 173 = .ok (.iaload, 1) := by decide +kernel
theorem dX13_aStep_174 : decode cX13_aStep 174 = .ok (.iconst (-1), 1) := by decide +kernel
theorem dX13_aStep_175 : decode cX13_aStep 175 = .ok (.if_icmp .ne 15, 3) := by decide +kernel
theorem dX13_aStep_178 : decode cX13_aStep 178 = .ok (.aload_n 0, 1) := by decide +kernel
theorem dX13_aStep_179 : decode cX13_aStep 179 = .ok (.getfield 76, 3) := by decide +kernel
theorem dX13_aStep_182 : decode cX13_aStep 182 = .ok (.sipush 276, 3) := by decide +kernel
theorem dX13_aStep_185 : decode cX13_aStep 185 = .ok (.iconst 2, 1) := by decide +kernel
theorem dX13_aStep_186 : decode cX13_aStep 186 = .ok (.iastore, 1) := by decide +kernel
theorem dX13_aStep_187 : decode cX13_aStep 187 = .ok (.goto 33, 3) := by decide +kernel
theorem dX13_aStep_190 : decode cX13_aStep 190 = .ok (.aload_n 0, 1) := by decide +kernel
theorem dX13_aStep_191 : decode cX13_aStep 191 = .ok (.getfield 76, 3) := by decide +kernel
theorem dX13_aStep_194 : decode cX13_aStep 194 = .ok (.sipush 265, 3) := by decide +kernel
theorem dX13_aStep_197 : decode cX13_aStep 197 = .ok (.aload_n 0, 1) := by decide +kernel
theorem dX13_aStep_198 : decode cX13_aStep 198 = .ok (.getfield 76, 3) := by decide +kernel
theorem dX13_aStep_201 : decode cX13_aStep 201 = .ok (.sipush 267, 3) := by decide +kernel
theorem dX13_aStep_204 : decode cX13_aStep 204 = .ok (.aload_n 0, 1) := by decide +kernel
theorem dX13_aStep_205 : decode cX13_aStep 205 = .ok (.getfield 388, 3) := by decide +kernel
theorem dX13_aStep_208 : decode cX13_aStep 208 = .ok (.iadd, 1) := by decide +kernel
theorem dX13_aStep_209 : decode cX13_aStep 209 = .ok (.iaload, 1) := by decide +kernel
theorem dX13_aStep_210 : decode cX13_aStep 210 = .ok (.iastore, 1) := by decide +kernel
theorem dX13_aStep_211 : decode cX13_aStep 211 = .ok (.aload_n 0, 1) := by decide +kernel
theorem dX13_aStep_212 : decode cX13_aStep 212 = .ok (.getfield 76, 3) := by decide +kernel
theorem dX13_aStep_215 : decode cX13_aStep 215 = .ok (.sipush 266, 3) := by decide +kernel
theorem dX13_aStep_218 : decode cX13_aStep 218 = .ok (.iload_n 1, 1) := by decide +kernel
theorem dX13_aStep_219 : decode cX13_aStep 219 = .ok (.iastore, 1) := by decide +kernel
theorem dX13_aStep_220 : decode cX13_aStep 220 = .ok (.aload_n 0, 1) := by decide +kernel
theorem dX13_aStep_221 : decode cX13_aStep 221 = .ok (.getfield 76, 3) := by decide +kernel
theorem dX13_aStep_224 : decode cX13_aStep 224 = .ok (.sipush 277, 3) := by decide +kernel
theorem dX13_aStep_227 : decode cX13_aStep 227 = .ok (.dup2, 1) := by decide +kernel
theorem dX13_aStep_228 : decode cX13_aStep 228 = .ok (.iaload, 1) := by decide +kernel
theorem dX13_aStep_229 : decode cX13_aStep 229 = .ok (.iconst 1, 1) := by decide +kernel
theorem dX13_aStep_230 : decode cX13_aStep 230 = .ok (.iadd, 1) := by decide +kernel
theorem dX13_aStep_231 : decode cX13_aStep 231 = .ok (.iastore, 1) := by decide +kernel
theorem dX13_aStep_232 : decode cX13_aStep 232 = .ok (.return_, 1) := by decide +kernel
theorem dX13_goOn_0 : decode cX13_goOn 0 = .ok (.iconst 0, 1) := by decide +kernel
theorem dX13_goOn_1 : decode cX13_goOn 1 = .ok (.istore_n 2, 1) := by decide +kernel
theorem dX13_goOn_2 : decode cX13_goOn 2 = .ok (.iload_n 2, 1) := by decide +kernel
theorem dX13_goOn_3 : decode cX13_goOn 3 = .ok (.iload_n 1, 1) := by decide +kernel
theorem dX13_goOn_4 : decode cX13_goOn 4 = .ok (.if_icmp .ge 13, 3) := by decide +kernel
theorem dX13_goOn_7 : decode cX13_goOn 7 = .ok (.aload_n 0, 1) := by decide +kernel
theorem dX13_goOn_8 : decode cX13_goOn 8 = .ok (.invokevirtual 587, 3) := by decide +kernel
theorem dX13_goOn_11 : decode cX13_goOn 11 = .ok (.iinc 2 1, 3) := by decide +kernel
theorem dX13_goOn_14 : decode cX13_goOn 14 = .ok (.goto (-12), 3) := by decide +kernel
theorem dX13_goOn_17 : decode cX13_goOn 17 = .ok (.return_, 1) := by decide +kernel
theorem dX13_undone_0 : decode cX13_undone 0 = .ok (.iconst 0, 1) := by decide +kernel
theorem dX13_undone_1 : decode cX13_undone 1 = .ok (.istore_n 1, 1) := by decide +kernel
theorem dX13_undone_2 : decode cX13_undone 2 = .ok (.iconst 0, 1) := by decide +kernel
theorem dX13_undone_3 : decode cX13_undone 3 = .ok (.istore_n 2, 1) := by decide +kernel
theorem dX13_undone_4 : decode cX13_undone 4 = .ok (.iload_n 2, 1) := by decide +kernel
theorem dX13_undone_5 : decode cX13_undone 5 = .ok (.aload_n 0, 1) := by decide +kernel
theorem dX13_undone_6 : decode cX13_undone 6 = .ok (.getfield 345, 3) := by decide +kernel
theorem dX13_undone_9 : decode cX13_undone 9 = .ok (.if_icmp .ge 30, 3) := by decide +kernel
theorem dX13_undone_12 : decode cX13_undone 12 = .ok (.iload_n 1, 1) := by decide +kernel
theorem dX13_undone_13 : decode cX13_undone 13 = .ok (.aload_n 0, 1) := by decide +kernel
theorem dX13_undone_14 : decode cX13_undone 14 = .ok (.getfield 76, 3) := by decide +kernel
theorem dX13_undone_17 : decode cX13_undone 17 = .ok (.sipush 354, 3) := by decide +kernel
theorem dX13_undone_20 : decode cX13_undone 20 = .ok (.iload_n 2, 1) := by decide +kernel
theorem dX13_undone_21 : decode cX13_undone 21 = .ok (.iadd, 1) := by decide +kernel
theorem dX13_undone_22 : decode cX13_undone 22 = .ok (.iaload, 1) := by decide +kernel
theorem dX13_undone_23 : decode cX13_undone 23 = .ok (.ifCond .ne 7, 3) := by decide +kernel
theorem dX13_undone_26 : decode cX13_undone 26 = .ok (.iconst 1, 1) := by decide +kernel
theorem dX13_undone_27 : decode cX13_undone 27 = .ok (.goto 4, 3) := by decide +kernel
theorem dX13_undone_30 : decode cX13_undone 30 = .ok (.iconst 0, 1) := by decide +kernel
theorem dX13_undone_31 : decode cX13_undone 31 = .ok (.iadd, 1) := by decide +kernel
theorem dX13_undone_32 : decode cX13_undone 32 = .ok (.istore_n 1, 1) := by decide +kernel
theorem dX13_undone_33 : decode cX13_undone 33 = .ok (.iinc 2 1, 3) := by decide +kernel
theorem dX13_undone_36 : decode cX13_undone 36 = .ok (.goto (-32), 3) := by decide +kernel
theorem dX13_undone_39 : decode cX13_undone 39 = .ok (.iload_n 1, 1) := by decide +kernel
theorem dX13_undone_40 : decode cX13_undone 40 = .ok (.ireturn, 1) := by decide +kernel
theorem dX13_count_0 : decode cX13_count 0 = .ok (.aload_n 0, 1) := by decide +kernel
theorem dX13_count_1 : decode cX13_count 1 = .ok (.iconst 0, 1) := by decide +kernel
theorem dX13_count_2 : decode cX13_count 2 = .ok (.putfield 187, 3) := by decide +kernel
theorem dX13_count_5 : decode cX13_count 5 = .ok (.iload_n 1, 1) := by decide +kernel
theorem dX13_count_6 : decode cX13_count 6 = .ok (.tableswitch 177 0 14 #[74, 83, 92, 101, 110, 119, 124, 133, 138, 152, 157, 162, 167, 167, 167], 74) := by decide +kernel
theorem dX13_count_80 : decode cX13_count 80 = .ok (.aload_n 0, 1) := by decide +kernel
theorem dX13_count_81 : decode cX13_count 81 = .ok (.getfield 76, 3) := by decide +kernel
theorem dX13_count_84 : decode cX13_count 84 = .ok (.sipush 277, 3) := by decide +kernel
theorem dX13_count_87 : decode cX13_count 87 = .ok (.iaload, 1) := by decide +kernel
theorem dX13_count_88 : decode cX13_count 88 = .ok (.ireturn, 1) := by decide +kernel
theorem dX13_count_89 : decode cX13_count 89 = .ok (.aload_n 0, 1) := by decide +kernel
theorem dX13_count_90 : decode cX13_count 90 = .ok (.getfield 76, 3) := by decide +kernel
theorem dX13_count_93 : decode cX13_count 93 = .ok (.sipush 276, 3) := by decide +kernel
theorem dX13_count_96 : decode cX13_count 96 = .ok (.iaload, 1) := by decide +kernel
theorem dX13_count_97 : decode cX13_count 97 = .ok (.ireturn, 1) := by decide +kernel
theorem dX13_count_98 : decode cX13_count 98 = .ok (.aload_n 0, 1) := by decide +kernel
theorem dX13_count_99 : decode cX13_count 99 = .ok (.getfield 76, 3) := by decide +kernel
theorem dX13_count_102 : decode cX13_count 102 = .ok (.sipush 265, 3) := by decide +kernel
theorem dX13_count_105 : decode cX13_count 105 = .ok (.iaload, 1) := by decide +kernel
theorem dX13_count_106 : decode cX13_count 106 = .ok (.ireturn, 1) := by decide +kernel
theorem dX13_count_107 : decode cX13_count 107 = .ok (.aload_n 0, 1) := by decide +kernel
theorem dX13_count_108 : decode cX13_count 108 = .ok (.getfield 76, 3) := by decide +kernel
theorem dX13_count_111 : decode cX13_count 111 = .ok (.sipush 264, 3) := by decide +kernel
theorem dX13_count_114 : decode cX13_count 114 = .ok (.iaload, 1) := by decide +kernel
theorem dX13_count_115 : decode cX13_count 115 = .ok (.ireturn, 1) := by decide +kernel
theorem dX13_count_116 : decode cX13_count 116 = .ok (.aload_n 0, 1) := by decide +kernel
theorem dX13_count_117 : decode cX13_count 117 = .ok (.getfield 76, 3) := by decide +kernel
theorem dX13_count_120 : decode cX13_count 120 = .ok (.sipush 266, 3) := by decide +kernel
theorem dX13_count_123 : decode cX13_count 123 = .ok (.iaload, 1) := by decide +kernel
theorem dX13_count_124 : decode cX13_count 124 = .ok (.ireturn, 1) := by decide +kernel
theorem dX13_count_125 : decode cX13_count 125 = .ok (.aload_n 0, 1) := by decide +kernel
theorem dX13_count_126 : decode cX13_count 126 = .ok (.getfield 345, 3) := by decide +kernel
theorem dX13_count_129 : decode cX13_count 129 = .ok (.ireturn, 1) := by decide +kernel
theorem dX13_count_130 : decode cX13_count 130 = .ok (.aload_n 0, 1) := by decide +kernel
theorem dX13_count_131 : decode cX13_count 131 = .ok (.getfield 76, 3) := by decide +kernel
theorem dX13_count_134 : decode cX13_count 134 = .ok (.sipush 278, 3) := by decide +kernel
theorem dX13_count_137 : decode cX13_count 137 = .ok (.iaload, 1) := by decide +kernel
theorem dX13_count_138 : decode cX13_count 138 = .ok (.ireturn, 1) := by decide +kernel
theorem dX13_count_139 : decode cX13_count 139 = .ok (.aload_n 0, 1) := by decide +kernel
theorem dX13_count_140 : decode cX13_count 140 = .ok (.invokevirtual 590, 3) := by decide +kernel
theorem dX13_count_143 : decode cX13_count 143 = .ok (.ireturn, 1) := by decide +kernel
theorem dX13_count_144 : decode cX13_count 144 = .ok (.bipush 64, 2) := by decide +kernel
theorem dX13_count_146 : decode cX13_count 146 = .ok (.aload_n 0, 1) := by decide +kernel
theorem dX13_count_147 : decode cX13_count 147 = .ok (.getfield 76, 3) := by decide +kernel
theorem dX13_count_150 : decode cX13_count 150 = .ok (.sipush 279, 3) := by decide +kernel
theorem dX13_count_153 : decode cX13_count 153 = .ok (.iaload, 1) := by decide +kernel
theorem dX13_count_154 : decode cX13_count 154 = .ok (.invokestatic 219, 3) := by decide +kernel
theorem dX13_count_157 : decode cX13_count 157 = .ok (.ireturn, 1) := by decide +kernel
theorem dX13_count_158 : decode cX13_count 158 = .ok (.aload_n 0, 1) := by decide +kernel
theorem dX13_count_159 : decode cX13_count 159 = .ok (.getfield 348, 3) := by decide +kernel
theorem dX13_count_162 : decode cX13_count 162 = .ok (.ireturn, 1) := by decide +kernel
theorem dX13_count_163 : decode cX13_count 163 = .ok (.aload_n 0, 1) := by decide +kernel
theorem dX13_count_164 : decode cX13_count 164 = .ok (.getfield 351, 3) := by decide +kernel
theorem dX13_count_167 : decode cX13_count 167 = .ok (.ireturn, 1) := by decide +kernel
theorem dX13_count_168 : decode cX13_count 168 = .ok (.aload_n 0, 1) := by decide +kernel
theorem dX13_count_169 : decode cX13_count 169 = .ok (.getfield 190, 3) := by decide +kernel
theorem dX13_count_172 : decode cX13_count 172 = .ok (.ireturn, 1) := by decide +kernel
theorem dX13_count_173 : decode cX13_count 173 = .ok (.aload_n 0, 1) := by decide +kernel
theorem dX13_count_174 : decode cX13_count 174 = .ok (.getfield 80, 3) := by decide +kernel
theorem dX13_count_177 : decode cX13_count 177 = .ok (.iload_n 1, 1) := by decide +kernel
theorem dX13_count_178 : decode cX13_count 178 = .ok (.bipush 12, 2) := by decide +kernel
theorem dX13_count_180 : decode cX13_count 180 = .ok (.isub, 1) := by decide +kernel
theorem dX13_count_181 : decode cX13_count 181 = .ok (.iaload, 1) := by decide +kernel
theorem dX13_count_182 : decode cX13_count 182 = .ok (.ireturn, 1) := by decide +kernel
theorem dX13_count_183 : decode cX13_count 183 = .ok (.aload_n 0, 1) := by decide +kernel
theorem dX13_count_184 : decode cX13_count 184 = .ok (.iconst 1, 1) := by decide +kernel
theorem dX13_count_185 : decode cX13_count 185 = .ok (.invokevirtual 329, 3) := by decide +kernel
theorem dX13_count_188 : decode cX13_count 188 = .ok (.ireturn, 1) := by decide +kernel
theorem dX13_at_0 : decode cX13_at 0 = .ok (.aload_n 0, 1) := by decide +kernel
theorem dX13_at_1 : decode cX13_at 1 = .ok (.iconst 0, 1) := by decide +kernel
theorem dX13_at_2 : decode cX13_at 2 = .ok (.putfield 187, 3) := by decide +kernel
theorem dX13_at_5 : decode cX13_at 5 = .ok (.iload_n 1, 1) := by decide +kernel
theorem dX13_at_6 : decode cX13_at 6 = .ok (.i2l, 1) := by decide +kernel
theorem dX13_at_7 : decode cX13_at 7 = .ok (.lconst 0, 1) := by decide +kernel
theorem dX13_at_8 : decode cX13_at 8 = .ok (.ldc2_w 593, 3) := by decide +kernel
theorem dX13_at_11 : decode cX13_at 11 = .ok (.invokestatic 287, 3) := by decide +kernel
theorem dX13_at_14 : decode cX13_at 14 = .ok (.ifCond .eq 12, 3) := by decide +kernel
theorem dX13_at_17 : decode cX13_at 17 = .ok (.aload_n 0, 1) := by decide +kernel
theorem dX13_at_18 : decode cX13_at 18 = .ok (.getfield 76, 3) := by decide +kernel
theorem dX13_at_21 : decode cX13_at 21 = .ok (.iload_n 1, 1) := by decide +kernel
theorem dX13_at_22 : decode cX13_at 22 = .ok (.iaload, 1) := by decide +kernel
theorem dX13_at_23 : decode cX13_at 23 = .ok (.goto 8, 3) := by decide +kernel
theorem dX13_at_26 : decode cX13_at 26 = .ok (.aload_n 0, 1) := by decide +kernel
theorem dX13_at_27 : decode cX13_at 27 = .ok (.iconst 1, 1) := by decide +kernel
theorem dX13_at_28 : decode cX13_at 28 = .ok (.invokevirtual 329, 3) := by decide +kernel
theorem dX13_at_31 : decode cX13_at 31 = .ok (.ireturn, 1) := by decide +kernel
theorem dX13_register_0 : decode cX13_register 0 = .ok (.aload_n 0, 1) := by decide +kernel
theorem dX13_register_1 : decode cX13_register 1 = .ok (.iconst 0, 1) := by decide +kernel
theorem dX13_register_2 : decode cX13_register 2 = .ok (.putfield 187, 3) := by decide +kernel
theorem dX13_register_5 : decode cX13_register 5 = .ok (.iload_n 1, 1) := by decide +kernel
theorem dX13_register_6 : decode cX13_register 6 = .ok (.i2l, 1) := by decide +kernel
theorem dX13_register_7 : decode cX13_register 7 = .ok (.lconst 0, 1) := by decide +kernel
theorem dX13_register_8 : decode cX13_register 8 = .ok (.ldc2_w 595, 3) := by decide +kernel
theorem dX13_register_11 : decode cX13_register 11 = .ok (.invokestatic 287, 3) := by decide +kernel
theorem dX13_register_14 : decode cX13_register 14 = .ok (.ifCond .eq 16, 3) := by decide +kernel
theorem dX13_register_17 : decode cX13_register 17 = .ok (.aload_n 0, 1) := by decide +kernel
theorem dX13_register_18 : decode cX13_register 18 = .ok (.getfield 76, 3) := by decide +kernel
theorem dX13_register_21 : decode cX13_register 21 = .ok (.sipush 256, 3) := by decide +kernel
theorem dX13_register_24 : decode cX13_register 24 = .ok (.iload_n 1, 1) := by decide +kernel
theorem dX13_register_25 : decode cX13_register 25 = .ok (.iadd, 1) := by decide +kernel
theorem dX13_register_26 : decode cX13_register 26 = .ok (.iaload, 1) := by decide +kernel
theorem dX13_register_27 : decode cX13_register 27 = .ok (.goto 8, 3) := by decide +kernel
theorem dX13_register_30 : decode cX13_register 30 = .ok (.aload_n 0, 1) := by decide +kernel
theorem dX13_register_31 : decode cX13_register 31 = .ok (.iconst 1, 1) := by decide +kernel
theorem dX13_register_32 : decode cX13_register 32 = .ok (.invokevirtual 329, 3) := by decide +kernel
theorem dX13_register_35 : decode cX13_register 35 = .ok (.ireturn, 1) := by decide +kernel
theorem dX13_guard_0 : decode cX13_guard 0 = .ok (.aload_n 0, 1) := by decide +kernel
theorem dX13_guard_1 : decode cX13_guard 1 = .ok (.iconst 0, 1) := by decide +kernel
theorem dX13_guard_2 : decode cX13_guard 2 = .ok (.putfield 187, 3) := by decide +kernel
theorem dX13_guard_5 : decode cX13_guard 5 = .ok (.iload_n 1, 1) := by decide +kernel
theorem dX13_guard_6 : decode cX13_guard 6 = .ok (.i2l, 1) := by decide +kernel
theorem dX13_guard_7 : decode cX13_guard 7 = .ok (.lconst 1, 1) := by decide +kernel
theorem dX13_guard_8 : decode cX13_guard 8 = .ok (.ldc2_w 446, 3) := by decide +kernel
theorem dX13_guard_11 : decode cX13_guard 11 = .ok (.invokestatic 287, 3) := by decide +kernel
theorem dX13_guard_14 : decode cX13_guard 14 = .ok (.ifCond .eq 16, 3) := by decide +kernel
theorem dX13_guard_17 : decode cX13_guard 17 = .ok (.aload_n 0, 1) := by decide +kernel
theorem dX13_guard_18 : decode cX13_guard 18 = .ok (.getfield 76, 3) := by decide +kernel
theorem dX13_guard_21 : decode cX13_guard 21 = .ok (.sipush 267, 3) := by decide +kernel
theorem dX13_guard_24 : decode cX13_guard 24 = .ok (.iload_n 1, 1) := by decide +kernel
theorem dX13_guard_25 : decode cX13_guard 25 = .ok (.iadd, 1) := by decide +kernel
theorem dX13_guard_26 : decode cX13_guard 26 = .ok (.iaload, 1) := by decide +kernel
theorem dX13_guard_27 : decode cX13_guard 27 = .ok (.goto 8, 3) := by decide +kernel
theorem dX13_guard_30 : decode cX13_guard 30 = .ok (.aload_n 0, 1) := by decide +kernel
theorem dX13_guard_31 : decode cX13_guard 31 = .ok (.iconst 1, 1) := by decide +kernel
theorem dX13_guard_32 : decode cX13_guard 32 = .ok (.invokevirtual 329, 3) := by decide +kernel
theorem dX13_guard_35 : decode cX13_guard 35 = .ok (.ireturn, 1) := by decide +kernel
theorem dX13_done_0 : decode cX13_done 0 = .ok (.aload_n 0, 1) := by decide +kernel
theorem dX13_done_1 : decode cX13_done 1 = .ok (.iconst 0, 1) := by decide +kernel
theorem dX13_done_2 : decode cX13_done 2 = .ok (.putfield 187, 3) := by decide +kernel
theorem dX13_done_5 : decode cX13_done 5 = .ok (.iload_n 1, 1) := by decide +kernel
theorem dX13_done_6 : decode cX13_done 6 = .ok (.i2l, 1) := by decide +kernel
theorem dX13_done_7 : decode cX13_done 7 = .ok (.lconst 0, 1) := by decide +kernel
theorem dX13_done_8 : decode cX13_done 8 = .ok (.aload_n 0, 1) := by decide +kernel
theorem dX13_done_9 : decode cX13_done 9 = .ok (.getfield 345, 3) := by decide +kernel
theorem dX13_done_12 : decode cX13_done 12 = .ok (.iconst 1, 1) := by decide +kernel
theorem dX13_done_13 : decode cX13_done 13 = .ok (.isub, 1) := by decide +kernel
theorem dX13_done_14 : decode cX13_done 14 = .ok (.i2l, 1) := by decide +kernel
theorem dX13_done_15 : decode cX13_done 15 = .ok (.invokestatic 287, 3) := by decide +kernel
theorem dX13_done_18 : decode cX13_done 18 = .ok (.ifCond .eq 16, 3) := by decide +kernel
theorem dX13_done_21 : decode cX13_done 21 = .ok (.aload_n 0, 1) := by decide +kernel
theorem dX13_done_22 : decode cX13_done 22 = .ok (.getfield 76, 3) := by decide +kernel
theorem dX13_done_25 : decode cX13_done 25 = .ok (.sipush 354, 3) := by decide +kernel
theorem dX13_done_28 : decode cX13_done 28 = .ok (.iload_n 1, 1) := by decide +kernel
theorem dX13_done_29 : decode cX13_done 29 = .ok (.iadd, 1) := by decide +kernel
theorem dX13_done_30 : decode cX13_done 30 = .ok (.iaload, 1) := by decide +kernel
theorem dX13_done_31 : decode cX13_done 31 = .ok (.goto 8, 3) := by decide +kernel
theorem dX13_done_34 : decode cX13_done 34 = .ok (.aload_n 0, 1) := by decide +kernel
theorem dX13_done_35 : decode cX13_done 35 = .ok (.iconst 1, 1) := by decide +kernel
theorem dX13_done_36 : decode cX13_done 36 = .ok (.invokevirtual 329, 3) := by decide +kernel
theorem dX13_done_39 : decode cX13_done 39 = .ok (.ireturn, 1) := by decide +kernel
theorem dX13_trace_0 : decode cX13_trace 0 = .ok (.aload_n 0, 1) := by decide +kernel
theorem dX13_trace_1 : decode cX13_trace 1 = .ok (.iconst 0, 1) := by decide +kernel
theorem dX13_trace_2 : decode cX13_trace 2 = .ok (.putfield 187, 3) := by decide +kernel
theorem dX13_trace_5 : decode cX13_trace 5 = .ok (.iload_n 1, 1) := by decide +kernel
theorem dX13_trace_6 : decode cX13_trace 6 = .ok (.i2l, 1) := by decide +kernel
theorem dX13_trace_7 : decode cX13_trace 7 = .ok (.lconst 0, 1) := by decide +kernel
theorem dX13_trace_8 : decode cX13_trace 8 = .ok (.bipush 64, 2) := by decide +kernel
theorem dX13_trace_10 : decode cX13_trace 10 = .ok (.aload_n 0, 1) := by decide +kernel
theorem dX13_trace_11 : decode cX13_trace 11 = .ok (.getfield 76, 3) := by decide +kernel
theorem dX13_trace_14 : decode cX13_trace 14 = .ok (.sipush 279, 3) := by decide +kernel
theorem dX13_trace_17 : decode cX13_trace 17 = .ok (.iaload, 1) := by decide +kernel
theorem dX13_trace_18 : decode cX13_trace 18 = .ok (.invokestatic 219, 3) := by decide +kernel
theorem dX13_trace_21 : decode cX13_trace 21 = .ok (.iconst 1, 1) := by decide +kernel
theorem dX13_trace_22 : decode cX13_trace 22 = .ok (.isub, 1) := by decide +kernel
theorem dX13_trace_23 : decode cX13_trace 23 = .ok (.i2l, 1) := by decide +kernel
theorem dX13_trace_24 : decode cX13_trace 24 = .ok (.invokestatic 287, 3) := by decide +kernel
theorem dX13_trace_27 : decode cX13_trace 27 = .ok (.ifCond .eq 30, 3) := by decide +kernel
theorem dX13_trace_30 : decode cX13_trace 30 = .ok (.aload_n 0, 1) := by decide +kernel
theorem dX13_trace_31 : decode cX13_trace 31 = .ok (.getfield 76, 3) := by decide +kernel
theorem dX13_trace_34 : decode cX13_trace 34 = .ok (.sipush 290, 3) := by decide +kernel
theorem dX13_trace_37 : decode cX13_trace 37 = .ok (.aload_n 0, 1) := by decide +kernel
theorem dX13_trace_38 : decode cX13_trace 38 = .ok (.getfield 76, 3) := by decide +kernel
theorem dX13_trace_41 : decode cX13_trace 41 = .ok (.sipush 279, 3) := by decide +kernel
theorem dX13_trace_44 : decode cX13_trace 44 = .ok (.iaload, 1) := by decide +kernel
theorem dX13_trace_45 : decode cX13_trace 45 = .ok (.iconst 1, 1) := by decide +kernel
theorem dX13_trace_46 : decode cX13_trace 46 = .ok (.isub, 1) := by decide +kernel
theorem dX13_trace_47 : decode cX13_trace 47 = .ok (.iload_n 1, 1) := by decide +kernel
theorem dX13_trace_48 : decode cX13_trace 48 = .ok (.isub, 1) := by decide +kernel
theorem dX13_trace_49 : decode cX13_trace 49 = .ok (.bipush 64, 2) := by decide +kernel
theorem dX13_trace_51 : decode cX13_trace 51 = .ok (.irem, 1) := by decide +kernel
theorem dX13_trace_52 : decode cX13_trace 52 = .ok (.iadd, 1) := by decide +kernel
theorem dX13_trace_53 : decode cX13_trace 53 = .ok (.iaload, 1) := by decide +kernel
theorem dX13_trace_54 : decode cX13_trace 54 = .ok (.goto 8, 3) := by decide +kernel
theorem dX13_trace_57 : decode cX13_trace 57 = .ok (.aload_n 0, 1) := by decide +kernel
theorem dX13_trace_58 : decode cX13_trace 58 = .ok (.iconst 1, 1) := by decide +kernel
theorem dX13_trace_59 : decode cX13_trace 59 = .ok (.invokevirtual 329, 3) := by decide +kernel
theorem dX13_trace_62 : decode cX13_trace 62 = .ok (.ireturn, 1) := by decide +kernel
theorem dX13_why_0 : decode cX13_why 0 = .ok (.aload_n 0, 1) := by decide +kernel
theorem dX13_why_1 : decode cX13_why 1 = .ok (.iconst 0, 1) := by decide +kernel
theorem dX13_why_2 : decode cX13_why 2 = .ok (.putfield 187, 3) := by decide +kernel
theorem dX13_why_5 : decode cX13_why 5 = .ok (.aload_n 0, 1) := by decide +kernel
theorem dX13_why_6 : decode cX13_why 6 = .ok (.getfield 76, 3) := by decide +kernel
theorem dX13_why_9 : decode cX13_why 9 = .ok (.sipush 280, 3) := by decide +kernel
theorem dX13_why_12 : decode cX13_why 12 = .ok (.iaload, 1) := by decide +kernel
theorem dX13_why_13 : decode cX13_why 13 = .ok (.ifCond .eq 43, 3) := by decide +kernel
theorem dX13_why_16 : decode cX13_why 16 = .ok (.iload_n 1, 1) := by decide +kernel
theorem dX13_why_17 : decode cX13_why 17 = .ok (.i2l, 1) := by decide +kernel
theorem dX13_why_18 : decode cX13_why 18 = .ok (.lconst 0, 1) := by decide +kernel
theorem dX13_why_19 : decode cX13_why 19 = .ok (.ldc2_w 597, 3) := by decide +kernel
theorem dX13_why_22 : decode cX13_why 22 = .ok (.invokestatic 287, 3) := by decide +kernel
theorem dX13_why_25 : decode cX13_why 25 = .ok (.ifCond .eq 31, 3) := by decide +kernel
theorem dX13_why_28 : decode cX13_why 28 = .ok (.iload_n 2, 1) := by decide +kernel
theorem dX13_why_29 : decode cX13_why 29 = .ok (.i2l, 1) := by decide +kernel
theorem dX13_why_30 : decode cX13_why 30 = .ok (.lconst 0, 1) := by decide +kernel
theorem dX13_why_31 : decode cX13_why 31 = .ok (.ldc2_w 597, 3) := by decide +kernel
theorem dX13_why_34 : decode cX13_why 34 = .ok (.invokestatic 287, 3) := by decide +kernel
theorem dX13_why_37 : decode cX13_why 37 = .ok (.ifCond .eq 19, 3) := by decide +kernel
theorem dX13_why_40 : decode cX13_why 40 = .ok (.iload_n 1, 1) := by decide +kernel
theorem dX13_why_41 : decode cX13_why 41 = .ok (.iconst 2, 1) := by decide +kernel
theorem dX13_why_42 : decode cX13_why 42 = .ok (.if_icmp .ne 20, 3) := by decide +kernel
theorem dX13_why_45 : decode cX13_why 45 = .ok (.aload_n 0, 1) := by decide +kernel
theorem dX13_why_46 : decode cX13_why 46 = .ok (.getfield 76, 3) := by decide +kernel
theorem dX13_why_49 : decode cX13_why 49 = .ok (.sipush 289, 3) := by decide +kernel
theorem dX13_why_52 : decode cX13_why 52 = .ok (.iaload, 1) := by decide +kernel
theorem dX13_why_53 : decode cX13_why 53 = .ok (.ifCond .ne 9, 3) := by decide +kernel
theorem dX13_why_56 : decode cX13_why 56 = .ok (.aload_n 0, 1) := by decide +kernel
theorem dX13_why_57 : decode cX13_why 57 = .ok (.iconst 1, 1) := by decide +kernel
theorem dX13_why_58 : decode cX13_why 58 = .ok (.invokevirtual 329, 3) := by decide +kernel
theorem dX13_why_61 : decode cX13_why 61 = .ok (.ireturn, 1) := by decide +kernel
theorem dX13_why_62 : decode cX13_why 62 = .ok (.aload_n 0, 1) := by decide +kernel
theorem dX13_why_63 : decode cX13_why 63 = .ok (.getfield 76, 3) := by decide +kernel
theorem dX13_why_66 : decode cX13_why 66 = .ok (.sipush 280, 3) := by decide +kernel
theorem dX13_why_69 : decode cX13_why 69 = .ok (.iconst 3, 1) := by decide +kernel
theorem dX13_why_70 : decode cX13_why 70 = .ok (.iload_n 1, 1) := by decide +kernel
theorem dX13_why_71 : decode cX13_why 71 = .ok (.imul, 1) := by decide +kernel
theorem dX13_why_72 : decode cX13_why 72 = .ok (.iadd, 1) := by decide +kernel
theorem dX13_why_73 : decode cX13_why 73 = .ok (.iload_n 2, 1) := by decide +kernel
theorem dX13_why_74 : decode cX13_why 74 = .ok (.iadd, 1) := by decide +kernel
theorem dX13_why_75 : decode cX13_why 75 = .ok (.iaload, 1) := by decide +kernel
theorem dX13_why_76 : decode cX13_why 76 = .ok (.ireturn, 1) := by decide +kernel
theorem dX13_isField_0 : decode cX13_isField 0 = .ok (.iload_n 2, 1) := by decide +kernel
theorem dX13_isField_1 : decode cX13_isField 1 = .ok (.i2l, 1) := by decide +kernel
theorem dX13_isField_2 : decode cX13_isField 2 = .ok (.lconst 1, 1) := by decide +kernel
theorem dX13_isField_3 : decode cX13_isField 3 = .ok (.iload_n 3, 1) := by decide +kernel
theorem dX13_isField_4 : decode cX13_isField 4 = .ok (.i2l, 1) := by decide +kernel
theorem dX13_isField_5 : decode cX13_isField 5 = .ok (.invokestatic 287, 3) := by decide +kernel
theorem dX13_isField_8 : decode cX13_isField 8 = .ok (.ifCond .eq 15, 3) := by decide +kernel
theorem dX13_isField_11 : decode cX13_isField 11 = .ok (.iload_n 1, 1) := by decide +kernel
theorem dX13_isField_12 : decode cX13_isField 12 = .ok (.iload_n 2, 1) := by decide +kernel
theorem dX13_isField_13 : decode cX13_isField 13 = .ok (.invokestatic 427, 3) := by decide +kernel
theorem dX13_isField_16 : decode cX13_isField 16 = .ok (.ifCond .eq 7, 3) := by decide +kernel
theorem dX13_isField_19 : decode cX13_isField 19 = .ok (.iconst 1, 1) := by decide +kernel
theorem dX13_isField_20 : decode cX13_isField 20 = .ok (.goto 4, 3) := by decide +kernel
theorem dX13_isField_23 : decode cX13_isField 23 = .ok (.iconst 0, 1) := by decide +kernel
theorem dX13_isField_24 : decode cX13_isField 24 = .ok (.ireturn, 1) := by decide +kernel
theorem dX13_isFlaw_0 : decode cX13_isFlaw 0 = .ok (.aload_n 0, 1) := by decide +kernel
theorem dX13_isFlaw_1 : decode cX13_isFlaw 1 = .ok (.iload_n 1, 1) := by decide +kernel
theorem dX13_isFlaw_2 : decode cX13_isFlaw 2 = .ok (.invokevirtual 374, 3) := by decide +kernel
theorem dX13_isFlaw_5 : decode cX13_isFlaw 5 = .ok (.istore 4, 2) := by decide +kernel
theorem dX13_isFlaw_7 : decode cX13_isFlaw 7 = .ok (.iload_n 3, 1) := by decide +kernel
theorem dX13_isFlaw_8 : decode cX13_isFlaw 8 = .ok (.ifCond .ne 34, 3) := by decide +kernel
theorem dX13_isFlaw_11 : decode cX13_isFlaw 11 = .ok (.iload 4, 2) := by decide +kernel
theorem dX13_isFlaw_13 : decode cX13_isFlaw 13 = .ok (.bipush 9, 2) := by decide +kernel
theorem dX13_isFlaw_15 : decode cX13_isFlaw 15 = .ok (.if_icmp .le 7, 3) := by decide +kernel
theorem dX13_isFlaw_18 : decode cX13_isFlaw 18 = .ok (.iconst 1, 1) := by decide +kernel
theorem dX13_isFlaw_19 : decode cX13_isFlaw 19 = .ok (.goto 4, 3) := by decide +kernel
theorem dX13_isFlaw_22 : decode cX13_isFlaw 22 = .ok (.iconst 0, 1) := by decide +kernel
theorem dX13_isFlaw_23 : decode cX13_isFlaw 23 = .ok (.iload_n 1, 1) := by decide +kernel
theorem dX13_isFlaw_24 : decode cX13_isFlaw 24 = .ok (.iload_n 2, 1) := by decide +kernel
theorem dX13_isFlaw_25 : decode cX13_isFlaw 25 = .ok (.if_icmp .ne 7, 3) := by decide +kernel
theorem dX13_isFlaw_28 : decode cX13_isFlaw 28 = .ok (.iconst 1, 1) := by decide +kernel
theorem dX13_isFlaw_29 : decode cX13_isFlaw 29 = .ok (.goto 4, 3) := by decide +kernel
theorem dX13_isFlaw_32 : decode cX13_isFlaw 32 = .ok (.iconst 0, 1) := by decide +kernel
theorem dX13_isFlaw_33 : decode cX13_isFlaw 33 = .ok (.if_icmp .eq 7, 3) := by decide +kernel
theorem dX13_isFlaw_36 : decode cX13_isFlaw 36 = .ok (.iconst 1, 1) := by decide +kernel
theorem dX13_isFlaw_37 : decode cX13_isFlaw 37 = .ok (.goto 4, 3) := by decide +kernel
theorem dX13_isFlaw_40 : decode cX13_isFlaw 40 = .ok (.iconst 0, 1) := by decide +kernel
theorem dX13_isFlaw_41 : decode cX13_isFlaw 41 = .ok (.ireturn, 1) := by decide +kernel
theorem dX13_isFlaw_42 : decode cX13_isFlaw 42 = .ok (.iload_n 1, 1) := by decide +kernel
theorem dX13_isFlaw_43 : decode cX13_isFlaw 43 = .ok (.iconst 2, 1) := by decide +kernel
theorem dX13_isFlaw_44 : decode cX13_isFlaw 44 = .ok (.irem, 1) := by decide +kernel
theorem dX13_isFlaw_45 : decode cX13_isFlaw 45 = .ok (.iconst 1, 1) := by decide +kernel
theorem dX13_isFlaw_46 : decode cX13_isFlaw 46 = .ok (.if_icmp .ne 16, 3) := by decide +kernel
theorem dX13_isFlaw_49 : decode cX13_isFlaw 49 = .ok (.iload 4, 2) := by decide +kernel
theorem dX13_isFlaw_51 : decode cX13_isFlaw 51 = .ok (.bipush 9, 2) := by decide +kernel
theorem dX13_isFlaw_53 : decode cX13_isFlaw 53 = .ok (.if_icmp .le 7, 3) := by decide +kernel
theorem dX13_isFlaw_56 : decode cX13_isFlaw 56 = .ok (.iconst 1, 1) := by decide +kernel
theorem dX13_isFlaw_57 : decode cX13_isFlaw 57 = .ok (.goto 4, 3) := by decide +kernel
theorem dX13_isFlaw_60 : decode cX13_isFlaw 60 = .ok (.iconst 0, 1) := by decide +kernel
theorem dX13_isFlaw_61 : decode cX13_isFlaw 61 = .ok (.ireturn, 1) := by decide +kernel
theorem dX13_isFlaw_62 : decode cX13_isFlaw 62 = .ok (.iload_n 1, 1) := by decide +kernel
theorem dX13_isFlaw_63 : decode cX13_isFlaw 63 = .ok (.iload_n 2, 1) := by decide +kernel
theorem dX13_isFlaw_64 : decode cX13_isFlaw 64 = .ok (.iconst 1, 1) := by decide +kernel
theorem dX13_isFlaw_65 : decode cX13_isFlaw 65 = .ok (.isub, 1) := by decide +kernel
theorem dX13_isFlaw_66 : decode cX13_isFlaw 66 = .ok (.if_icmp .ne 18, 3) := by decide +kernel
theorem dX13_isFlaw_69 : decode cX13_isFlaw 69 = .ok (.iload 4, 2) := by decide +kernel
theorem dX13_isFlaw_71 : decode cX13_isFlaw 71 = .ok (.bipush 10, 2) := by decide +kernel
theorem dX13_isFlaw_73 : decode cX13_isFlaw 73 = .ok (.if_icmp .ge 7, 3) := by decide +kernel
theorem dX13_isFlaw_76 : decode cX13_isFlaw 76 = .ok (.iconst 1, 1) := by decide +kernel
theorem dX13_isFlaw_77 : decode cX13_isFlaw 77 = .ok (.goto 19, 3) := by decide +kernel
theorem dX13_isFlaw_80 : decode cX13_isFlaw 80 = .ok (.iconst 0, 1) := by decide +kernel
theorem dX13_isFlaw_81 : decode cX13_isFlaw 81 = .ok (.goto 15, 3) := by decide +kernel
theorem dX13_isFlaw_84 : decode cX13_isFlaw 84 = .ok (.iload 4, 2) := by decide +kernel
theorem dX13_isFlaw_86 : decode cX13_isFlaw 86 = .ok (.bipush 15, 2) := by decide +kernel
theorem dX13_isFlaw_88 : decode cX13_isFlaw 88 = .ok (.if_icmp .eq 7, 3) := by decide +kernel
theorem dX13_isFlaw_91 : decode cX13_isFlaw 91 = .ok (.iconst 1, 1) := by decide +kernel
theorem dX13_isFlaw_92 : decode cX13_isFlaw 92 = .ok (.goto 4, 3) := by decide +kernel
theorem dX13_isFlaw_95 : decode cX13_isFlaw 95 = .ok (.iconst 0, 1) := by decide +kernel
theorem dX13_isFlaw_96 : decode cX13_isFlaw 96 = .ok (.ireturn, 1) := by decide +kernel
theorem dX13_flawNumber_0 : decode cX13_flawNumber 0 = .ok (.iconst 0, 1) := by decide +kernel
theorem dX13_flawNumber_1 : decode cX13_flawNumber 1 = .ok (.istore 5, 2) := by decide +kernel
theorem dX13_flawNumber_3 : decode cX13_flawNumber 3 = .ok (.iconst 2, 1) := by decide +kernel
theorem dX13_flawNumber_4 : decode cX13_flawNumber 4 = .ok (.iload_n 1, 1) := by decide +kernel
theorem dX13_flawNumber_5 : decode cX13_flawNumber 5 = .ok (.iload_n 2, 1) := by decide +kernel
theorem dX13_flawNumber_6 : decode cX13_flawNumber 6 = .ok (.iadd, 1) := by decide +kernel
theorem dX13_flawNumber_7 : decode cX13_flawNumber 7 = .ok (.imul, 1) := by decide +kernel
theorem dX13_flawNumber_8 : decode cX13_flawNumber 8 = .ok (.iconst 1, 1) := by decide +kernel
theorem dX13_flawNumber_9 : decode cX13_flawNumber 9 = .ok (.isub, 1) := by decide +kernel
theorem dX13_flawNumber_10 : decode cX13_flawNumber 10 = .ok (.istore 6, 2) := by decide +kernel
theorem dX13_flawNumber_12 : decode cX13_flawNumber 12 = .ok (.iconst 2, 1) := by decide +kernel
theorem dX13_flawNumber_13 : decode cX13_flawNumber 13 = .ok (.iload_n 1, 1) := by decide +kernel
theorem dX13_flawNumber_14 : decode cX13_flawNumber 14 = .ok (.imul, 1) := by decide +kernel
theorem dX13_flawNumber_15 : decode cX13_flawNumber 15 = .ok (.istore 7, 2) := by decide +kernel
theorem dX13_flawNumber_17 : decode cX13_flawNumber 17 = .ok (.iload 7, 2) := by decide +kernel
theorem dX13_flawNumber_19 : decode cX13_flawNumber 19 = .ok (.iload 6, 2) := by decide +kernel
theorem dX13_flawNumber_21 : decode cX13_flawNumber 21 = .ok (.if_icmp .gt 37, 3) := by decide +kernel
theorem dX13_flawNumber_24 : decode cX13_flawNumber 24 = .ok (.aload_n 0, 1) := by decide +kernel
theorem dX13_flawNumber_25 : decode cX13_flawNumber 25 = .ok (.iload 7, 2) := by decide +kernel
theorem dX13_flawNumber_27 : decode cX13_flawNumber 27 = .ok (.iload 6, 2) := by decide +kernel
theorem dX13_flawNumber_29 : decode cX13_flawNumber 29 = .ok (.iload_n 3, 1) := by decide +kernel
theorem dX13_flawNumber_30 : decode cX13_flawNumber 30 = .ok (.invokevirtual 599, 3) := by decide +kernel
theorem dX13_flawNumber_33 : decode cX13_flawNumber 33 = .ok (.ifCond .ne 6, 3) := by decide +kernel
theorem dX13_flawNumber_36 : decode cX13_flawNumber 36 = .ok (.goto 16, 3) := by decide +kernel
theorem dX13_flawNumber_39 : decode cX13_flawNumber 39 = .ok (.iload 5, 2) := by decide +kernel
theorem dX13_flawNumber_41 : decode cX13_flawNumber 41 = .ok (.iload 4, 2) := by decide +kernel
theorem dX13_flawNumber_43 : decode cX13_flawNumber 43 = .ok (.if_icmp .ne 6, 3) := by decide +kernel
theorem dX13_flawNumber_46 : decode cX13_flawNumber 46 = .ok (.iload 7, 2) := by decide +kernel
theorem dX13_flawNumber_48 : decode cX13_flawNumber 48 = .ok (.ireturn, 1) := by decide +kernel
theorem dX13_flawNumber_49 : decode cX13_flawNumber 49 = .ok (.iinc 5 1, 3) := by decide +kernel
theorem dX13_flawNumber_52 : decode cX13_flawNumber 52 = .ok (.iinc 7 1, 3) := by decide +kernel
theorem dX13_flawNumber_55 : decode cX13_flawNumber 55 = .ok (.goto (-38), 3) := by decide +kernel
theorem dX13_flawNumber_58 : decode cX13_flawNumber 58 = .ok (.iload 4, 2) := by decide +kernel
theorem dX13_flawNumber_60 : decode cX13_flawNumber 60 = .ok (.iconst (-1), 1) := by decide +kernel
theorem dX13_flawNumber_61 : decode cX13_flawNumber 61 = .ok (.if_icmp .ne 8, 3) := by decide +kernel
theorem dX13_flawNumber_64 : decode cX13_flawNumber 64 = .ok (.iload 5, 2) := by decide +kernel
theorem dX13_flawNumber_66 : decode cX13_flawNumber 66 = .ok (.goto 4, 3) := by decide +kernel
theorem dX13_flawNumber_69 : decode cX13_flawNumber 69 = .ok (.iconst (-1), 1) := by decide +kernel
theorem dX13_flawNumber_70 : decode cX13_flawNumber 70 = .ok (.ireturn, 1) := by decide +kernel
theorem dX13_flaws_0 : decode cX13_flaws 0 = .ok (.aload_n 0, 1) := by decide +kernel
theorem dX13_flaws_1 : decode cX13_flaws 1 = .ok (.iconst 0, 1) := by decide +kernel
theorem dX13_flaws_2 : decode cX13_flaws 2 = .ok (.putfield 187, 3) := by decide +kernel
theorem dX13_flaws_5 : decode cX13_flaws 5 = .ok (.aload_n 0, 1) := by decide +kernel
theorem dX13_flaws_6 : decode cX13_flaws 6 = .ok (.iload_n 1, 1) := by decide +kernel
theorem dX13_flaws_7 : decode cX13_flaws 7 = .ok (.iload_n 2, 1) := by decide +kernel
theorem dX13_flaws_8 : decode cX13_flaws 8 = .ok (.bipush 64, 2) := by decide +kernel
theorem dX13_flaws_10 : decode cX13_flaws 10 = .ok (.invokevirtual 603, 3) := by decide +kernel
theorem dX13_flaws_13 : decode cX13_flaws 13 = .ok (.ifCond .ne 9, 3) := by decide +kernel
theorem dX13_flaws_16 : decode cX13_flaws 16 = .ok (.aload_n 0, 1) := by decide +kernel
theorem dX13_flaws_17 : decode cX13_flaws 17 = .ok (.iconst 2, 1) := by decide +kernel
theorem dX13_flaws_18 : decode cX13_flaws 18 = .ok (.invokevirtual 329, 3) := by decide +kernel
theorem dX13_flaws_21 : decode cX13_flaws 21 = .ok (.ireturn, 1) := by decide +kernel
theorem dX13_flaws_22 : decode cX13_flaws 22 = .ok (.aload_n 0, 1) := by decide +kernel
theorem dX13_flaws_23 : decode cX13_flaws 23 = .ok (.iload_n 1, 1) := by decide +kernel
theorem dX13_flaws_24 : decode cX13_flaws 24 = .ok (.iload_n 2, 1) := by decide +kernel
theorem dX13_flaws_25 : decode cX13_flaws 25 = .ok (.iload_n 3, 1) := by decide +kernel
theorem dX13_flaws_26 : decode cX13_flaws 26 = .ok (.iload 4, 2) := by decide +kernel
theorem dX13_flaws_28 : decode cX13_flaws 28 = .ok (.invokevirtual 606, 3) := by decide +kernel
theorem dX13_flaws_31 : decode cX13_flaws 31 = .ok (.istore 5, 2) := by decide +kernel
theorem dX13_flaws_33 : decode cX13_flaws 33 = .ok (.iload 5, 2) := by decide +kernel
theorem dX13_flaws_35 : decode cX13_flaws 35 = .ok (.iconst (-1), 1) := by decide +kernel
theorem dX13_flaws_36 : decode cX13_flaws 36 = .ok (.if_icmp .ne 11, 3) := by decide +kernel
theorem dX13_flaws_39 : decode cX13_flaws 39 = .ok (.aload_n 0, 1) := by decide +kernel
theorem dX13_flaws_40 : decode cX13_flaws 40 = .ok (.iconst 1, 1) := by decide +kernel
theorem dX13_flaws_41 : decode cX13_flaws 41 = .ok (.invokevirtual 329, 3) := by decide +kernel
theorem dX13_flaws_44 : decode cX13_flaws 44 = .ok (.goto 5, 3) := by decide +kernel
theorem dX13_flaws_47 : decode cX13_flaws 47 = .ok (.iload 5, 2) := by decide +kernel
theorem dX13_flaws_49 : decode cX13_flaws 49 = .ok (.ireturn, 1) := by decide +kernel
theorem dX13_loadZoned_0 : decode cX13_loadZoned 0 = .ok (.aload_n 1, 1) := by decide +kernel
theorem dX13_loadZoned_1 : decode cX13_loadZoned 1 = .ok (.invokestatic 370, 3) := by decide +kernel
theorem dX13_loadZoned_4 : decode cX13_loadZoned 4 = .ok (.iconst 0, 1) := by decide +kernel
theorem dX13_loadZoned_5 : decode cX13_loadZoned 5 = .ok (.istore 4, 2) := by decide +kernel
theorem dX13_loadZoned_7 : decode cX13_loadZoned 7 = .ok (.iload 4, 2) := by decide +kernel
theorem dX13_loadZoned_9 : decode cX13_loadZoned 9 = .ok (.iload_n 3, 1) := by decide +kernel
theorem dX13_loadZoned_10 : decode cX13_loadZoned 10 = .ok (.if_icmp .ge 31, 3) := by decide +kernel
theorem dX13_loadZoned_13 : decode cX13_loadZoned 13 = .ok (.aload_n 1, 1) := by decide +kernel
theorem dX13_loadZoned_14 : decode cX13_loadZoned 14 = .ok (.iload 4, 2) := by decide +kernel
theorem dX13_loadZoned_16 : decode cX13_loadZoned 16 = .ok (.aload_n 0, 1) := by decide +kernel
theorem dX13_loadZoned_17 : decode cX13_loadZoned 17 = .ok (.getfield 76, 3) := by decide +kernel
theorem dX13_loadZoned_20 : decode cX13_loadZoned 20 = .ok (.iload_n 2, 1) := by decide +kernel
theorem dX13_loadZoned_21 : decode cX13_loadZoned 21 = .ok (.iload_n 3, 1) := by decide +kernel
theorem dX13_loadZoned_22 : decode cX13_loadZoned 22 = .ok (.iadd, 1) := by decide +kernel
theorem dX13_loadZoned_23 : decode cX13_loadZoned 23 = .ok (.iconst 1, 1) := by decide +kernel
theorem dX13_loadZoned_24 : decode cX13_loadZoned 24 = .ok (.isub, 1) := by decide +kernel
theorem dX13_loadZoned_25 : decode cX13_loadZoned 25 = .ok (.iload 4, 2) := by decide +kernel
theorem dX13_loadZoned_27 : decode cX13_loadZoned 27 = .ok (.isub, 1) := by decide +kernel
theorem dX13_loadZoned_28 : decode cX13_loadZoned 28 = .ok (.iaload, 1) := by decide +kernel
theorem dX13_loadZoned_29 : decode cX13_loadZoned 29 = .ok (.bipush 15, 2) := by decide +kernel
theorem dX13_loadZoned_31 : decode cX13_loadZoned 31 = .ok (.iand, 1) := by decide +kernel
theorem dX13_loadZoned_32 : decode cX13_loadZoned 32 = .ok (.invokestatic 377, 3) := by decide +kernel
theorem dX13_loadZoned_35 : decode cX13_loadZoned 35 = .ok (.iinc 4 1, 3) := by decide +kernel
theorem dX13_loadZoned_38 : decode cX13_loadZoned 38 = .ok (.goto (-31), 3) := by decide +kernel
theorem dX13_loadZoned_41 : decode cX13_loadZoned 41 = .ok (.return_, 1) := by decide +kernel
theorem dX13_number_0 : decode cX13_number 0 = .ok (.aload_n 0, 1) := by decide +kernel
theorem dX13_number_1 : decode cX13_number 1 = .ok (.iconst 0, 1) := by decide +kernel
theorem dX13_number_2 : decode cX13_number 2 = .ok (.putfield 187, 3) := by decide +kernel
theorem dX13_number_5 : decode cX13_number 5 = .ok (.aload_n 0, 1) := by decide +kernel
theorem dX13_number_6 : decode cX13_number 6 = .ok (.iload_n 1, 1) := by decide +kernel
theorem dX13_number_7 : decode cX13_number 7 = .ok (.iload_n 2, 1) := by decide +kernel
theorem dX13_number_8 : decode cX13_number 8 = .ok (.bipush 16, 2) := by decide +kernel
theorem dX13_number_10 : decode cX13_number 10 = .ok (.invokevirtual 603, 3) := by decide +kernel
theorem dX13_number_13 : decode cX13_number 13 = .ok (.ifCond .ne 10, 3) := by decide +kernel
theorem dX13_number_16 : decode cX13_number 16 = .ok (.aload_n 0, 1) := by decide +kernel
theorem dX13_number_17 : decode cX13_number 17 = .ok (.iconst 2, 1) := by decide +kernel
theorem dX13_number_18 : decode cX13_number 18 = .ok (.invokevirtual 329, 3) := by decide +kernel
theorem dX13_number_21 : decode cX13_number 21 = .ok (.i2l, 1) := by decide +kernel
theorem dX13_number_22 : decode cX13_number 22 = .ok (.lreturn, 1) := by decide +kernel
theorem dX13_number_23 : decode cX13_number 23 = .ok (.aload_n 0, 1) := by decide +kernel
theorem dX13_number_24 : decode cX13_number 24 = .ok (.iload_n 1, 1) := by decide +kernel
theorem dX13_number_25 : decode cX13_number 25 = .ok (.iload_n 2, 1) := by decide +kernel
theorem dX13_number_26 : decode cX13_number 26 = .ok (.iload_n 3, 1) := by decide +kernel
theorem dX13_number_27 : decode cX13_number 27 = .ok (.iconst (-1), 1) := by decide +kernel
theorem dX13_number_28 : decode cX13_number 28 = .ok (.invokevirtual 606, 3) := by decide +kernel
theorem dX13_number_31 : decode cX13_number 31 = .ok (.ifCond .le 10, 3) := by decide +kernel
theorem dX13_number_34 : decode cX13_number 34 = .ok (.aload_n 0, 1) := by decide +kernel
theorem dX13_number_35 : decode cX13_number 35 = .ok (.iconst 1, 1) := by decide +kernel
theorem dX13_number_36 : decode cX13_number 36 = .ok (.invokevirtual 329, 3) := by decide +kernel
theorem dX13_number_39 : decode cX13_number 39 = .ok (.i2l, 1) := by decide +kernel
theorem dX13_number_40 : decode cX13_number 40 = .ok (.lreturn, 1) := by decide +kernel
theorem dX13_number_41 : decode cX13_number 41 = .ok (.iload_n 3, 1) := by decide +kernel
theorem dX13_number_42 : decode cX13_number 42 = .ok (.ifCond .eq 16, 3) := by decide +kernel
theorem dX13_number_45 : decode cX13_number 45 = .ok (.aload_n 0, 1) := by decide +kernel
theorem dX13_number_46 : decode cX13_number 46 = .ok (.aload_n 0, 1) := by decide +kernel
theorem dX13_number_47 : decode cX13_number 47 = .ok (.getfield 126, 3) := by decide +kernel
theorem dX13_number_50 : decode cX13_number 50 = .ok (.iload_n 1, 1) := by decide +kernel
theorem dX13_number_51 : decode cX13_number 51 = .ok (.iload_n 2, 1) := by decide +kernel
theorem dX13_number_52 : decode cX13_number 52 = .ok (.invokevirtual 610, 3) := by decide +kernel
theorem dX13_number_55 : decode cX13_number 55 = .ok (.goto 13, 3) := by decide +kernel
theorem dX13_number_58 : decode cX13_number 58 = .ok (.aload_n 0, 1) := by decide +kernel
theorem dX13_number_59 : decode cX13_number 59 = .ok (.aload_n 0, 1) := by decide +kernel
theorem dX13_number_60 : decode cX13_number 60 = .ok (.getfield 126, 3) := by decide +kernel
theorem dX13_number_63 : decode cX13_number 63 = .ok (.iload_n 1, 1) := by decide +kernel
theorem dX13_number_64 : decode cX13_number 64 = .ok (.iload_n 2, 1) := by decide +kernel
theorem dX13_number_65 : decode cX13_number 65 = .ok (.invokevirtual 478, 3) := by decide +kernel
theorem dX13_number_68 : decode cX13_number 68 = .ok (.aload_n 0, 1) := by decide +kernel
theorem dX13_number_69 : decode cX13_number 69 = .ok (.getfield 126, 3) := by decide +kernel
theorem dX13_number_72 : decode cX13_number 72 = .ok (.invokestatic 384, 3) := by decide +kernel
theorem dX13_number_75 : decode cX13_number 75 = .ok (.bipush 18, 2) := by decide +kernel
theorem dX13_number_77 : decode cX13_number 77 = .ok (.if_icmp .le 10, 3) := by decide +kernel
theorem dX13_number_80 : decode cX13_number 80 = .ok (.aload_n 0, 1) := by decide +kernel
theorem dX13_number_81 : decode cX13_number 81 = .ok (.iconst 3, 1) := by decide +kernel
theorem dX13_number_82 : decode cX13_number 82 = .ok (.invokevirtual 329, 3) := by decide +kernel
theorem dX13_number_85 : decode cX13_number 85 = .ok (.i2l, 1) := by decide +kernel
theorem dX13_number_86 : decode cX13_number 86 = .ok (.lreturn, 1) := by decide +kernel
theorem dX13_number_87 : decode cX13_number 87 = .ok (.aload_n 0, 1) := by decide +kernel
theorem dX13_number_88 : decode cX13_number 88 = .ok (.getfield 126, 3) := by decide +kernel
theorem dX13_number_91 : decode cX13_number 91 = .ok (.iconst 2, 1) := by decide +kernel
theorem dX13_number_92 : decode cX13_number 92 = .ok (.laload, 1) := by decide +kernel
theorem dX13_number_93 : decode cX13_number 93 = .ok (.ldc2_w 368, 3) := by decide +kernel
theorem dX13_number_96 : decode cX13_number 96 = .ok (.lmul, 1) := by decide +kernel
theorem dX13_number_97 : decode cX13_number 97 = .ok (.aload_n 0, 1) := by decide +kernel
theorem dX13_number_98 : decode cX13_number 98 = .ok (.getfield 126, 3) := by decide +kernel
theorem dX13_number_101 : decode cX13_number 101 = .ok (.iconst 1, 1) := by decide +kernel
theorem dX13_number_102 : decode cX13_number 102 = .ok (.laload, 1) := by decide +kernel
theorem dX13_number_103 : decode cX13_number 103 = .ok (.ladd, 1) := by decide +kernel
theorem dX13_number_104 : decode cX13_number 104 = .ok (.ldc2_w 368, 3) := by decide +kernel
theorem dX13_number_107 : decode cX13_number 107 = .ok (.lmul, 1) := by decide +kernel
theorem dX13_number_108 : decode cX13_number 108 = .ok (.aload_n 0, 1) := by decide +kernel
theorem dX13_number_109 : decode cX13_number 109 = .ok (.getfield 126, 3) := by decide +kernel
theorem dX13_number_112 : decode cX13_number 112 = .ok (.iconst 0, 1) := by decide +kernel
theorem dX13_number_113 : decode cX13_number 113 = .ok (.laload, 1) := by decide +kernel
theorem dX13_number_114 : decode cX13_number 114 = .ok (.ladd, 1) := by decide +kernel
theorem dX13_number_115 : decode cX13_number 115 = .ok (.lstore 4, 2) := by decide +kernel
theorem dX13_number_117 : decode cX13_number 117 = .ok (.iload_n 3, 1) := by decide +kernel
theorem dX13_number_118 : decode cX13_number 118 = .ok (.ifCond .eq 18, 3) := by decide +kernel
theorem dX13_number_121 : decode cX13_number 121 = .ok (.aload_n 0, 1) := by decide +kernel
theorem dX13_number_122 : decode cX13_number 122 = .ok (.getfield 76, 3) := by decide +kernel
theorem dX13_number_125 : decode cX13_number 125 = .ok (.iload_n 1, 1) := by decide +kernel
theorem dX13_number_126 : decode cX13_number 126 = .ok (.iload_n 2, 1) := by decide +kernel
theorem dX13_number_127 : decode cX13_number 127 = .ok (.iadd, 1) := by decide +kernel
theorem dX13_number_128 : decode cX13_number 128 = .ok (.iconst 1, 1) := by decide +kernel
theorem dX13_number_129 : decode cX13_number 129 = .ok (.isub, 1) := by decide +kernel
theorem dX13_number_130 : decode cX13_number 130 = .ok (.iaload, 1) := by decide +kernel
theorem dX13_number_131 : decode cX13_number 131 = .ok (.iconst 4, 1) := by decide +kernel
theorem dX13_number_132 : decode cX13_number 132 = .ok (.ishr, 1) := by decide +kernel
theorem dX13_number_133 : decode cX13_number 133 = .ok (.goto 9, 3) := by decide +kernel
theorem dX13_number_136 : decode cX13_number 136 = .ok (.aload_n 0, 1) := by decide +kernel
theorem dX13_number_137 : decode cX13_number 137 = .ok (.iload_n 1, 1) := by decide +kernel
theorem dX13_number_138 : decode cX13_number 138 = .ok (.iload_n 2, 1) := by decide +kernel
theorem dX13_number_139 : decode cX13_number 139 = .ok (.invokevirtual 472, 3) := by decide +kernel
theorem dX13_number_142 : decode cX13_number 142 = .ok (.invokestatic 475, 3) := by decide +kernel
theorem dX13_number_145 : decode cX13_number 145 = .ok (.ifCond .eq 9, 3) := by decide +kernel
theorem dX13_number_148 : decode cX13_number 148 = .ok (.lload 4, 2) := by decide +kernel
theorem dX13_number_150 : decode cX13_number 150 = .ok (.lneg, 1) := by decide +kernel
theorem dX13_number_151 : decode cX13_number 151 = .ok (.goto 5, 3) := by decide +kernel
theorem dX13_number_154 : decode cX13_number 154 = .ok (.lload 4, 2) := by decide +kernel
theorem dX13_number_156 : decode cX13_number 156 = .ok (.lreturn, 1) := by decide +kernel
theorem dX13_need_0 : decode cX13_need 0 = .ok (.aload_n 0, 1) := by decide +kernel
theorem dX13_need_1 : decode cX13_need 1 = .ok (.iconst 0, 1) := by decide +kernel
theorem dX13_need_2 : decode cX13_need 2 = .ok (.putfield 187, 3) := by decide +kernel
theorem dX13_need_5 : decode cX13_need 5 = .ok (.iload_n 1, 1) := by decide +kernel
theorem dX13_need_6 : decode cX13_need 6 = .ok (.i2l, 1) := by decide +kernel
theorem dX13_need_7 : decode cX13_need 7 = .ok (.lconst 0, 1) := by decide +kernel
theorem dX13_need_8 : decode cX13_need 8 = .ok (.ldc2_w 597, 3) := by decide +kernel
theorem dX13_need_11 : decode cX13_need 11 = .ok (.invokestatic 287, 3) := by decide +kernel
theorem dX13_need_14 : decode cX13_need 14 = .ok (.ifCond .eq 27, 3) := by decide +kernel
theorem dX13_need_17 : decode cX13_need 17 = .ok (.aload_n 0, 1) := by decide +kernel
theorem dX13_need_18 : decode cX13_need 18 = .ok (.iload_n 2, 1) := by decide +kernel
theorem dX13_need_19 : decode cX13_need 19 = .ok (.iload_n 3, 1) := by decide +kernel
theorem dX13_need_20 : decode cX13_need 20 = .ok (.bipush 16, 2) := by decide +kernel
theorem dX13_need_22 : decode cX13_need 22 = .ok (.invokevirtual 603, 3) := by decide +kernel
theorem dX13_need_25 : decode cX13_need 25 = .ok (.ifCond .eq 16, 3) := by decide +kernel
theorem dX13_need_28 : decode cX13_need 28 = .ok (.aload_n 0, 1) := by decide +kernel
theorem dX13_need_29 : decode cX13_need 29 = .ok (.iload 4, 2) := by decide +kernel
theorem dX13_need_31 : decode cX13_need 31 = .ok (.iload 5, 2) := by decide +kernel
theorem dX13_need_33 : decode cX13_need 33 = .ok (.bipush 16, 2) := by decide +kernel
theorem dX13_need_35 : decode cX13_need 35 = .ok (.invokevirtual 603, 3) := by decide +kernel
theorem dX13_need_38 : decode cX13_need 38 = .ok (.ifCond .ne 9, 3) := by decide +kernel
theorem dX13_need_41 : decode cX13_need 41 = .ok (.aload_n 0, 1) := by decide +kernel
theorem dX13_need_42 : decode cX13_need 42 = .ok (.iconst 2, 1) := by decide +kernel
theorem dX13_need_43 : decode cX13_need 43 = .ok (.invokevirtual 329, 3) := by decide +kernel
theorem dX13_need_46 : decode cX13_need 46 = .ok (.ireturn, 1) := by decide +kernel
theorem dX13_need_47 : decode cX13_need 47 = .ok (.aload_n 0, 1) := by decide +kernel
theorem dX13_need_48 : decode cX13_need 48 = .ok (.iload_n 2, 1) := by decide +kernel
theorem dX13_need_49 : decode cX13_need 49 = .ok (.iload_n 3, 1) := by decide +kernel
theorem dX13_need_50 : decode cX13_need 50 = .ok (.invokevirtual 434, 3) := by decide +kernel
theorem dX13_need_53 : decode cX13_need 53 = .ok (.iconst (-1), 1) := by decide +kernel
theorem dX13_need_54 : decode cX13_need 54 = .ok (.if_icmp .ne 15, 3) := by decide +kernel
theorem dX13_need_57 : decode cX13_need 57 = .ok (.aload_n 0, 1) := by decide +kernel
theorem dX13_need_58 : decode cX13_need 58 = .ok (.iload 4, 2) := by decide +kernel
theorem dX13_need_60 : decode cX13_need 60 = .ok (.iload 5, 2) := by decide +kernel
theorem dX13_need_62 : decode cX13_need 62 = .ok (.invokevirtual 434, 3) := by decide +kernel
theorem dX13_need_65 : decode cX13_need 65 = .ok (.iconst (-1), 1) := by decide +kernel
theorem dX13_need_66 : decode cX13_need 66 = .ok (.if_icmp .eq 9, 3) := by decide +kernel
theorem dX13_need_69 : decode cX13_need 69 = .ok (.aload_n 0, 1) := by decide +kernel
theorem dX13_need_70 : decode cX13_need 70 = .ok (.iconst 1, 1) := by decide +kernel
theorem dX13_need_71 : decode cX13_need 71 = .ok (.invokevirtual 329, 3) := by decide +kernel
theorem dX13_need_74 : decode cX13_need 74 = .ok (.ireturn, 1) := by decide +kernel
theorem dX13_need_75 : decode cX13_need 75 = .ok (.aload_n 0, 1) := by decide +kernel
theorem dX13_need_76 : decode cX13_need 76 = .ok (.aload_n 0, 1) := by decide +kernel
theorem dX13_need_77 : decode cX13_need 77 = .ok (.getfield 126, 3) := by decide +kernel
theorem dX13_need_80 : decode cX13_need 80 = .ok (.iload_n 2, 1) := by decide +kernel
theorem dX13_need_81 : decode cX13_need 81 = .ok (.iload_n 3, 1) := by decide +kernel
theorem dX13_need_82 : decode cX13_need 82 = .ok (.invokevirtual 478, 3) := by decide +kernel
theorem dX13_need_85 : decode cX13_need 85 = .ok (.aload_n 0, 1) := by decide +kernel
theorem dX13_need_86 : decode cX13_need 86 = .ok (.aload_n 0, 1) := by decide +kernel
theorem dX13_need_87 : decode cX13_need 87 = .ok (.getfield 130, 3) := by decide +kernel
theorem dX13_need_90 : decode cX13_need 90 = .ok (.iload 4, 2) := by decide +kernel
theorem dX13_need_92 : decode cX13_need 92 = .ok (.iload 5, 2) := by decide +kernel
theorem dX13_need_94 : decode cX13_need 94 = .ok (.invokevirtual 478, 3) := by decide +kernel
theorem dX13_need_97 : decode cX13_need 97 = .ok (.aload_n 0, 1) := by decide +kernel
theorem dX13_need_98 : decode cX13_need 98 = .ok (.iload 4, 2) := by decide +kernel
theorem dX13_need_100 : decode cX13_need 100 = .ok (.iload 5, 2) := by decide +kernel
theorem dX13_need_102 : decode cX13_need 102 = .ok (.invokevirtual 472, 3) := by decide +kernel
theorem dX13_need_105 : decode cX13_need 105 = .ok (.invokestatic 475, 3) := by decide +kernel
theorem dX13_need_108 : decode cX13_need 108 = .ok (.istore 6, 2) := by decide +kernel
theorem dX13_need_110 : decode cX13_need 110 = .ok (.iload_n 1, 1) := by decide +kernel
theorem dX13_need_111 : decode cX13_need 111 = .ok (.iconst 2, 1) := by decide +kernel
theorem dX13_need_112 : decode cX13_need 112 = .ok (.if_icmp .ne 21, 3) := by decide +kernel
theorem dX13_need_115 : decode cX13_need 115 = .ok (.aload_n 0, 1) := by decide +kernel
theorem dX13_need_116 : decode cX13_need 116 = .ok (.getfield 133, 3) := by decide +kernel
theorem dX13_need_119 : decode cX13_need 119 = .ok (.aload_n 0, 1) := by decide +kernel
theorem dX13_need_120 : decode cX13_need 120 = .ok (.getfield 126, 3) := by decide +kernel
theorem dX13_need_123 : decode cX13_need 123 = .ok (.aload_n 0, 1) := by decide +kernel
theorem dX13_need_124 : decode cX13_need 124 = .ok (.getfield 130, 3) := by decide +kernel
theorem dX13_need_127 : decode cX13_need 127 = .ok (.invokestatic 488, 3) := by decide +kernel
theorem dX13_need_130 : decode cX13_need 130 = .ok (.goto 36, 3) := by decide +kernel
theorem dX13_need_133 : decode cX13_need 133 = .ok (.aload_n 0, 1) := by decide +kernel
theorem dX13_need_134 : decode cX13_need 134 = .ok (.aload_n 0, 1) := by decide +kernel
theorem dX13_need_135 : decode cX13_need 135 = .ok (.iload_n 2, 1) := by decide +kernel
theorem dX13_need_136 : decode cX13_need 136 = .ok (.iload_n 3, 1) := by decide +kernel
theorem dX13_need_137 : decode cX13_need 137 = .ok (.invokevirtual 472, 3) := by decide +kernel
theorem dX13_need_140 : decode cX13_need 140 = .ok (.invokestatic 475, 3) := by decide +kernel
theorem dX13_need_143 : decode cX13_need 143 = .ok (.iload_n 1, 1) := by decide +kernel
theorem dX13_need_144 : decode cX13_need 144 = .ok (.ifCond .ne 8, 3) := by decide +kernel
theorem dX13_need_147 : decode cX13_need 147 = .ok (.iload 6, 2) := by decide +kernel
theorem dX13_need_149 : decode cX13_need 149 = .ok (.goto 13, 3) := by decide +kernel
theorem dX13_need_152 : decode cX13_need 152 = .ok (.iload 6, 2) := by decide +kernel
theorem dX13_need_154 : decode cX13_need 154 = .ok (.ifCond .ne 7, 3) := by decide +kernel
theorem dX13_need_157 : decode cX13_need 157 = .ok (.iconst 1, 1) := by decide +kernel
theorem dX13_need_158 : decode cX13_need 158 = .ok (.goto 4, 3) := by decide +kernel
theorem dX13_need_161 : decode cX13_need 161 = .ok (.iconst 0, 1) := by decide +kernel
theorem dX13_need_162 : decode cX13_need 162 = .ok (.invokevirtual 484, 3) := by decide +kernel
theorem dX13_need_165 : decode cX13_need 165 = .ok (.pop, 1) := by decide +kernel
theorem dX13_need_166 : decode cX13_need 166 = .ok (.aload_n 0, 1) := by decide +kernel
theorem dX13_need_167 : decode cX13_need 167 = .ok (.getfield 133, 3) := by decide +kernel
theorem dX13_need_170 : decode cX13_need 170 = .ok (.invokestatic 384, 3) := by decide +kernel
theorem dX13_need_173 : decode cX13_need 173 = .ok (.iconst 2, 1) := by decide +kernel
theorem dX13_need_174 : decode cX13_need 174 = .ok (.idiv, 1) := by decide +kernel
theorem dX13_need_175 : decode cX13_need 175 = .ok (.iconst 1, 1) := by decide +kernel
theorem dX13_need_176 : decode cX13_need 176 = .ok (.iadd, 1) := by decide +kernel
theorem dX13_need_177 : decode cX13_need 177 = .ok (.ireturn, 1) := by decide +kernel
theorem dX13_rounds_0 : decode cX13_rounds 0 = .ok (.aload_n 0, 1) := by decide +kernel
theorem dX13_rounds_1 : decode cX13_rounds 1 = .ok (.iconst 0, 1) := by decide +kernel
theorem dX13_rounds_2 : decode cX13_rounds 2 = .ok (.putfield 187, 3) := by decide +kernel
theorem dX13_rounds_5 : decode cX13_rounds 5 = .ok (.iload_n 3, 1) := by decide +kernel
theorem dX13_rounds_6 : decode cX13_rounds 6 = .ok (.i2l, 1) := by decide +kernel
theorem dX13_rounds_7 : decode cX13_rounds 7 = .ok (.lconst 1, 1) := by decide +kernel
theorem dX13_rounds_8 : decode cX13_rounds 8 = .ok (.ldc2_w 613, 3) := by decide +kernel
theorem dX13_rounds_11 : decode cX13_rounds 11 = .ok (.invokestatic 287, 3) := by decide +kernel
theorem dX13_rounds_14 : decode cX13_rounds 14 = .ok (.ifCond .eq 14, 3) := by decide +kernel
theorem dX13_rounds_17 : decode cX13_rounds 17 = .ok (.aload_n 0, 1) := by decide +kernel
theorem dX13_rounds_18 : decode cX13_rounds 18 = .ok (.iload_n 1, 1) := by decide +kernel
theorem dX13_rounds_19 : decode cX13_rounds 19 = .ok (.iload_n 2, 1) := by decide +kernel
theorem dX13_rounds_20 : decode cX13_rounds 20 = .ok (.bipush 16, 2) := by decide +kernel
theorem dX13_rounds_22 : decode cX13_rounds 22 = .ok (.invokevirtual 603, 3) := by decide +kernel
theorem dX13_rounds_25 : decode cX13_rounds 25 = .ok (.ifCond .ne 9, 3) := by decide +kernel
theorem dX13_rounds_28 : decode cX13_rounds 28 = .ok (.aload_n 0, 1) := by decide +kernel
theorem dX13_rounds_29 : decode cX13_rounds 29 = .ok (.iconst 2, 1) := by decide +kernel
theorem dX13_rounds_30 : decode cX13_rounds 30 = .ok (.invokevirtual 329, 3) := by decide +kernel
theorem dX13_rounds_33 : decode cX13_rounds 33 = .ok (.ireturn, 1) := by decide +kernel
theorem dX13_rounds_34 : decode cX13_rounds 34 = .ok (.aload_n 0, 1) := by decide +kernel
theorem dX13_rounds_35 : decode cX13_rounds 35 = .ok (.iload_n 1, 1) := by decide +kernel
theorem dX13_rounds_36 : decode cX13_rounds 36 = .ok (.iload_n 2, 1) := by decide +kernel
theorem dX13_rounds_37 : decode cX13_rounds 37 = .ok (.invokevirtual 434, 3) := by decide +kernel
theorem dX13_rounds_40 : decode cX13_rounds 40 = .ok (.iconst (-1), 1) := by decide +kernel
theorem dX13_rounds_41 : decode cX13_rounds 41 = .ok (.if_icmp .eq 9, 3) := by decide +kernel
theorem dX13_rounds_44 : decode cX13_rounds 44 = .ok (.aload_n 0, 1) := by decide +kernel
theorem dX13_rounds_45 : decode cX13_rounds 45 = .ok (.iconst 1, 1) := by decide +kernel
theorem dX13_rounds_46 : decode cX13_rounds 46 = .ok (.invokevirtual 329, 3) := by decide +kernel
theorem dX13_rounds_49 : decode cX13_rounds 49 = .ok (.ireturn, 1) := by decide +kernel
theorem dX13_rounds_50 : decode cX13_rounds 50 = .ok (.aload_n 0, 1) := by decide +kernel
theorem dX13_rounds_51 : decode cX13_rounds 51 = .ok (.aload_n 0, 1) := by decide +kernel
theorem dX13_rounds_52 : decode cX13_rounds 52 = .ok (.getfield 126, 3) := by decide +kernel
theorem dX13_rounds_55 : decode cX13_rounds 55 = .ok (.iload_n 1, 1) := by decide +kernel
theorem dX13_rounds_56 : decode cX13_rounds 56 = .ok (.iload_n 2, 1) := by decide +kernel
theorem dX13_rounds_57 : decode cX13_rounds 57 = .ok (.invokevirtual 478, 3) := by decide +kernel
theorem dX13_rounds_60 : decode cX13_rounds 60 = .ok (.iconst 0, 1) := by decide +kernel
theorem dX13_rounds_61 : decode cX13_rounds 61 = .ok (.istore 4, 2) := by decide +kernel
theorem dX13_rounds_63 : decode cX13_rounds 63 = .ok (.iconst 0, 1) := by decide +kernel
theorem dX13_rounds_64 : decode cX13_rounds 64 = .ok (.istore 5, 2) := by decide +kernel
theorem dX13_rounds_66 : decode cX13_rounds 66 = .ok (.iload 5, 2) := by decide +kernel
theorem dX13_rounds_68 : decode cX13_rounds 68 = .ok (.bipush 10, 2) := by decide +kernel
theorem dX13_rounds_70 : decode cX13_rounds 70 = .ok (.if_icmp .ge 40, 3) := by decide +kernel
theorem dX13_rounds_73 : decode cX13_rounds 73 = .ok (.iload 4, 2) := by decide +kernel
theorem dX13_rounds_75 : decode cX13_rounds 75 = .ok (.aload_n 0, 1) := by decide +kernel
theorem dX13_rounds_76 : decode cX13_rounds 76 = .ok (.getfield 126, 3) := by decide +kernel
theorem dX13_rounds_79 : decode cX13_rounds 79 = .ok (.iload_n 3, 1) := by decide +kernel
theorem dX13_rounds_80 : decode cX13_rounds 80 = .ok (.iconst 1, 1) := by decide +kernel
theorem dX13_rounds_81 : decode cX13_rounds 81 = .ok (.isub, 1) := by decide +kernel
theorem dX13_rounds_82 : decode cX13_rounds 82 = .ok (.invokestatic 364, 3) := by decide +kernel
theorem dX13_rounds_85 : decode cX13_rounds 85 = .ok (.iload 5, 2) := by decide +kernel
theorem dX13_rounds_87 : decode cX13_rounds 87 = .ok (.iadd, 1) := by decide +kernel
theorem dX13_rounds_88 : decode cX13_rounds 88 = .ok (.bipush 9, 2) := by decide +kernel
theorem dX13_rounds_90 : decode cX13_rounds 90 = .ok (.if_icmp .le 10, 3) := by decide +kernel
theorem dX13_rounds_93 : decode cX13_rounds 93 = .ok (.iconst 1, 1) := by decide +kernel
theorem dX13_rounds_94 : decode cX13_rounds 94 = .ok (.iload 5, 2) := by decide +kernel
theorem dX13_rounds_96 : decode cX13_rounds 96 = .ok (.ishl, 1) := by decide +kernel
theorem dX13_rounds_97 : decode cX13_rounds 97 = .ok (.goto 4, 3) := by decide +kernel
theorem dX13_rounds_100 : decode cX13_rounds 100 = .ok (.iconst 0, 1) := by decide +kernel
theorem dX13_rounds_101 : decode cX13_rounds 101 = .ok (.ior, 1) := by decide +kernel
theorem dX13_rounds_102 : decode cX13_rounds 102 = .ok (.istore 4, 2) := by decide +kernel
theorem dX13_rounds_104 : decode cX13_rounds 104 = .ok (.iinc 5 1, 3) := by decide +kernel
theorem dX13_rounds_107 : decode cX13_rounds 107 = .ok (.goto (-41), 3) := by decide +kernel
theorem dX13_rounds_110 : decode cX13_rounds 110 = .ok (.iload 4, 2) := by decide +kernel
theorem dX13_rounds_112 : decode cX13_rounds 112 = .ok (.ireturn, 1) := by decide +kernel
theorem dX13_gives_0 : decode cX13_gives 0 = .ok (.iload_n 3, 1) := by decide +kernel
theorem dX13_gives_1 : decode cX13_gives 1 = .ok (.iload_n 1, 1) := by decide +kernel
theorem dX13_gives_2 : decode cX13_gives 2 = .ok (.ifCond .ne 14, 3) := by decide +kernel
theorem dX13_gives_5 : decode cX13_gives 5 = .ok (.iload_n 2, 1) := by decide +kernel
theorem dX13_gives_6 : decode cX13_gives 6 = .ok (.ifCond .ne 10, 3) := by decide +kernel
theorem dX13_gives_9 : decode cX13_gives 9 = .ok (.aload_n 0, 1) := by decide +kernel
theorem dX13_gives_10 : decode cX13_gives 10 = .ok (.getfield 615, 3) := by decide +kernel
theorem dX13_gives_13 : decode cX13_gives 13 = .ok (.goto 8, 3) := by decide +kernel
theorem dX13_gives_16 : decode cX13_gives 16 = .ok (.sipush 240, 3) := by decide +kernel
theorem dX13_gives_19 : decode cX13_gives 19 = .ok (.iload_n 1, 1) := by decide +kernel
theorem dX13_gives_20 : decode cX13_gives 20 = .ok (.iadd, 1) := by decide +kernel
theorem dX13_gives_21 : decode cX13_gives 21 = .ok (.if_icmp .ne 7, 3) := by decide +kernel
theorem dX13_gives_24 : decode cX13_gives 24 = .ok (.iconst 1, 1) := by decide +kernel
theorem dX13_gives_25 : decode cX13_gives 25 = .ok (.goto 4, 3) := by decide +kernel
theorem dX13_gives_28 : decode cX13_gives 28 = .ok (.iconst 0, 1) := by decide +kernel
theorem dX13_gives_29 : decode cX13_gives 29 = .ok (.ireturn, 1) := by decide +kernel
theorem dX13_seenBehind_0 : decode cX13_seenBehind 0 = .ok (.iload_n 1, 1) := by decide +kernel
theorem dX13_seenBehind_1 : decode cX13_seenBehind 1 = .ok (.aload_n 0, 1) := by decide +kernel
theorem dX13_seenBehind_2 : decode cX13_seenBehind 2 = .ok (.getfield 618, 3) := by decide +kernel
theorem dX13_seenBehind_5 : decode cX13_seenBehind 5 = .ok (.if_icmp .ne 8, 3) := by decide +kernel
theorem dX13_seenBehind_8 : decode cX13_seenBehind 8 = .ok (.iload 5, 2) := by decide +kernel
theorem dX13_seenBehind_10 : decode cX13_seenBehind 10 = .ok (.ifCond .eq 22, 3) := by decide +kernel
theorem dX13_seenBehind_13 : decode cX13_seenBehind 13 = .ok (.iload 4, 2) := by decide +kernel
theorem dX13_seenBehind_15 : decode cX13_seenBehind 15 = .ok (.ifCond .ne 13, 3) := by decide +kernel
theorem dX13_seenBehind_18 : decode cX13_seenBehind 18 = .ok (.iload_n 3, 1) := by decide +kernel
theorem dX13_seenBehind_19 : decode cX13_seenBehind 19 = .ok (.ifCond .ne 9, 3) := by decide +kernel
theorem dX13_seenBehind_22 : decode cX13_seenBehind 22 = .ok (.iload_n 2, 1) := by decide +kernel
theorem dX13_seenBehind_23 : decode cX13_seenBehind 23 = .ok (.bipush 33, 2) := by decide +kernel
theorem dX13_seenBehind_25 : decode cX13_seenBehind 25 = .ok (.if_icmp .ne 7, 3) := by decide +kernel
theorem dX13_seenBehind_28 : decode cX13_seenBehind 28 = .ok (.iconst 1, 1) := by decide +kernel
theorem dX13_seenBehind_29 : decode cX13_seenBehind 29 = .ok (.goto 4, 3) := by decide +kernel
theorem dX13_seenBehind_32 : decode cX13_seenBehind 32 = .ok (.iconst 0, 1) := by decide +kernel
theorem dX13_seenBehind_33 : decode cX13_seenBehind 33 = .ok (.ireturn, 1) := by decide +kernel
theorem dX13_wayAt_0 : decode cX13_wayAt 0 = .ok (.iconst 4, 1) := by decide +kernel
theorem dX13_wayAt_1 : decode cX13_wayAt 1 = .ok (.iload_n 1, 1) := by decide +kernel
theorem dX13_wayAt_2 : decode cX13_wayAt 2 = .ok (.imul, 1) := by decide +kernel
theorem dX13_wayAt_3 : decode cX13_wayAt 3 = .ok (.iload_n 2, 1) := by decide +kernel
theorem dX13_wayAt_4 : decode cX13_wayAt 4 = .ok (.ifCond .eq 7, 3) := by decide +kernel
theorem dX13_wayAt_7 : decode cX13_wayAt 7 = .ok (.iconst 2, 1) := by decide +kernel
theorem dX13_wayAt_8 : decode cX13_wayAt 8 = .ok (.goto 4, 3) := by decide +kernel
theorem dX13_wayAt_11 : decode cX13_wayAt 11 = .ok (.iconst 0, 1) := by decide +kernel
theorem dX13_wayAt_12 : decode cX13_wayAt 12 = .ok (.iadd, 1) := by decide +kernel
theorem dX13_wayAt_13 : decode cX13_wayAt 13 = .ok (.iload_n 3, 1) := by decide +kernel
theorem dX13_wayAt_14 : decode cX13_wayAt 14 = .ok (.iadd, 1) := by decide +kernel
theorem dX13_wayAt_15 : decode cX13_wayAt 15 = .ok (.ireturn, 1) := by decide +kernel
theorem dX13_waysOf_0 : decode cX13_waysOf 0 = .ok (.aload_n 0, 1) := by decide +kernel
theorem dX13_waysOf_1 : decode cX13_waysOf 1 = .ok (.getfield 76, 3) := by decide +kernel
theorem dX13_waysOf_4 : decode cX13_waysOf 4 = .ok (.iload_n 1, 1) := by decide +kernel
theorem dX13_waysOf_5 : decode cX13_waysOf 5 = .ok (.iload_n 2, 1) := by decide +kernel
theorem dX13_waysOf_6 : decode cX13_waysOf 6 = .ok (.iadd, 1) := by decide +kernel
theorem dX13_waysOf_7 : decode cX13_waysOf 7 = .ok (.iaload, 1) := by decide +kernel
theorem dX13_waysOf_8 : decode cX13_waysOf 8 = .ok (.istore 6, 2) := by decide +kernel
theorem dX13_waysOf_10 : decode cX13_waysOf 10 = .ok (.iload 6, 2) := by decide +kernel
theorem dX13_waysOf_12 : decode cX13_waysOf 12 = .ok (.bipush 32, 2) := by decide +kernel
theorem dX13_waysOf_14 : decode cX13_waysOf 14 = .ok (.if_icmp .eq 82, 3) := by decide +kernel
theorem dX13_waysOf_17 : decode cX13_waysOf 17 = .ok (.iload 6, 2) := by decide +kernel
theorem dX13_waysOf_19 : decode cX13_waysOf 19 = .ok (.bipush 33, 2) := by decide +kernel
theorem dX13_waysOf_21 : decode cX13_waysOf 21 = .ok (.if_icmp .eq 75, 3) := by decide +kernel
theorem dX13_waysOf_24 : decode cX13_waysOf 24 = .ok (.iload 6, 2) := by decide +kernel
theorem dX13_waysOf_26 : decode cX13_waysOf 26 = .ok (.bipush 34, 2) := by decide +kernel
theorem dX13_waysOf_28 : decode cX13_waysOf 28 = .ok (.if_icmp .eq 8, 3) := by decide +kernel
theorem dX13_waysOf_31 : decode cX13_waysOf 31 = .ok (.iload 4, 2) := by decide +kernel
theorem dX13_waysOf_33 : decode cX13_waysOf 33 = .ok (.ifCond .ne 10, 3) := by decide +kernel
theorem dX13_waysOf_36 : decode cX13_waysOf 36 = .ok (.aload_n 0, 1) := by decide +kernel
theorem dX13_waysOf_37 : decode cX13_waysOf 37 = .ok (.getfield 615, 3) := by decide +kernel
theorem dX13_waysOf_40 : decode cX13_waysOf 40 = .ok (.goto 5, 3) := by decide +kernel
theorem dX13_waysOf_43 : decode cX13_waysOf 43 = .ok (.iload 6, 2) := by decide +kernel
theorem dX13_waysOf_45 : decode cX13_waysOf 45 = .ok (.istore 7, 2) := by decide +kernel
theorem dX13_waysOf_47 : decode cX13_waysOf 47 = .ok (.iload 7, 2) := by decide +kernel
theorem dX13_waysOf_49 : decode cX13_waysOf 49 = .ok (.aload_n 0, 1) := by decide +kernel
theorem dX13_waysOf_50 : decode cX13_waysOf 50 = .ok (.getfield 76, 3) := by decide +kernel
theorem dX13_waysOf_53 : decode cX13_waysOf 53 = .ok (.iload_n 3, 1) := by decide +kernel
theorem dX13_waysOf_54 : decode cX13_waysOf 54 = .ok (.iload_n 2, 1) := by decide +kernel
theorem dX13_waysOf_55 : decode cX13_waysOf 55 = .ok (.iadd, 1) := by decide +kernel
theorem dX13_waysOf_56 : decode cX13_waysOf 56 = .ok (.iaload, 1) := by decide +kernel
theorem dX13_waysOf_57 : decode cX13_waysOf 57 = .ok (.if_icmp .ne 37, 3) := by decide +kernel
theorem dX13_waysOf_60 : decode cX13_waysOf 60 = .ok (.aload_n 0, 1) := by decide +kernel
theorem dX13_waysOf_61 : decode cX13_waysOf 61 = .ok (.getfield 142, 3) := by decide +kernel
theorem dX13_waysOf_64 : decode cX13_waysOf 64 = .ok (.aload_n 0, 1) := by decide +kernel
theorem dX13_waysOf_65 : decode cX13_waysOf 65 = .ok (.iload_n 2, 1) := by decide +kernel
theorem dX13_waysOf_66 : decode cX13_waysOf 66 = .ok (.iconst 1, 1) := by decide +kernel
theorem dX13_waysOf_67 : decode cX13_waysOf 67 = .ok (.iadd, 1) := by decide +kernel
theorem dX13_waysOf_68 : decode cX13_waysOf 68 = .ok (.iload 6, 2) := by decide +kernel
theorem dX13_waysOf_70 : decode cX13_waysOf 70 = .ok (.bipush 34, 2) := by decide +kernel
theorem dX13_waysOf_72 : decode cX13_waysOf 72 = .ok (.if_icmp .eq 12, 3) := by decide +kernel
theorem dX13_waysOf_75 : decode cX13_waysOf 75 = .ok (.iload 4, 2) := by decide +kernel
theorem dX13_waysOf_77 : decode cX13_waysOf 77 = .ok (.ifCond .eq 7, 3) := by decide +kernel
theorem dX13_waysOf_80 : decode cX13_waysOf 80 = .ok (.iconst 1, 1) := by decide +kernel
theorem dX13_waysOf_81 : decode cX13_waysOf 81 = .ok (.goto 4, 3) := by decide +kernel
theorem dX13_waysOf_84 : decode cX13_waysOf 84 = .ok (.iconst 0, 1) := by decide +kernel
theorem dX13_waysOf_85 : decode cX13_waysOf 85 = .ok (.iload 5, 2) := by decide +kernel
theorem dX13_waysOf_87 : decode cX13_waysOf 87 = .ok (.invokevirtual 621, 3) := by decide +kernel
theorem dX13_waysOf_90 : decode cX13_waysOf 90 = .ok (.laload, 1) := by decide +kernel
theorem dX13_waysOf_91 : decode cX13_waysOf 91 = .ok (.goto 4, 3) := by decide +kernel
theorem dX13_waysOf_94 : decode cX13_waysOf 94 = .ok (.lconst 0, 1) := by decide +kernel
theorem dX13_waysOf_95 : decode cX13_waysOf 95 = .ok (.lreturn, 1) := by decide +kernel
theorem dX13_waysOf_96 : decode cX13_waysOf 96 = .ok (.lconst 0, 1) := by decide +kernel
theorem dX13_waysOf_97 : decode cX13_waysOf 97 = .ok (.lstore 7, 2) := by decide +kernel
theorem dX13_waysOf_99 : decode cX13_waysOf 99 = .ok (.iconst 0, 1) := by decide +kernel
theorem dX13_waysOf_100 : decode cX13_waysOf 100 = .ok (.istore 9, 2) := by decide +kernel
theorem dX13_waysOf_102 : decode cX13_waysOf 102 = .ok (.iload 9, 2) := by decide +kernel
theorem dX13_waysOf_104 : decode cX13_waysOf 104 = .ok (.bipush 10, 2) := by decide +kernel
theorem dX13_waysOf_106 : decode cX13_waysOf 106 = .ok (.if_icmp .ge 60, 3) := by decide +kernel
theorem dX13_waysOf_109 : decode cX13_waysOf 109 = .ok (.aload_n 0, 1) := by decide +kernel
theorem dX13_waysOf_110 : decode cX13_waysOf 110 = .ok (.iload 9, 2) := by decide +kernel
theorem dX13_waysOf_112 : decode cX13_waysOf 112 = .ok (.iload 4, 2) := by decide +kernel
theorem dX13_waysOf_114 : decode cX13_waysOf 114 = .ok (.aload_n 0, 1) := by decide +kernel
theorem dX13_waysOf_115 : decode cX13_waysOf 115 = .ok (.getfield 76, 3) := by decide +kernel
theorem dX13_waysOf_118 : decode cX13_waysOf 118 = .ok (.iload_n 3, 1) := by decide +kernel
theorem dX13_waysOf_119 : decode cX13_waysOf 119 = .ok (.iload_n 2, 1) := by decide +kernel
theorem dX13_waysOf_120 : decode cX13_waysOf 120 = .ok (.iadd, 1) := by decide +kernel
theorem dX13_waysOf_121 : decode cX13_waysOf 121 = .ok (.iaload, 1) := by decide +kernel
theorem dX13_waysOf_122 : decode cX13_waysOf 122 = .ok (.invokevirtual 625, 3) := by decide +kernel
theorem dX13_waysOf_125 : decode cX13_waysOf 125 = .ok (.ifCond .eq 35, 3) := by decide +kernel
theorem dX13_waysOf_128 : decode cX13_waysOf 128 = .ok (.lload 7, 2) := by decide +kernel
theorem dX13_waysOf_130 : decode cX13_waysOf 130 = .ok (.aload_n 0, 1) := by decide +kernel
theorem dX13_waysOf_131 : decode cX13_waysOf 131 = .ok (.getfield 142, 3) := by decide +kernel
theorem dX13_waysOf_134 : decode cX13_waysOf 134 = .ok (.aload_n 0, 1) := by decide +kernel
theorem dX13_waysOf_135 : decode cX13_waysOf 135 = .ok (.iload_n 2, 1) := by decide +kernel
theorem dX13_waysOf_136 : decode cX13_waysOf 136 = .ok (.iconst 1, 1) := by decide +kernel
theorem dX13_waysOf_137 : decode cX13_waysOf 137 = .ok (.iadd, 1) := by decide +kernel
theorem dX13_waysOf_138 : decode cX13_waysOf 138 = .ok (.aload_n 0, 1) := by decide +kernel
theorem dX13_waysOf_139 : decode cX13_waysOf 139 = .ok (.iload_n 2, 1) := by decide +kernel
theorem dX13_waysOf_140 : decode cX13_waysOf 140 = .ok (.iload 6, 2) := by decide +kernel
theorem dX13_waysOf_142 : decode cX13_waysOf 142 = .ok (.iload 9, 2) := by decide +kernel
theorem dX13_waysOf_144 : decode cX13_waysOf 144 = .ok (.iload 4, 2) := by decide +kernel
theorem dX13_waysOf_146 : decode cX13_waysOf 146 = .ok (.iload 5, 2) := by decide +kernel
theorem dX13_waysOf_148 : decode cX13_waysOf 148 = .ok (.invokevirtual 629, 3) := by decide +kernel
theorem dX13_waysOf_151 : decode cX13_waysOf 151 = .ok (.iload 5, 2) := by decide +kernel
theorem dX13_waysOf_153 : decode cX13_waysOf 153 = .ok (.invokevirtual 621, 3) := by decide +kernel
theorem dX13_waysOf_156 : decode cX13_waysOf 156 = .ok (.laload, 1) := by decide +kernel
theorem dX13_waysOf_157 : decode cX13_waysOf 157 = .ok (.ladd, 1) := by decide +kernel
theorem dX13_waysOf_158 : decode cX13_waysOf 158 = .ok (.lstore 7, 2) := by decide +kernel
theorem dX13_waysOf_160 : decode cX13_waysOf 160 = .ok (.iinc 9 1, 3) := by decide +kernel
theorem dX13_waysOf_163 : decode cX13_waysOf 163 = .ok (.goto (-61), 3) := by decide +kernel
theorem dX13_waysOf_166 : decode cX13_waysOf 166 = .ok (.lload 7, 2) := by decide +kernel
theorem dX13_waysOf_168 : decode cX13_waysOf 168 = .ok (.lreturn, 1) := by decide +kernel
theorem dX13_tellWays_0 : decode cX13_tellWays 0 = .ok (.aload_n 0, 1) := by decide +kernel
theorem dX13_tellWays_1 : decode cX13_tellWays 1 = .ok (.aload_n 0, 1) := by decide +kernel
theorem dX13_tellWays_2 : decode cX13_tellWays 2 = .ok (.getfield 76, 3) := by decide +kernel
theorem dX13_tellWays_5 : decode cX13_tellWays 5 = .ok (.iload_n 1, 1) := by decide +kernel
theorem dX13_tellWays_6 : decode cX13_tellWays 6 = .ok (.iaload, 1) := by decide +kernel
theorem dX13_tellWays_7 : decode cX13_tellWays 7 = .ok (.putfield 615, 3) := by decide +kernel
theorem dX13_tellWays_10 : decode cX13_tellWays 10 = .ok (.aload_n 0, 1) := by decide +kernel
theorem dX13_tellWays_11 : decode cX13_tellWays 11 = .ok (.iconst (-1), 1) := by decide +kernel
theorem dX13_tellWays_12 : decode cX13_tellWays 12 = .ok (.putfield 618, 3) := by decide +kernel
theorem dX13_tellWays_15 : decode cX13_tellWays 15 = .ok (.iconst 0, 1) := by decide +kernel
theorem dX13_tellWays_16 : decode cX13_tellWays 16 = .ok (.istore 4, 2) := by decide +kernel
theorem dX13_tellWays_18 : decode cX13_tellWays 18 = .ok (.iload 4, 2) := by decide +kernel
theorem dX13_tellWays_20 : decode cX13_tellWays 20 = .ok (.iload_n 2, 1) := by decide +kernel
theorem dX13_tellWays_21 : decode cX13_tellWays 21 = .ok (.if_icmp .ge 50, 3) := by decide +kernel
theorem dX13_tellWays_24 : decode cX13_tellWays 24 = .ok (.aload_n 0, 1) := by decide +kernel
theorem dX13_tellWays_25 : decode cX13_tellWays 25 = .ok (.aload_n 0, 1) := by decide +kernel
theorem dX13_tellWays_26 : decode cX13_tellWays 26 = .ok (.getfield 76, 3) := by decide +kernel
theorem dX13_tellWays_29 : decode cX13_tellWays 29 = .ok (.iload_n 1, 1) := by decide +kernel
theorem dX13_tellWays_30 : decode cX13_tellWays 30 = .ok (.iload 4, 2) := by decide +kernel
theorem dX13_tellWays_32 : decode cX13_tellWays 32 = .ok (.iadd, 1) := by decide +kernel
theorem dX13_tellWays_33 : decode cX13_tellWays 33 = .ok (.iaload, 1) := by decide +kernel
theorem dX13_tellWays_34 : decode cX13_tellWays 34 = .ok (.bipush 32, 2) := by decide +kernel
theorem dX13_tellWays_36 : decode cX13_tellWays 36 = .ok (.if_icmp .eq 17, 3) := by decide +kernel
theorem dX13_tellWays_39 : decode cX13_tellWays 39 = .ok (.aload_n 0, 1) := by decide +kernel
theorem dX13_tellWays_40 : decode cX13_tellWays 40 = .ok (.getfield 76, 3) := by decide +kernel
theorem dX13_tellWays_43 : decode cX13_tellWays 43 = .ok (.iload_n 1, 1) := by decide +kernel
theorem dX13_tellWays_44 : decode cX13_tellWays 44 = .ok (.iload 4, 2) := by decide +kernel
theorem dX13_tellWays_46 : decode cX13_tellWays 46 = .ok (.iadd, 1) := by decide +kernel
theorem dX13_tellWays_47 : decode cX13_tellWays 47 = .ok (.iaload, 1) := by decide +kernel
theorem dX13_tellWays_48 : decode cX13_tellWays 48 = .ok (.bipush 33, 2) := by decide +kernel
theorem dX13_tellWays_50 : decode cX13_tellWays 50 = .ok (.if_icmp .ne 8, 3) := by decide +kernel
theorem dX13_tellWays_53 : decode cX13_tellWays 53 = .ok (.iload 4, 2) := by decide +kernel
theorem dX13_tellWays_55 : decode cX13_tellWays 55 = .ok (.goto 7, 3) := by decide +kernel
theorem dX13_tellWays_58 : decode cX13_tellWays 58 = .ok (.aload_n 0, 1) := by decide +kernel
theorem dX13_tellWays_59 : decode cX13_tellWays 59 = .ok (.getfield 618, 3) := by decide +kernel
theorem dX13_tellWays_62 : decode cX13_tellWays 62 = .ok (.putfield 618, 3) := by decide +kernel
theorem dX13_tellWays_65 : decode cX13_tellWays 65 = .ok (.iinc 4 1, 3) := by decide +kernel
theorem dX13_tellWays_68 : decode cX13_tellWays 68 = .ok (.goto (-50), 3) := by decide +kernel
theorem dX13_tellWays_71 : decode cX13_tellWays 71 = .ok (.iconst 0, 1) := by decide +kernel
theorem dX13_tellWays_72 : decode cX13_tellWays 72 = .ok (.istore 4, 2) := by decide +kernel
theorem dX13_tellWays_74 : decode cX13_tellWays 74 = .ok (.iload 4, 2) := by decide +kernel
theorem dX13_tellWays_76 : decode cX13_tellWays 76 = .ok (.iconst 4, 1) := by decide +kernel
theorem dX13_tellWays_77 : decode cX13_tellWays 77 = .ok (.if_icmp .ge 21, 3) := by decide +kernel
theorem dX13_tellWays_80 : decode cX13_tellWays 80 = .ok (.aload_n 0, 1) := by decide +kernel
theorem dX13_tellWays_81 : decode cX13_tellWays 81 = .ok (.getfield 142, 3) := by decide +kernel
theorem dX13_tellWays_84 : decode cX13_tellWays 84 = .ok (.iconst 4, 1) := by decide +kernel
theorem dX13_tellWays_85 : decode cX13_tellWays 85 = .ok (.iload_n 2, 1) := by decide +kernel
theorem dX13_tellWays_86 : decode cX13_tellWays 86 = .ok (.imul, 1) := by decide +kernel
theorem dX13_tellWays_87 : decode cX13_tellWays 87 = .ok (.iload 4, 2) := by decide +kernel
theorem dX13_tellWays_89 : decode cX13_tellWays 89 = .ok (.iadd, 1) := by decide +kernel
theorem dX13_tellWays_90 : decode cX13_tellWays 90 = .ok (.lconst 1, 1) := by decide +kernel
theorem dX13_tellWays_91 : decode cX13_tellWays 91 = .ok (.lastore, 1) := by decide +kernel
theorem dX13_tellWays_92 : decode cX13_tellWays 92 = .ok (.iinc 4 1, 3) := by decide +kernel
theorem dX13_tellWays_95 : decode cX13_tellWays 95 = .ok (.goto (-21), 3) := by decide +kernel
theorem dX13_tellWays_98 : decode cX13_tellWays 98 = .ok (.iload_n 2, 1) := by decide +kernel
theorem dX13_tellWays_99 : decode cX13_tellWays 99 = .ok (.iconst 1, 1) := by decide +kernel
theorem dX13_tellWays_100 : decode cX13_tellWays 100 = .ok (.isub, 1) := by decide +kernel
theorem dX13_tellWays_101 : decode cX13_tellWays 101 = .ok (.istore 4, 2) := by decide +kernel
theorem dX13_tellWays_103 : decode cX13_tellWays 103 = .ok (.iload 4, 2) := by decide +kernel
theorem dX13_tellWays_105 : decode cX13_tellWays 105 = .ok (.ifCond .lt 74, 3) := by decide +kernel
theorem dX13_tellWays_108 : decode cX13_tellWays 108 = .ok (.iconst 0, 1) := by decide +kernel
theorem dX13_tellWays_109 : decode cX13_tellWays 109 = .ok (.istore 5, 2) := by decide +kernel
theorem dX13_tellWays_111 : decode cX13_tellWays 111 = .ok (.iload 5, 2) := by decide +kernel
theorem dX13_tellWays_113 : decode cX13_tellWays 113 = .ok (.iconst 2, 1) := by decide +kernel
theorem dX13_tellWays_114 : decode cX13_tellWays 114 = .ok (.if_icmp .ge 59, 3) := by decide +kernel
theorem dX13_tellWays_117 : decode cX13_tellWays 117 = .ok (.aload_n 0, 1) := by decide +kernel
theorem dX13_tellWays_118 : decode cX13_tellWays 118 = .ok (.getfield 142, 3) := by decide +kernel
theorem dX13_tellWays_121 : decode cX13_tellWays 121 = .ok (.aload_n 0, 1) := by decide +kernel
theorem dX13_tellWays_122 : decode cX13_tellWays 122 = .ok (.iload 4, 2) := by decide +kernel
theorem dX13_tellWays_124 : decode cX13_tellWays 124 = .ok (.iconst 0, 1) := by decide +kernel
theorem dX13_tellWays_125 : decode cX13_tellWays 125 = .ok (.iload 5, 2) := by decide +kernel
theorem dX13_tellWays_127 : decode cX13_tellWays 127 = .ok (.invokevirtual 621, 3) := by decide +kernel
theorem dX13_tellWays_130 : decode cX13_tellWays 130 = .ok (.aload_n 0, 1) := by decide +kernel
theorem dX13_tellWays_131 : decode cX13_tellWays 131 = .ok (.iload_n 1, 1) := by decide +kernel
theorem dX13_tellWays_132 : decode cX13_tellWays 132 = .ok (.iload 4, 2) := by decide +kernel
theorem dX13_tellWays_134 : decode cX13_tellWays 134 = .ok (.iload_n 3, 1) := by decide +kernel
theorem dX13_tellWays_135 : decode cX13_tellWays 135 = .ok (.iconst 0, 1) := by decide +kernel
theorem dX13_tellWays_136 : decode cX13_tellWays 136 = .ok (.iload 5, 2) := by decide +kernel
theorem dX13_tellWays_138 : decode cX13_tellWays 138 = .ok (.invokevirtual 633, 3) := by decide +kernel
theorem dX13_tellWays_141 : decode cX13_tellWays 141 = .ok (.lastore, 1) := by decide +kernel
theorem dX13_tellWays_142 : decode cX13_tellWays 142 = .ok (.aload_n 0, 1) := by decide +kernel
theorem dX13_tellWays_143 : decode cX13_tellWays 143 = .ok (.getfield 142, 3) := by decide +kernel
theorem dX13_tellWays_146 : decode cX13_tellWays 146 = .ok (.aload_n 0, 1) := by decide +kernel
theorem dX13_tellWays_147 : decode cX13_tellWays 147 = .ok (.iload 4, 2) := by decide +kernel
theorem dX13_tellWays_149 : decode cX13_tellWays 149 = .ok (.iconst 1, 1) := by decide +kernel
theorem dX13_tellWays_150 : decode cX13_tellWays 150 = .ok (.iload 5, 2) := by decide +kernel
theorem dX13_tellWays_152 : decode cX13_tellWays 152 = .ok (.invokevirtual 621, 3) := by decide +kernel
theorem dX13_tellWays_155 : decode cX13_tellWays 155 = .ok (.aload_n 0, 1) := by decide +kernel
theorem dX13_tellWays_156 : decode cX13_tellWays 156 = .ok (.iload_n 1, 1) := by decide +kernel
theorem dX13_tellWays_157 : decode cX13_tellWays 157 = .ok (.iload 4, 2) := by decide +kernel
theorem dX13_tellWays_159 : decode cX13_tellWays 159 = .ok (.iload_n 3, 1) := by decide +kernel
theorem dX13_tellWays_160 : decode cX13_tellWays 160 = .ok (.iconst 1, 1) := by decide +kernel
theorem dX13_tellWays_161 : decode cX13_tellWays 161 = .ok (.iload 5, 2) := by decide +kernel
theorem dX13_tellWays_163 : decode cX13_tellWays 163 = .ok (.invokevirtual 633, 3) := by decide +kernel
theorem dX13_tellWays_166 : decode cX13_tellWays 166 = .ok (.lastore, 1) := by decide +kernel
theorem dX13_tellWays_167 : decode cX13_tellWays 167 = .ok (.iinc 5 1, 3) := by decide +kernel
theorem dX13_tellWays_170 : decode cX13_tellWays 170 = .ok (.goto (-59), 3) := by decide +kernel
theorem dX13_tellWays_173 : decode cX13_tellWays 173 = .ok (.iinc 4 (-1), 3) := by decide +kernel
theorem dX13_tellWays_176 : decode cX13_tellWays 176 = .ok (.goto (-73), 3) := by decide +kernel
theorem dX13_tellWays_179 : decode cX13_tellWays 179 = .ok (.return_, 1) := by decide +kernel
theorem dX13_findSource_0 : decode cX13_findSource 0 = .ok (.iconst 0, 1) := by decide +kernel
theorem dX13_findSource_1 : decode cX13_findSource 1 = .ok (.istore 4, 2) := by decide +kernel
theorem dX13_findSource_3 : decode cX13_findSource 3 = .ok (.aload_n 0, 1) := by decide +kernel
theorem dX13_findSource_4 : decode cX13_findSource 4 = .ok (.iconst 0, 1) := by decide +kernel
theorem dX13_findSource_5 : decode cX13_findSource 5 = .ok (.putfield 637, 3) := by decide +kernel
theorem dX13_findSource_8 : decode cX13_findSource 8 = .ok (.aload_n 0, 1) := by decide +kernel
theorem dX13_findSource_9 : decode cX13_findSource 9 = .ok (.iconst 0, 1) := by decide +kernel
theorem dX13_findSource_10 : decode cX13_findSource 10 = .ok (.putfield 640, 3) := by decide +kernel
theorem dX13_findSource_13 : decode cX13_findSource 13 = .ok (.iconst 0, 1) := by decide +kernel
theorem dX13_findSource_14 : decode cX13_findSource 14 = .ok (.istore 5, 2) := by decide +kernel
theorem dX13_findSource_16 : decode cX13_findSource 16 = .ok (.iload 5, 2) := by decide +kernel
theorem dX13_findSource_18 : decode cX13_findSource 18 = .ok (.iload_n 2, 1) := by decide +kernel
theorem dX13_findSource_19 : decode cX13_findSource 19 = .ok (.if_icmp .ge 264, 3) := by decide +kernel
theorem dX13_findSource_22 : decode cX13_findSource 22 = .ok (.aload_n 0, 1) := by decide +kernel
theorem dX13_findSource_23 : decode cX13_findSource 23 = .ok (.getfield 76, 3) := by decide +kernel
theorem dX13_findSource_26 : decode cX13_findSource 26 = .ok (.iload_n 1, 1) := by decide +kernel
theorem dX13_findSource_27 : decode cX13_findSource 27 = .ok (.iload 5, 2) := by decide +kernel
theorem dX13_findSource_29 : decode cX13_findSource 29 = .ok (.iadd, 1) := by decide +kernel
theorem dX13_findSource_30 : decode cX13_findSource 30 = .ok (.iaload, 1) := by decide +kernel
theorem dX13_findSource_31 : decode cX13_findSource 31 = .ok (.istore 6, 2) := by decide +kernel
theorem dX13_findSource_33 : decode cX13_findSource 33 = .ok (.iload 6, 2) := by decide +kernel
theorem dX13_findSource_35 : decode cX13_findSource 35 = .ok (.bipush 32, 2) := by decide +kernel
theorem dX13_findSource_37 : decode cX13_findSource 37 = .ok (.if_icmp .eq 32, 3) := by decide +kernel
theorem dX13_findSource_40 : decode cX13_findSource 40 = .ok (.iload 6, 2) := by decide +kernel
theorem dX13_findSource_42 : decode cX13_findSource 42 = .ok (.bipush 33, 2) := by decide +kernel
theorem dX13_findSource_44 : decode cX13_findSource 44 = .ok (.if_icmp .eq 25, 3) := by decide +kernel
theorem dX13_findSource_47 : decode cX13_findSource 47 = .ok (.iload 6, 2) := by decide +kernel
theorem dX13_findSource_49 : decode cX13_findSource 49 = .ok (.bipush 34, 2) := by decide +kernel
theorem dX13_findSource_51 : decode cX13_findSource 51 = .ok (.if_icmp .eq 12, 3) := by decide +kernel
theorem dX13_findSource_54 : decode cX13_findSource 54 = .ok (.iload 4, 2) := by decide +kernel
theorem dX13_findSource_56 : decode cX13_findSource 56 = .ok (.ifCond .eq 7, 3) := by decide +kernel
theorem dX13_findSource_59 : decode cX13_findSource 59 = .ok (.iconst 1, 1) := by decide +kernel
theorem dX13_findSource_60 : decode cX13_findSource 60 = .ok (.goto 4, 3) := by decide +kernel
theorem dX13_findSource_63 : decode cX13_findSource 63 = .ok (.iconst 0, 1) := by decide +kernel
theorem dX13_findSource_64 : decode cX13_findSource 64 = .ok (.istore 4, 2) := by decide +kernel
theorem dX13_findSource_66 : decode cX13_findSource 66 = .ok (.goto 211, 3) := by decide +kernel
theorem dX13_findSource_69 : decode cX13_findSource 69 = .ok (.iconst 0, 1) := by decide +kernel
theorem dX13_findSource_70 : decode cX13_findSource 70 = .ok (.istore 7, 2) := by decide +kernel
theorem dX13_findSource_72 : decode cX13_findSource 72 = .ok (.iload 7, 2) := by decide +kernel
theorem dX13_findSource_74 : decode cX13_findSource 74 = .ok (.bipush 10, 2) := by decide +kernel
theorem dX13_findSource_76 : decode cX13_findSource 76 = .ok (.if_icmp .ge 201, 3) := by decide +kernel
theorem dX13_findSource_79 : decode cX13_findSource 79 = .ok (.aload_n 0, 1) := by decide +kernel
theorem dX13_findSource_80 : decode cX13_findSource 80 = .ok (.iload 7, 2) := by decide +kernel
theorem dX13_findSource_82 : decode cX13_findSource 82 = .ok (.iload 4, 2) := by decide +kernel
theorem dX13_findSource_84 : decode cX13_findSource 84 = .ok (.aload_n 0, 1) := by decide +kernel
theorem dX13_findSource_85 : decode cX13_findSource 85 = .ok (.getfield 76, 3) := by decide +kernel
theorem dX13_findSource_88 : decode cX13_findSource 88 = .ok (.iload_n 3, 1) := by decide +kernel
theorem dX13_findSource_89 : decode cX13_findSource 89 = .ok (.iload 5, 2) := by decide +kernel
theorem dX13_findSource_91 : decode cX13_findSource 91 = .ok (.iadd, 1) := by decide +kernel
theorem dX13_findSource_92 : decode cX13_findSource 92 = .ok (.iaload, 1) := by decide +kernel
theorem dX13_findSource_93 : decode cX13_findSource 93 = .ok (.invokevirtual 625, 3) := by decide +kernel
theorem dX13_findSource_96 : decode cX13_findSource 96 = .ok (.ifCond .ne 6, 3) := by decide +kernel
theorem dX13_findSource_99 : decode cX13_findSource 99 = .ok (.goto 172, 3) := by decide +kernel
theorem dX13_findSource_102 : decode cX13_findSource 102 = .ok (.aload_n 0, 1) := by decide +kernel
theorem dX13_findSource_103 : decode cX13_findSource 103 = .ok (.getfield 142, 3) := by decide +kernel
theorem dX13_findSource_106 : decode cX13_findSource 106 = .ok (.aload_n 0, 1) := by decide +kernel
theorem dX13_findSource_107 : decode cX13_findSource 107 = .ok (.iload 5, 2) := by decide +kernel
theorem dX13_findSource_109 : decode cX13_findSource 109 = .ok (.iconst 1, 1) := by decide +kernel
theorem dX13_findSource_110 : decode cX13_findSource 110 = .ok (.iadd, 1) := by decide +kernel
theorem dX13_findSource_111 : decode cX13_findSource 111 = .ok (.aload_n 0, 1) := by decide +kernel
theorem dX13_findSource_112 : decode cX13_findSource 112 = .ok (.iload 5, 2) := by decide +kernel
theorem dX13_findSource_114 : decode cX13_findSource 114 = .ok (.iload 6, 2) := by decide +kernel
theorem dX13_findSource_116 : decode cX13_findSource 116 = .ok (.iload 7, 2) := by decide +kernel
theorem dX13_findSource_118 : decode cX13_findSource 118 = .ok (.iload 4, 2) := by decide +kernel
theorem dX13_findSource_120 : decode cX13_findSource 120 = .ok (.iconst 0, 1) := by decide +kernel
theorem dX13_findSource_121 : decode cX13_findSource 121 = .ok (.invokevirtual 629, 3) := by decide +kernel
theorem dX13_findSource_124 : decode cX13_findSource 124 = .ok (.iconst 0, 1) := by decide +kernel
theorem dX13_findSource_125 : decode cX13_findSource 125 = .ok (.invokevirtual 621, 3) := by decide +kernel
theorem dX13_findSource_128 : decode cX13_findSource 128 = .ok (.laload, 1) := by decide +kernel
theorem dX13_findSource_129 : decode cX13_findSource 129 = .ok (.lconst 0, 1) := by decide +kernel
theorem dX13_findSource_130 : decode cX13_findSource 130 = .ok (.lcmp, 1) := by decide +kernel
theorem dX13_findSource_131 : decode cX13_findSource 131 = .ok (.ifCond .le 7, 3) := by decide +kernel
theorem dX13_findSource_134 : decode cX13_findSource 134 = .ok (.iconst 1, 1) := by decide +kernel
theorem dX13_findSource_135 : decode cX13_findSource 135 = .ok (.goto 4, 3) := by decide +kernel
theorem dX13_findSource_138 : decode cX13_findSource 138 = .ok (.iconst 0, 1) := by decide +kernel
theorem dX13_findSource_139 : decode cX13_findSource 139 = .ok (.istore 8, 2) := by decide +kernel
theorem dX13_findSource_141 : decode cX13_findSource 141 = .ok (.aload_n 0, 1) := by decide +kernel
theorem dX13_findSource_142 : decode cX13_findSource 142 = .ok (.getfield 142, 3) := by decide +kernel
theorem dX13_findSource_145 : decode cX13_findSource 145 = .ok (.aload_n 0, 1) := by decide +kernel
theorem dX13_findSource_146 : decode cX13_findSource 146 = .ok (.iload 5, 2) := by decide +kernel
theorem dX13_findSource_148 : decode cX13_findSource 148 = .ok (.iconst 1, 1) := by decide +kernel
theorem dX13_findSource_149 : decode cX13_findSource 149 = .ok (.iadd, 1) := by decide +kernel
theorem dX13_findSource_150 : decode cX13_findSource 150 = .ok (.aload_n 0, 1) := by decide +kernel
theorem dX13_findSource_151 : decode cX13_findSource 151 = .ok (.iload 5, 2) := by decide +kernel
theorem dX13_findSource_153 : decode cX13_findSource 153 = .ok (.iload 6, 2) := by decide +kernel
theorem dX13_findSource_155 : decode cX13_findSource 155 = .ok (.iload 7, 2) := by decide +kernel
theorem dX13_findSource_157 : decode cX13_findSource 157 = .ok (.iload 4, 2) := by decide +kernel
theorem dX13_findSource_159 : decode cX13_findSource 159 = .ok (.iconst 1, 1) := by decide +kernel
theorem dX13_findSource_160 : decode cX13_findSource 160 = .ok (.invokevirtual 629, 3) := by decide +kernel
theorem dX13_findSource_163 : decode cX13_findSource 163 = .ok (.iconst 1, 1) := by decide +kernel
theorem dX13_findSource_164 : decode cX13_findSource 164 = .ok (.invokevirtual 621, 3) := by decide +kernel
theorem dX13_findSource_167 : decode cX13_findSource 167 = .ok (.laload, 1) := by decide +kernel
theorem dX13_findSource_168 : decode cX13_findSource 168 = .ok (.lconst 0, 1) := by decide +kernel
theorem dX13_findSource_169 : decode cX13_findSource 169 = .ok (.lcmp, 1) := by decide +kernel
theorem dX13_findSource_170 : decode cX13_findSource 170 = .ok (.ifCond .le 7, 3) := by decide +kernel
theorem dX13_findSource_173 : decode cX13_findSource 173 = .ok (.iconst 1, 1) := by decide +kernel
theorem dX13_findSource_174 : decode cX13_findSource 174 = .ok (.goto 4, 3) := by decide +kernel
theorem dX13_findSource_177 : decode cX13_findSource 177 = .ok (.iconst 0, 1) := by decide +kernel
theorem dX13_findSource_178 : decode cX13_findSource 178 = .ok (.istore 9, 2) := by decide +kernel
theorem dX13_findSource_180 : decode cX13_findSource 180 = .ok (.iload 8, 2) := by decide +kernel
theorem dX13_findSource_182 : decode cX13_findSource 182 = .ok (.ifCond .ne 11, 3) := by decide +kernel
theorem dX13_findSource_185 : decode cX13_findSource 185 = .ok (.iload 9, 2) := by decide +kernel
theorem dX13_findSource_187 : decode cX13_findSource 187 = .ok (.ifCond .ne 6, 3) := by decide +kernel
theorem dX13_findSource_190 : decode cX13_findSource 190 = .ok (.goto 81, 3) := by decide +kernel
theorem dX13_findSource_193 : decode cX13_findSource 193 = .ok (.iload 5, 2) := by decide +kernel
theorem dX13_findSource_195 : decode cX13_findSource 195 = .ok (.aload_n 0, 1) := by decide +kernel
theorem dX13_findSource_196 : decode cX13_findSource 196 = .ok (.getfield 618, 3) := by decide +kernel
theorem dX13_findSource_199 : decode cX13_findSource 199 = .ok (.if_icmp .ne 17, 3) := by decide +kernel
theorem dX13_findSource_202 : decode cX13_findSource 202 = .ok (.aload_n 0, 1) := by decide +kernel
theorem dX13_findSource_203 : decode cX13_findSource 203 = .ok (.iload 8, 2) := by decide +kernel
theorem dX13_findSource_205 : decode cX13_findSource 205 = .ok (.ifCond .eq 7, 3) := by decide +kernel
theorem dX13_findSource_208 : decode cX13_findSource 208 = .ok (.iconst 0, 1) := by decide +kernel
theorem dX13_findSource_209 : decode cX13_findSource 209 = .ok (.goto 4, 3) := by decide +kernel
theorem dX13_findSource_212 : decode cX13_findSource 212 = .ok (.iconst 1, 1) := by decide +kernel
theorem dX13_findSource_213 : decode cX13_findSource 213 = .ok (.putfield 640, 3) := by decide +kernel
theorem dX13_findSource_216 : decode cX13_findSource 216 = .ok (.aload_n 0, 1) := by decide +kernel
theorem dX13_findSource_217 : decode cX13_findSource 217 = .ok (.iload 5, 2) := by decide +kernel
theorem dX13_findSource_219 : decode cX13_findSource 219 = .ok (.iload 6, 2) := by decide +kernel
theorem dX13_findSource_221 : decode cX13_findSource 221 = .ok (.iload 7, 2) := by decide +kernel
theorem dX13_findSource_223 : decode cX13_findSource 223 = .ok (.iload 4, 2) := by decide +kernel
theorem dX13_findSource_225 : decode cX13_findSource 225 = .ok (.iload 5, 2) := by decide +kernel
theorem dX13_findSource_227 : decode cX13_findSource 227 = .ok (.aload_n 0, 1) := by decide +kernel
theorem dX13_findSource_228 : decode cX13_findSource 228 = .ok (.getfield 618, 3) := by decide +kernel
theorem dX13_findSource_231 : decode cX13_findSource 231 = .ok (.if_icmp .ne 10, 3) := by decide +kernel
theorem dX13_findSource_234 : decode cX13_findSource 234 = .ok (.aload_n 0, 1) := by decide +kernel
theorem dX13_findSource_235 : decode cX13_findSource 235 = .ok (.getfield 640, 3) := by decide +kernel
theorem dX13_findSource_238 : decode cX13_findSource 238 = .ok (.goto 4, 3) := by decide +kernel
theorem dX13_findSource_241 : decode cX13_findSource 241 = .ok (.iconst 1, 1) := by decide +kernel
theorem dX13_findSource_242 : decode cX13_findSource 242 = .ok (.invokevirtual 629, 3) := by decide +kernel
theorem dX13_findSource_245 : decode cX13_findSource 245 = .ok (.istore 4, 2) := by decide +kernel
theorem dX13_findSource_247 : decode cX13_findSource 247 = .ok (.aload_n 0, 1) := by decide +kernel
theorem dX13_findSource_248 : decode cX13_findSource 248 = .ok (.getfield 145, 3) := by decide +kernel
theorem dX13_findSource_251 : decode cX13_findSource 251 = .ok (.aload_n 0, 1) := by decide +kernel
theorem dX13_findSource_252 : decode cX13_findSource 252 = .ok (.getfield 637, 3) := by decide +kernel
theorem dX13_findSource_255 : decode cX13_findSource 255 = .ok (.iload 7, 2) := by decide +kernel
theorem dX13_findSource_257 : decode cX13_findSource 257 = .ok (.iastore, 1) := by decide +kernel
theorem dX13_findSource_258 : decode cX13_findSource 258 = .ok (.aload_n 0, 1) := by decide +kernel
theorem dX13_findSource_259 : decode cX13_findSource 259 = .ok (.dup, 1) := by decide +kernel
theorem dX13_findSource_260 : decode cX13_findSource 260 = .ok (.getfield 637, 3) := by decide +kernel
theorem dX13_findSource_263 : decode cX13_findSource 263 = .ok (.iconst 1, 1) := by decide +kernel
theorem dX13_findSource_264 : decode cX13_findSource 264 = .ok (.iadd, 1) := by decide +kernel
theorem dX13_findSource_265 : decode cX13_findSource 265 = .ok (.putfield 637, 3) := by decide +kernel
theorem dX13_findSource_268 : decode cX13_findSource 268 = .ok (.goto 9, 3) := by decide +kernel
theorem dX13_findSource_271 : decode cX13_findSource 271 = .ok (.iinc 7 1, 3) := by decide +kernel
theorem dX13_findSource_274 : decode cX13_findSource 274 = .ok (.goto (-202), 3) := by decide +kernel
theorem dX13_findSource_277 : decode cX13_findSource 277 = .ok (.iinc 5 1, 3) := by decide +kernel
theorem dX13_findSource_280 : decode cX13_findSource 280 = .ok (.goto (-264), 3) := by decide +kernel
theorem dX13_findSource_283 : decode cX13_findSource 283 = .ok (.return_, 1) := by decide +kernel
theorem dX13_unedited_0 : decode cX13_unedited 0 = .ok (.aload_n 0, 1) := by decide +kernel
theorem dX13_unedited_1 : decode cX13_unedited 1 = .ok (.iconst 0, 1) := by decide +kernel
theorem dX13_unedited_2 : decode cX13_unedited 2 = .ok (.putfield 187, 3) := by decide +kernel
theorem dX13_unedited_5 : decode cX13_unedited 5 = .ok (.aload_n 0, 1) := by decide +kernel
theorem dX13_unedited_6 : decode cX13_unedited 6 = .ok (.iload_n 1, 1) := by decide +kernel
theorem dX13_unedited_7 : decode cX13_unedited 7 = .ok (.iload_n 2, 1) := by decide +kernel
theorem dX13_unedited_8 : decode cX13_unedited 8 = .ok (.bipush 32, 2) := by decide +kernel
theorem dX13_unedited_10 : decode cX13_unedited 10 = .ok (.invokevirtual 603, 3) := by decide +kernel
theorem dX13_unedited_13 : decode cX13_unedited 13 = .ok (.ifCond .eq 11, 3) := by decide +kernel
theorem dX13_unedited_16 : decode cX13_unedited 16 = .ok (.iload_n 3, 1) := by decide +kernel
theorem dX13_unedited_17 : decode cX13_unedited 17 = .ok (.iload_n 2, 1) := by decide +kernel
theorem dX13_unedited_18 : decode cX13_unedited 18 = .ok (.invokestatic 427, 3) := by decide +kernel
theorem dX13_unedited_21 : decode cX13_unedited 21 = .ok (.ifCond .ne 10, 3) := by decide +kernel
theorem dX13_unedited_24 : decode cX13_unedited 24 = .ok (.aload_n 0, 1) := by decide +kernel
theorem dX13_unedited_25 : decode cX13_unedited 25 = .ok (.iconst 2, 1) := by decide +kernel
theorem dX13_unedited_26 : decode cX13_unedited 26 = .ok (.invokevirtual 329, 3) := by decide +kernel
theorem dX13_unedited_29 : decode cX13_unedited 29 = .ok (.i2l, 1) := by decide +kernel
theorem dX13_unedited_30 : decode cX13_unedited 30 = .ok (.lreturn, 1) := by decide +kernel
theorem dX13_unedited_31 : decode cX13_unedited 31 = .ok (.aload_n 0, 1) := by decide +kernel
theorem dX13_unedited_32 : decode cX13_unedited 32 = .ok (.iload_n 1, 1) := by decide +kernel
theorem dX13_unedited_33 : decode cX13_unedited 33 = .ok (.iload_n 2, 1) := by decide +kernel
theorem dX13_unedited_34 : decode cX13_unedited 34 = .ok (.iload_n 3, 1) := by decide +kernel
theorem dX13_unedited_35 : decode cX13_unedited 35 = .ok (.invokevirtual 643, 3) := by decide +kernel
theorem dX13_unedited_38 : decode cX13_unedited 38 = .ok (.aload_n 0, 1) := by decide +kernel
theorem dX13_unedited_39 : decode cX13_unedited 39 = .ok (.getfield 142, 3) := by decide +kernel
theorem dX13_unedited_42 : decode cX13_unedited 42 = .ok (.aload_n 0, 1) := by decide +kernel
theorem dX13_unedited_43 : decode cX13_unedited 43 = .ok (.iconst 0, 1) := by decide +kernel
theorem dX13_unedited_44 : decode cX13_unedited 44 = .ok (.iconst 0, 1) := by decide +kernel
theorem dX13_unedited_45 : decode cX13_unedited 45 = .ok (.iconst 0, 1) := by decide +kernel
theorem dX13_unedited_46 : decode cX13_unedited 46 = .ok (.invokevirtual 621, 3) := by decide +kernel
theorem dX13_unedited_49 : decode cX13_unedited 49 = .ok (.laload, 1) := by decide +kernel
theorem dX13_unedited_50 : decode cX13_unedited 50 = .ok (.aload_n 0, 1) := by decide +kernel
theorem dX13_unedited_51 : decode cX13_unedited 51 = .ok (.getfield 142, 3) := by decide +kernel
theorem dX13_unedited_54 : decode cX13_unedited 54 = .ok (.aload_n 0, 1) := by decide +kernel
theorem dX13_unedited_55 : decode cX13_unedited 55 = .ok (.iconst 0, 1) := by decide +kernel
theorem dX13_unedited_56 : decode cX13_unedited 56 = .ok (.iconst 0, 1) := by decide +kernel
