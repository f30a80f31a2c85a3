theorem dX8_faultPlace_0 : decode cX8_faultPlace 0 = .ok (.aload_n 0, 1) := by decide +kernel
theorem dX8_faultPlace_1 : decode cX8_faultPlace 1 = .ok (.getfield 63, 3) := by decide +kernel
theorem dX8_faultPlace_4 : decode cX8_faultPlace 4 = .ok (.ireturn, 1) := by decide +kernel
theorem dX8_readLaying_0 : decode cX8_readLaying 0 = .ok (.aload_n 0, 1) := by decide +kernel
theorem dX8_readLaying_1 : decode cX8_readLaying 1 = .ok (.iconst 0, 1) := by decide +kernel
theorem dX8_readLaying_2 : decode cX8_readLaying 2 = .ok (.sipush 255, 3) := by decide +kernel
theorem dX8_readLaying_5 : decode cX8_readLaying 5 = .ok (.invokevirtual 92, 3) := by decide +kernel
theorem dX8_readLaying_8 : decode cX8_readLaying 8 = .ok (.istore_n 1, 1) := by decide +kernel
theorem dX8_readLaying_9 : decode cX8_readLaying 9 = .ok (.aload_n 0, 1) := by decide +kernel
theorem dX8_readLaying_10 : decode cX8_readLaying 10 = .ok (.getfield 45, 3) := by decide +kernel
theorem dX8_readLaying_13 : decode cX8_readLaying 13 = .ok (.ifCond .eq 4, 3) := by decide +kernel
theorem dX8_readLaying_16 : decode cX8_readLaying 16 = .ok (.return_, 1) := by decide +kernel
theorem dX8_readLaying_17 : decode cX8_readLaying 17 = .ok (.aload_n 0, 1) := by decide +kernel
theorem dX8_readLaying_18 : decode cX8_readLaying 18 = .ok (.getfield 54, 3) := by decide +kernel
theorem dX8_readLaying_21 : decode cX8_readLaying 21 = .ok (.iconst 3, 1) := by decide +kernel
theorem dX8_readLaying_22 : decode cX8_readLaying 22 = .ok (.if_icmp .ne 11, 3) := by decide +kernel
theorem dX8_readLaying_25 : decode cX8_readLaying 25 = .ok (.aload_n 0, 1) := by decide +kernel
theorem dX8_readLaying_26 : decode cX8_readLaying 26 = .ok (.iload_n 1, 1) := by decide +kernel
theorem dX8_readLaying_27 : decode cX8_readLaying 27 = .ok (.invokevirtual 95, 3) := by decide +kernel
theorem dX8_readLaying_30 : decode cX8_readLaying 30 = .ok (.goto 8, 3) := by decide +kernel
theorem dX8_readLaying_33 : decode cX8_readLaying 33 = .ok (.aload_n 0, 1) := by decide +kernel
theorem dX8_readLaying_34 : decode cX8_readLaying 34 = .ok (.iload_n 1, 1) := by decide +kernel
theorem dX8_readLaying_35 : decode cX8_readLaying 35 = .ok (.invokevirtual 98, 3) := by decide +kernel
theorem dX8_readLaying_38 : decode cX8_readLaying 38 = .ok (.return_, 1) := by decide +kernel
theorem dX8_layHex_0 : decode cX8_layHex 0 = .ok (.aload_n 0, 1) := by decide +kernel
theorem dX8_layHex_1 : decode cX8_layHex 1 = .ok (.getfield 48, 3) := by decide +kernel
theorem dX8_layHex_4 : decode cX8_layHex 4 = .ok (.aload_n 0, 1) := by decide +kernel
theorem dX8_layHex_5 : decode cX8_layHex 5 = .ok (.getfield 101, 3) := by decide +kernel
theorem dX8_layHex_8 : decode cX8_layHex 8 = .ok (.isub, 1) := by decide +kernel
theorem dX8_layHex_9 : decode cX8_layHex 9 = .ok (.iconst 1, 1) := by decide +kernel
theorem dX8_layHex_10 : decode cX8_layHex 10 = .ok (.isub, 1) := by decide +kernel
theorem dX8_layHex_11 : decode cX8_layHex 11 = .ok (.istore_n 2, 1) := by decide +kernel
theorem dX8_layHex_12 : decode cX8_layHex 12 = .ok (.iload_n 2, 1) := by decide +kernel
theorem dX8_layHex_13 : decode cX8_layHex 13 = .ok (.iconst 2, 1) := by decide +kernel
theorem dX8_layHex_14 : decode cX8_layHex 14 = .ok (.irem, 1) := by decide +kernel
theorem dX8_layHex_15 : decode cX8_layHex 15 = .ok (.ifCond .ne 14, 3) := by decide +kernel
theorem dX8_layHex_18 : decode cX8_layHex 18 = .ok (.iload_n 1, 1) := by decide +kernel
theorem dX8_layHex_19 : decode cX8_layHex 19 = .ok (.iload_n 2, 1) := by decide +kernel
theorem dX8_layHex_20 : decode cX8_layHex 20 = .ok (.iconst 2, 1) := by decide +kernel
theorem dX8_layHex_21 : decode cX8_layHex 21 = .ok (.idiv, 1) := by decide +kernel
theorem dX8_layHex_22 : decode cX8_layHex 22 = .ok (.iadd, 1) := by decide +kernel
theorem dX8_layHex_23 : decode cX8_layHex 23 = .ok (.sipush 256, 3) := by decide +kernel
theorem dX8_layHex_26 : decode cX8_layHex 26 = .ok (.if_icmp .le 9, 3) := by decide +kernel
theorem dX8_layHex_29 : decode cX8_layHex 29 = .ok (.aload_n 0, 1) := by decide +kernel
theorem dX8_layHex_30 : decode cX8_layHex 30 = .ok (.iconst 2, 1) := by decide +kernel
theorem dX8_layHex_31 : decode cX8_layHex 31 = .ok (.invokevirtual 104, 3) := by decide +kernel
theorem dX8_layHex_34 : decode cX8_layHex 34 = .ok (.return_, 1) := by decide +kernel
theorem dX8_layHex_35 : decode cX8_layHex 35 = .ok (.iconst 0, 1) := by decide +kernel
theorem dX8_layHex_36 : decode cX8_layHex 36 = .ok (.istore_n 3, 1) := by decide +kernel
theorem dX8_layHex_37 : decode cX8_layHex 37 = .ok (.iload_n 3, 1) := by decide +kernel
theorem dX8_layHex_38 : decode cX8_layHex 38 = .ok (.iload_n 2, 1) := by decide +kernel
theorem dX8_layHex_39 : decode cX8_layHex 39 = .ok (.if_icmp .ge 36, 3) := by decide +kernel
theorem dX8_layHex_42 : decode cX8_layHex 42 = .ok (.aload_n 0, 1) := by decide +kernel
theorem dX8_layHex_43 : decode cX8_layHex 43 = .ok (.getfield 28, 3) := by decide +kernel
theorem dX8_layHex_46 : decode cX8_layHex 46 = .ok (.iconst 2, 1) := by decide +kernel
theorem dX8_layHex_47 : decode cX8_layHex 47 = .ok (.iload_n 1, 1) := by decide +kernel
theorem dX8_layHex_48 : decode cX8_layHex 48 = .ok (.imul, 1) := by decide +kernel
theorem dX8_layHex_49 : decode cX8_layHex 49 = .ok (.iload_n 3, 1) := by decide +kernel
theorem dX8_layHex_50 : decode cX8_layHex 50 = .ok (.iadd, 1) := by decide +kernel
theorem dX8_layHex_51 : decode cX8_layHex 51 = .ok (.aload_n 0, 1) := by decide +kernel
theorem dX8_layHex_52 : decode cX8_layHex 52 = .ok (.aload_n 0, 1) := by decide +kernel
theorem dX8_layHex_53 : decode cX8_layHex 53 = .ok (.getfield 101, 3) := by decide +kernel
theorem dX8_layHex_56 : decode cX8_layHex 56 = .ok (.iconst 1, 1) := by decide +kernel
theorem dX8_layHex_57 : decode cX8_layHex 57 = .ok (.iadd, 1) := by decide +kernel
theorem dX8_layHex_58 : decode cX8_layHex 58 = .ok (.iload_n 3, 1) := by decide +kernel
theorem dX8_layHex_59 : decode cX8_layHex 59 = .ok (.iadd, 1) := by decide +kernel
theorem dX8_layHex_60 : decode cX8_layHex 60 = .ok (.invokevirtual 107, 3) := by decide +kernel
theorem dX8_layHex_63 : decode cX8_layHex 63 = .ok (.invokestatic 111, 3) := by decide +kernel
theorem dX8_layHex_66 : decode cX8_layHex 66 = .ok (.invokevirtual 114, 3) := by decide +kernel
theorem dX8_layHex_69 : decode cX8_layHex 69 = .ok (.iinc 3 1, 3) := by decide +kernel
theorem dX8_layHex_72 : decode cX8_layHex 72 = .ok (.goto (-35), 3) := by decide +kernel
theorem dX8_layHex_75 : decode cX8_layHex 75 = .ok (.aload_n 0, 1) := by decide +kernel
theorem dX8_layHex_76 : decode cX8_layHex 76 = .ok (.invokevirtual 51, 3) := by decide +kernel
theorem dX8_layHex_79 : decode cX8_layHex 79 = .ok (.return_, 1) := by decide +kernel
theorem dX8_readDigits_0 : decode cX8_readDigits 0 = .ok (.aload_n 0, 1) := by decide +kernel
theorem dX8_readDigits_1 : decode cX8_readDigits 1 = .ok (.getfield 66, 3) := by decide +kernel
theorem dX8_readDigits_4 : decode cX8_readDigits 4 = .ok (.getstatic 118, 3) := by decide +kernel
theorem dX8_readDigits_7 : decode cX8_readDigits 7 = .ok (.if_acmp .ne 7, 3) := by decide +kernel
theorem dX8_readDigits_10 : decode cX8_readDigits 10 = .ok (.iconst 1, 1) := by decide +kernel
theorem dX8_readDigits_11 : decode cX8_readDigits 11 = .ok (.goto 4, 3) := by decide +kernel
theorem dX8_readDigits_14 : decode cX8_readDigits 14 = .ok (.iconst 0, 1) := by decide +kernel
theorem dX8_readDigits_15 : decode cX8_readDigits 15 = .ok (.istore_n 2, 1) := by decide +kernel
theorem dX8_readDigits_16 : decode cX8_readDigits 16 = .ok (.iload_n 2, 1) := by decide +kernel
theorem dX8_readDigits_17 : decode cX8_readDigits 17 = .ok (.ifCond .ne 19, 3) := by decide +kernel
theorem dX8_readDigits_20 : decode cX8_readDigits 20 = .ok (.aload_n 0, 1) := by decide +kernel
theorem dX8_readDigits_21 : decode cX8_readDigits 21 = .ok (.getfield 66, 3) := by decide +kernel
theorem dX8_readDigits_24 : decode cX8_readDigits 24 = .ok (.getstatic 121, 3) := by decide +kernel
theorem dX8_readDigits_27 : decode cX8_readDigits 27 = .ok (.if_acmp .eq 9, 3) := by decide +kernel
theorem dX8_readDigits_30 : decode cX8_readDigits 30 = .ok (.aload_n 0, 1) := by decide +kernel
theorem dX8_readDigits_31 : decode cX8_readDigits 31 = .ok (.iconst 1, 1) := by decide +kernel
theorem dX8_readDigits_32 : decode cX8_readDigits 32 = .ok (.invokevirtual 104, 3) := by decide +kernel
theorem dX8_readDigits_35 : decode cX8_readDigits 35 = .ok (.return_, 1) := by decide +kernel
theorem dX8_readDigits_36 : decode cX8_readDigits 36 = .ok (.aload_n 0, 1) := by decide +kernel
theorem dX8_readDigits_37 : decode cX8_readDigits 37 = .ok (.invokevirtual 51, 3) := by decide +kernel
theorem dX8_readDigits_40 : decode cX8_readDigits 40 = .ok (.aload_n 0, 1) := by decide +kernel
theorem dX8_readDigits_41 : decode cX8_readDigits 41 = .ok (.bipush 45, 2) := by decide +kernel
theorem dX8_readDigits_43 : decode cX8_readDigits 43 = .ok (.invokevirtual 124, 3) := by decide +kernel
theorem dX8_readDigits_46 : decode cX8_readDigits 46 = .ok (.ifCond .eq 8, 3) := by decide +kernel
theorem dX8_readDigits_49 : decode cX8_readDigits 49 = .ok (.bipush 13, 2) := by decide +kernel
theorem dX8_readDigits_51 : decode cX8_readDigits 51 = .ok (.goto 5, 3) := by decide +kernel
theorem dX8_readDigits_54 : decode cX8_readDigits 54 = .ok (.bipush 12, 2) := by decide +kernel
theorem dX8_readDigits_56 : decode cX8_readDigits 56 = .ok (.istore_n 3, 1) := by decide +kernel
theorem dX8_readDigits_57 : decode cX8_readDigits 57 = .ok (.aload_n 0, 1) := by decide +kernel
theorem dX8_readDigits_58 : decode cX8_readDigits 58 = .ok (.getfield 101, 3) := by decide +kernel
theorem dX8_readDigits_61 : decode cX8_readDigits 61 = .ok (.istore 4, 2) := by decide +kernel
theorem dX8_readDigits_63 : decode cX8_readDigits 63 = .ok (.aload_n 0, 1) := by decide +kernel
theorem dX8_readDigits_64 : decode cX8_readDigits 64 = .ok (.getfield 48, 3) := by decide +kernel
theorem dX8_readDigits_67 : decode cX8_readDigits 67 = .ok (.istore 5, 2) := by decide +kernel
theorem dX8_readDigits_69 : decode cX8_readDigits 69 = .ok (.aload_n 0, 1) := by decide +kernel
theorem dX8_readDigits_70 : decode cX8_readDigits 70 = .ok (.getfield 54, 3) := by decide +kernel
theorem dX8_readDigits_73 : decode cX8_readDigits 73 = .ok (.iconst 2, 1) := by decide +kernel
theorem dX8_readDigits_74 : decode cX8_readDigits 74 = .ok (.if_icmp .eq 9, 3) := by decide +kernel
theorem dX8_readDigits_77 : decode cX8_readDigits 77 = .ok (.aload_n 0, 1) := by decide +kernel
theorem dX8_readDigits_78 : decode cX8_readDigits 78 = .ok (.iconst 1, 1) := by decide +kernel
theorem dX8_readDigits_79 : decode cX8_readDigits 79 = .ok (.invokevirtual 104, 3) := by decide +kernel
theorem dX8_readDigits_82 : decode cX8_readDigits 82 = .ok (.return_, 1) := by decide +kernel
theorem dX8_readDigits_83 : decode cX8_readDigits 83 = .ok (.aload_n 0, 1) := by decide +kernel
theorem dX8_readDigits_84 : decode cX8_readDigits 84 = .ok (.invokevirtual 51, 3) := by decide +kernel
theorem dX8_readDigits_87 : decode cX8_readDigits 87 = .ok (.aload_n 0, 1) := by decide +kernel
theorem dX8_readDigits_88 : decode cX8_readDigits 88 = .ok (.getfield 66, 3) := by decide +kernel
theorem dX8_readDigits_91 : decode cX8_readDigits 91 = .ok (.getstatic 128, 3) := by decide +kernel
theorem dX8_readDigits_94 : decode cX8_readDigits 94 = .ok (.if_acmp .eq 9, 3) := by decide +kernel
theorem dX8_readDigits_97 : decode cX8_readDigits 97 = .ok (.aload_n 0, 1) := by decide +kernel
theorem dX8_readDigits_98 : decode cX8_readDigits 98 = .ok (.iconst 1, 1) := by decide +kernel
theorem dX8_readDigits_99 : decode cX8_readDigits 99 = .ok (.invokevirtual 104, 3) := by decide +kernel
theorem dX8_readDigits_102 : decode cX8_readDigits 102 = .ok (.return_, 1) := by decide +kernel
theorem dX8_readDigits_103 : decode cX8_readDigits 103 = .ok (.aload_n 0, 1) := by decide +kernel
theorem dX8_readDigits_104 : decode cX8_readDigits 104 = .ok (.invokevirtual 51, 3) := by decide +kernel
theorem dX8_readDigits_107 : decode cX8_readDigits 107 = .ok (.iload_n 2, 1) := by decide +kernel
theorem dX8_readDigits_108 : decode cX8_readDigits 108 = .ok (.ifCond .eq 11, 3) := by decide +kernel
theorem dX8_readDigits_111 : decode cX8_readDigits 111 = .ok (.iload 5, 2) := by decide +kernel
theorem dX8_readDigits_113 : decode cX8_readDigits 113 = .ok (.iload 4, 2) := by decide +kernel
theorem dX8_readDigits_115 : decode cX8_readDigits 115 = .ok (.isub, 1) := by decide +kernel
theorem dX8_readDigits_116 : decode cX8_readDigits 116 = .ok (.goto 12, 3) := by decide +kernel
theorem dX8_readDigits_119 : decode cX8_readDigits 119 = .ok (.iload 5, 2) := by decide +kernel
theorem dX8_readDigits_121 : decode cX8_readDigits 121 = .ok (.iload 4, 2) := by decide +kernel
theorem dX8_readDigits_123 : decode cX8_readDigits 123 = .ok (.isub, 1) := by decide +kernel
theorem dX8_readDigits_124 : decode cX8_readDigits 124 = .ok (.iconst 2, 1) := by decide +kernel
theorem dX8_readDigits_125 : decode cX8_readDigits 125 = .ok (.idiv, 1) := by decide +kernel
theorem dX8_readDigits_126 : decode cX8_readDigits 126 = .ok (.iconst 1, 1) := by decide +kernel
theorem dX8_readDigits_127 : decode cX8_readDigits 127 = .ok (.iadd, 1) := by decide +kernel
theorem dX8_readDigits_128 : decode cX8_readDigits 128 = .ok (.istore 6, 2) := by decide +kernel
theorem dX8_readDigits_130 : decode cX8_readDigits 130 = .ok (.aload_n 0, 1) := by decide +kernel
theorem dX8_readDigits_131 : decode cX8_readDigits 131 = .ok (.iload 6, 2) := by decide +kernel
theorem dX8_readDigits_133 : decode cX8_readDigits 133 = .ok (.bipush 16, 2) := by decide +kernel
theorem dX8_readDigits_135 : decode cX8_readDigits 135 = .ok (.sipush 256, 3) := by decide +kernel
theorem dX8_readDigits_138 : decode cX8_readDigits 138 = .ok (.iload_n 1, 1) := by decide +kernel
theorem dX8_readDigits_139 : decode cX8_readDigits 139 = .ok (.isub, 1) := by decide +kernel
theorem dX8_readDigits_140 : decode cX8_readDigits 140 = .ok (.invokestatic 32, 3) := by decide +kernel
theorem dX8_readDigits_143 : decode cX8_readDigits 143 = .ok (.invokevirtual 92, 3) := by decide +kernel
theorem dX8_readDigits_146 : decode cX8_readDigits 146 = .ok (.istore 7, 2) := by decide +kernel
theorem dX8_readDigits_148 : decode cX8_readDigits 148 = .ok (.aload_n 0, 1) := by decide +kernel
theorem dX8_readDigits_149 : decode cX8_readDigits 149 = .ok (.getfield 45, 3) := by decide +kernel
theorem dX8_readDigits_152 : decode cX8_readDigits 152 = .ok (.ifCond .eq 4, 3) := by decide +kernel
theorem dX8_readDigits_155 : decode cX8_readDigits 155 = .ok (.return_, 1) := by decide +kernel
theorem dX8_readDigits_156 : decode cX8_readDigits 156 = .ok (.iload_n 2, 1) := by decide +kernel
theorem dX8_readDigits_157 : decode cX8_readDigits 157 = .ok (.ifCond .eq 21, 3) := by decide +kernel
theorem dX8_readDigits_160 : decode cX8_readDigits 160 = .ok (.aload_n 0, 1) := by decide +kernel
theorem dX8_readDigits_161 : decode cX8_readDigits 161 = .ok (.iload_n 1, 1) := by decide +kernel
theorem dX8_readDigits_162 : decode cX8_readDigits 162 = .ok (.iload 7, 2) := by decide +kernel
theorem dX8_readDigits_164 : decode cX8_readDigits 164 = .ok (.iadd, 1) := by decide +kernel
theorem dX8_readDigits_165 : decode cX8_readDigits 165 = .ok (.iload 7, 2) := by decide +kernel
theorem dX8_readDigits_167 : decode cX8_readDigits 167 = .ok (.iload 4, 2) := by decide +kernel
theorem dX8_readDigits_169 : decode cX8_readDigits 169 = .ok (.iload 5, 2) := by decide +kernel
theorem dX8_readDigits_171 : decode cX8_readDigits 171 = .ok (.iload_n 3, 1) := by decide +kernel
theorem dX8_readDigits_172 : decode cX8_readDigits 172 = .ok (.invokevirtual 131, 3) := by decide +kernel
theorem dX8_readDigits_175 : decode cX8_readDigits 175 = .ok (.goto 18, 3) := by decide +kernel
theorem dX8_readDigits_178 : decode cX8_readDigits 178 = .ok (.aload_n 0, 1) := by decide +kernel
theorem dX8_readDigits_179 : decode cX8_readDigits 179 = .ok (.iload_n 1, 1) := by decide +kernel
theorem dX8_readDigits_180 : decode cX8_readDigits 180 = .ok (.iload 7, 2) := by decide +kernel
theorem dX8_readDigits_182 : decode cX8_readDigits 182 = .ok (.iadd, 1) := by decide +kernel
theorem dX8_readDigits_183 : decode cX8_readDigits 183 = .ok (.iload 7, 2) := by decide +kernel
theorem dX8_readDigits_185 : decode cX8_readDigits 185 = .ok (.iload 4, 2) := by decide +kernel
theorem dX8_readDigits_187 : decode cX8_readDigits 187 = .ok (.iload 5, 2) := by decide +kernel
theorem dX8_readDigits_189 : decode cX8_readDigits 189 = .ok (.iload_n 3, 1) := by decide +kernel
theorem dX8_readDigits_190 : decode cX8_readDigits 190 = .ok (.invokevirtual 135, 3) := by decide +kernel
theorem dX8_readDigits_193 : decode cX8_readDigits 193 = .ok (.return_, 1) := by decide +kernel
theorem dX8_layPacked_0 : decode cX8_layPacked 0 = .ok (.aload_n 0, 1) := by decide +kernel
theorem dX8_layPacked_1 : decode cX8_layPacked 1 = .ok (.getfield 28, 3) := by decide +kernel
theorem dX8_layPacked_4 : decode cX8_layPacked 4 = .ok (.iconst 2, 1) := by decide +kernel
theorem dX8_layPacked_5 : decode cX8_layPacked 5 = .ok (.iload_n 1, 1) := by decide +kernel
theorem dX8_layPacked_6 : decode cX8_layPacked 6 = .ok (.imul, 1) := by decide +kernel
theorem dX8_layPacked_7 : decode cX8_layPacked 7 = .ok (.iconst 1, 1) := by decide +kernel
theorem dX8_layPacked_8 : decode cX8_layPacked 8 = .ok (.isub, 1) := by decide +kernel
theorem dX8_layPacked_9 : decode cX8_layPacked 9 = .ok (.iload 5, 2) := by decide +kernel
theorem dX8_layPacked_11 : decode cX8_layPacked 11 = .ok (.invokevirtual 114, 3) := by decide +kernel
theorem dX8_layPacked_14 : decode cX8_layPacked 14 = .ok (.iconst 1, 1) := by decide +kernel
theorem dX8_layPacked_15 : decode cX8_layPacked 15 = .ok (.istore 6, 2) := by decide +kernel
theorem dX8_layPacked_17 : decode cX8_layPacked 17 = .ok (.iload 6, 2) := by decide +kernel
theorem dX8_layPacked_19 : decode cX8_layPacked 19 = .ok (.iconst 2, 1) := by decide +kernel
theorem dX8_layPacked_20 : decode cX8_layPacked 20 = .ok (.iload_n 2, 1) := by decide +kernel
theorem dX8_layPacked_21 : decode cX8_layPacked 21 = .ok (.imul, 1) := by decide +kernel
theorem dX8_layPacked_22 : decode cX8_layPacked 22 = .ok (.if_icmp .ge 33, 3) := by decide +kernel
theorem dX8_layPacked_25 : decode cX8_layPacked 25 = .ok (.aload_n 0, 1) := by decide +kernel
theorem dX8_layPacked_26 : decode cX8_layPacked 26 = .ok (.getfield 28, 3) := by decide +kernel
theorem dX8_layPacked_29 : decode cX8_layPacked 29 = .ok (.iconst 2, 1) := by decide +kernel
theorem dX8_layPacked_30 : decode cX8_layPacked 30 = .ok (.iload_n 1, 1) := by decide +kernel
theorem dX8_layPacked_31 : decode cX8_layPacked 31 = .ok (.imul, 1) := by decide +kernel
theorem dX8_layPacked_32 : decode cX8_layPacked 32 = .ok (.iconst 1, 1) := by decide +kernel
theorem dX8_layPacked_33 : decode cX8_layPacked 33 = .ok (.isub, 1) := by decide +kernel
theorem dX8_layPacked_34 : decode cX8_layPacked 34 = .ok (.iload 6, 2) := by decide +kernel
theorem dX8_layPacked_36 : decode cX8_layPacked 36 = .ok (.isub, 1) := by decide +kernel
theorem dX8_layPacked_37 : decode cX8_layPacked 37 = .ok (.aload_n 0, 1) := by decide +kernel
theorem dX8_layPacked_38 : decode cX8_layPacked 38 = .ok (.iload_n 3, 1) := by decide +kernel
theorem dX8_layPacked_39 : decode cX8_layPacked 39 = .ok (.iload 4, 2) := by decide +kernel
theorem dX8_layPacked_41 : decode cX8_layPacked 41 = .ok (.iload 6, 2) := by decide +kernel
theorem dX8_layPacked_43 : decode cX8_layPacked 43 = .ok (.invokevirtual 138, 3) := by decide +kernel
theorem dX8_layPacked_46 : decode cX8_layPacked 46 = .ok (.invokevirtual 114, 3) := by decide +kernel
theorem dX8_layPacked_49 : decode cX8_layPacked 49 = .ok (.iinc 6 1, 3) := by decide +kernel
theorem dX8_layPacked_52 : decode cX8_layPacked 52 = .ok (.goto (-35), 3) := by decide +kernel
theorem dX8_layPacked_55 : decode cX8_layPacked 55 = .ok (.return_, 1) := by decide +kernel
theorem dX8_layZoned_0 : decode cX8_layZoned 0 = .ok (.iconst 1, 1) := by decide +kernel
theorem dX8_layZoned_1 : decode cX8_layZoned 1 = .ok (.istore 6, 2) := by decide +kernel
theorem dX8_layZoned_3 : decode cX8_layZoned 3 = .ok (.iload 6, 2) := by decide +kernel
theorem dX8_layZoned_5 : decode cX8_layZoned 5 = .ok (.iload_n 2, 1) := by decide +kernel
theorem dX8_layZoned_6 : decode cX8_layZoned 6 = .ok (.if_icmp .gt 59, 3) := by decide +kernel
theorem dX8_layZoned_9 : decode cX8_layZoned 9 = .ok (.aload_n 0, 1) := by decide +kernel
theorem dX8_layZoned_10 : decode cX8_layZoned 10 = .ok (.getfield 28, 3) := by decide +kernel
theorem dX8_layZoned_13 : decode cX8_layZoned 13 = .ok (.iconst 2, 1) := by decide +kernel
theorem dX8_layZoned_14 : decode cX8_layZoned 14 = .ok (.iload_n 1, 1) := by decide +kernel
theorem dX8_layZoned_15 : decode cX8_layZoned 15 = .ok (.iload 6, 2) := by decide +kernel
theorem dX8_layZoned_17 : decode cX8_layZoned 17 = .ok (.isub, 1) := by decide +kernel
theorem dX8_layZoned_18 : decode cX8_layZoned 18 = .ok (.imul, 1) := by decide +kernel
theorem dX8_layZoned_19 : decode cX8_layZoned 19 = .ok (.iload 6, 2) := by decide +kernel
theorem dX8_layZoned_21 : decode cX8_layZoned 21 = .ok (.iconst 1, 1) := by decide +kernel
theorem dX8_layZoned_22 : decode cX8_layZoned 22 = .ok (.if_icmp .ne 8, 3) := by decide +kernel
theorem dX8_layZoned_25 : decode cX8_layZoned 25 = .ok (.iload 5, 2) := by decide +kernel
theorem dX8_layZoned_27 : decode cX8_layZoned 27 = .ok (.goto 5, 3) := by decide +kernel
theorem dX8_layZoned_30 : decode cX8_layZoned 30 = .ok (.bipush 15, 2) := by decide +kernel
theorem dX8_layZoned_32 : decode cX8_layZoned 32 = .ok (.invokevirtual 114, 3) := by decide +kernel
theorem dX8_layZoned_35 : decode cX8_layZoned 35 = .ok (.aload_n 0, 1) := by decide +kernel
theorem dX8_layZoned_36 : decode cX8_layZoned 36 = .ok (.getfield 28, 3) := by decide +kernel
theorem dX8_layZoned_39 : decode cX8_layZoned 39 = .ok (.iconst 2, 1) := by decide +kernel
theorem dX8_layZoned_40 : decode cX8_layZoned 40 = .ok (.iload_n 1, 1) := by decide +kernel
theorem dX8_layZoned_41 : decode cX8_layZoned 41 = .ok (.iload 6, 2) := by decide +kernel
theorem dX8_layZoned_43 : decode cX8_layZoned 43 = .ok (.isub, 1) := by decide +kernel
theorem dX8_layZoned_44 : decode cX8_layZoned 44 = .ok (.imul, 1) := by decide +kernel
theorem dX8_layZoned_45 : decode cX8_layZoned 45 = .ok (.iconst 1, 1) := by decide +kernel
theorem dX8_layZoned_46 : decode cX8_layZoned 46 = .ok (.iadd, 1) := by decide +kernel
theorem dX8_layZoned_47 : decode cX8_layZoned 47 = .ok (.aload_n 0, 1) := by decide +kernel
theorem dX8_layZoned_48 : decode cX8_layZoned 48 = .ok (.iload_n 3, 1) := by decide +kernel
theorem dX8_layZoned_49 : decode cX8_layZoned 49 = .ok (.iload 4, 2) := by decide +kernel
theorem dX8_layZoned_51 : decode cX8_layZoned 51 = .ok (.iload 6, 2) := by decide +kernel
theorem dX8_layZoned_53 : decode cX8_layZoned 53 = .ok (.invokevirtual 138, 3) := by decide +kernel
theorem dX8_layZoned_56 : decode cX8_layZoned 56 = .ok (.invokevirtual 114, 3) := by decide +kernel
theorem dX8_layZoned_59 : decode cX8_layZoned 59 = .ok (.iinc 6 1, 3) := by decide +kernel
theorem dX8_layZoned_62 : decode cX8_layZoned 62 = .ok (.goto (-59), 3) := by decide +kernel
theorem dX8_layZoned_65 : decode cX8_layZoned 65 = .ok (.return_, 1) := by decide +kernel
theorem dX8_digitBack_0 : decode cX8_digitBack 0 = .ok (.iload_n 2, 1) := by decide +kernel
theorem dX8_digitBack_1 : decode cX8_digitBack 1 = .ok (.iload_n 3, 1) := by decide +kernel
theorem dX8_digitBack_2 : decode cX8_digitBack 2 = .ok (.isub, 1) := by decide +kernel
theorem dX8_digitBack_3 : decode cX8_digitBack 3 = .ok (.iload_n 1, 1) := by decide +kernel
theorem dX8_digitBack_4 : decode cX8_digitBack 4 = .ok (.if_icmp .ge 7, 3) := by decide +kernel
theorem dX8_digitBack_7 : decode cX8_digitBack 7 = .ok (.iconst 0, 1) := by decide +kernel
theorem dX8_digitBack_8 : decode cX8_digitBack 8 = .ok (.goto 13, 3) := by decide +kernel
theorem dX8_digitBack_11 : decode cX8_digitBack 11 = .ok (.aload_n 0, 1) := by decide +kernel
theorem dX8_digitBack_12 : decode cX8_digitBack 12 = .ok (.iload_n 2, 1) := by decide +kernel
theorem dX8_digitBack_13 : decode cX8_digitBack 13 = .ok (.iload_n 3, 1) := by decide +kernel
theorem dX8_digitBack_14 : decode cX8_digitBack 14 = .ok (.isub, 1) := by decide +kernel
theorem dX8_digitBack_15 : decode cX8_digitBack 15 = .ok (.invokevirtual 107, 3) := by decide +kernel
theorem dX8_digitBack_18 : decode cX8_digitBack 18 = .ok (.bipush 48, 2) := by decide +kernel
theorem dX8_digitBack_20 : decode cX8_digitBack 20 = .ok (.isub, 1) := by decide +kernel
theorem dX8_digitBack_21 : decode cX8_digitBack 21 = .ok (.ireturn, 1) := by decide +kernel
theorem dX8_readLabel_0 : decode cX8_readLabel 0 = .ok (.aload_n 0, 1) := by decide +kernel
theorem dX8_readLabel_1 : decode cX8_readLabel 1 = .ok (.getfield 54, 3) := by decide +kernel
theorem dX8_readLabel_4 : decode cX8_readLabel 4 = .ok (.iconst 1, 1) := by decide +kernel
theorem dX8_readLabel_5 : decode cX8_readLabel 5 = .ok (.if_icmp .ne 10, 3) := by decide +kernel
theorem dX8_readLabel_8 : decode cX8_readLabel 8 = .ok (.aload_n 0, 1) := by decide +kernel
theorem dX8_readLabel_9 : decode cX8_readLabel 9 = .ok (.getfield 66, 3) := by decide +kernel
theorem dX8_readLabel_12 : decode cX8_readLabel 12 = .ok (.ifnull 5, 3) := by decide +kernel
theorem dX8_readLabel_15 : decode cX8_readLabel 15 = .ok (.lconst 0, 1) := by decide +kernel
theorem dX8_readLabel_16 : decode cX8_readLabel 16 = .ok (.lreturn, 1) := by decide +kernel
theorem dX8_readLabel_17 : decode cX8_readLabel 17 = .ok (.aload_n 0, 1) := by decide +kernel
theorem dX8_readLabel_18 : decode cX8_readLabel 18 = .ok (.invokevirtual 142, 3) := by decide +kernel
theorem dX8_readLabel_21 : decode cX8_readLabel 21 = .ok (.lstore_n 1, 1) := by decide +kernel
theorem dX8_readLabel_22 : decode cX8_readLabel 22 = .ok (.aload_n 0, 1) := by decide +kernel
theorem dX8_readLabel_23 : decode cX8_readLabel 23 = .ok (.getfield 45, 3) := by decide +kernel
theorem dX8_readLabel_26 : decode cX8_readLabel 26 = .ok (.ifCond .ne 17, 3) := by decide +kernel
theorem dX8_readLabel_29 : decode cX8_readLabel 29 = .ok (.aload_n 0, 1) := by decide +kernel
theorem dX8_readLabel_30 : decode cX8_readLabel 30 = .ok (.lload_n 1, 1) := by decide +kernel
theorem dX8_readLabel_31 : decode cX8_readLabel 31 = .ok (.invokevirtual 145, 3) := by decide +kernel
theorem dX8_readLabel_34 : decode cX8_readLabel 34 = .ok (.iconst (-1), 1) := by decide +kernel
theorem dX8_readLabel_35 : decode cX8_readLabel 35 = .ok (.if_icmp .eq 8, 3) := by decide +kernel
theorem dX8_readLabel_38 : decode cX8_readLabel 38 = .ok (.aload_n 0, 1) := by decide +kernel
theorem dX8_readLabel_39 : decode cX8_readLabel 39 = .ok (.iconst 4, 1) := by decide +kernel
theorem dX8_readLabel_40 : decode cX8_readLabel 40 = .ok (.invokevirtual 104, 3) := by decide +kernel
theorem dX8_readLabel_43 : decode cX8_readLabel 43 = .ok (.aload_n 0, 1) := by decide +kernel
theorem dX8_readLabel_44 : decode cX8_readLabel 44 = .ok (.getfield 45, 3) := by decide +kernel
theorem dX8_readLabel_47 : decode cX8_readLabel 47 = .ok (.ifCond .ne 13, 3) := by decide +kernel
theorem dX8_readLabel_50 : decode cX8_readLabel 50 = .ok (.aload_n 0, 1) := by decide +kernel
theorem dX8_readLabel_51 : decode cX8_readLabel 51 = .ok (.invokevirtual 51, 3) := by decide +kernel
theorem dX8_readLabel_54 : decode cX8_readLabel 54 = .ok (.aload_n 0, 1) := by decide +kernel
theorem dX8_readLabel_55 : decode cX8_readLabel 55 = .ok (.bipush 58, 2) := by decide +kernel
theorem dX8_readLabel_57 : decode cX8_readLabel 57 = .ok (.invokevirtual 86, 3) := by decide +kernel
theorem dX8_readLabel_60 : decode cX8_readLabel 60 = .ok (.lload_n 1, 1) := by decide +kernel
theorem dX8_readLabel_61 : decode cX8_readLabel 61 = .ok (.lreturn, 1) := by decide +kernel
theorem dX8_readPiece_0 : decode cX8_readPiece 0 = .ok (.iload_n 2, 1) := by decide +kernel
theorem dX8_readPiece_1 : decode cX8_readPiece 1 = .ok (.lookupswitch 452 #[(37, 310), (43, 381), (56, 301), (58, 239), (61, 290), (76, 262), (100, 367), (103, 431), (108, 248), (109, 276), (110, 445), (111, 417), (112, 155), (113, 197), (114, 319), (115, 333), (120, 170), (121, 212)], 155) := by decide +kernel
theorem dX8_readPiece_156 : decode cX8_readPiece 156 = .ok (.aload_n 1, 1) := by decide +kernel
theorem dX8_readPiece_157 : decode cX8_readPiece 157 = .ok (.aload_n 0, 1) := by decide +kernel
theorem dX8_readPiece_158 : decode cX8_readPiece 158 = .ok (.iconst 0, 1) := by decide +kernel
theorem dX8_readPiece_159 : decode cX8_readPiece 159 = .ok (.sipush 255, 3) := by decide +kernel
theorem dX8_readPiece_162 : decode cX8_readPiece 162 = .ok (.invokevirtual 92, 3) := by decide +kernel
theorem dX8_readPiece_165 : decode cX8_readPiece 165 = .ok (.putfield 177, 3) := by decide +kernel
theorem dX8_readPiece_168 : decode cX8_readPiece 168 = .ok (.goto 297, 3) := by decide +kernel
theorem dX8_readPiece_171 : decode cX8_readPiece 171 = .ok (.aload_n 1, 1) := by decide +kernel
theorem dX8_readPiece_172 : decode cX8_readPiece 172 = .ok (.aload_n 0, 1) := by decide +kernel
theorem dX8_readPiece_173 : decode cX8_readPiece 173 = .ok (.bipush 37, 2) := by decide +kernel
theorem dX8_readPiece_175 : decode cX8_readPiece 175 = .ok (.invokevirtual 124, 3) := by decide +kernel
theorem dX8_readPiece_178 : decode cX8_readPiece 178 = .ok (.ifCond .eq 13, 3) := by decide +kernel
theorem dX8_readPiece_181 : decode cX8_readPiece 181 = .ok (.aload_n 0, 1) := by decide +kernel
theorem dX8_readPiece_182 : decode cX8_readPiece 182 = .ok (.iconst 0, 1) := by decide +kernel
theorem dX8_readPiece_183 : decode cX8_readPiece 183 = .ok (.bipush 7, 2) := by decide +kernel
theorem dX8_readPiece_185 : decode cX8_readPiece 185 = .ok (.invokevirtual 92, 3) := by decide +kernel
theorem dX8_readPiece_188 : decode cX8_readPiece 188 = .ok (.goto 4, 3) := by decide +kernel
theorem dX8_readPiece_191 : decode cX8_readPiece 191 = .ok (.iconst (-1), 1) := by decide +kernel
theorem dX8_readPiece_192 : decode cX8_readPiece 192 = .ok (.putfield 182, 3) := by decide +kernel
theorem dX8_readPiece_195 : decode cX8_readPiece 195 = .ok (.goto 270, 3) := by decide +kernel
theorem dX8_readPiece_198 : decode cX8_readPiece 198 = .ok (.aload_n 1, 1) := by decide +kernel
theorem dX8_readPiece_199 : decode cX8_readPiece 199 = .ok (.aload_n 0, 1) := by decide +kernel
theorem dX8_readPiece_200 : decode cX8_readPiece 200 = .ok (.iconst 0, 1) := by decide +kernel
theorem dX8_readPiece_201 : decode cX8_readPiece 201 = .ok (.sipush 255, 3) := by decide +kernel
theorem dX8_readPiece_204 : decode cX8_readPiece 204 = .ok (.invokevirtual 92, 3) := by decide +kernel
theorem dX8_readPiece_207 : decode cX8_readPiece 207 = .ok (.putfield 185, 3) := by decide +kernel
theorem dX8_readPiece_210 : decode cX8_readPiece 210 = .ok (.goto 255, 3) := by decide +kernel
theorem dX8_readPiece_213 : decode cX8_readPiece 213 = .ok (.aload_n 1, 1) := by decide +kernel
theorem dX8_readPiece_214 : decode cX8_readPiece 214 = .ok (.aload_n 0, 1) := by decide +kernel
theorem dX8_readPiece_215 : decode cX8_readPiece 215 = .ok (.bipush 37, 2) := by decide +kernel
theorem dX8_readPiece_217 : decode cX8_readPiece 217 = .ok (.invokevirtual 124, 3) := by decide +kernel
theorem dX8_readPiece_220 : decode cX8_readPiece 220 = .ok (.ifCond .eq 13, 3) := by decide +kernel
theorem dX8_readPiece_223 : decode cX8_readPiece 223 = .ok (.aload_n 0, 1) := by decide +kernel
theorem dX8_readPiece_224 : decode cX8_readPiece 224 = .ok (.iconst 0, 1) := by decide +kernel
theorem dX8_readPiece_225 : decode cX8_readPiece 225 = .ok (.bipush 7, 2) := by decide +kernel
theorem dX8_readPiece_227 : decode cX8_readPiece 227 = .ok (.invokevirtual 92, 3) := by decide +kernel
theorem dX8_readPiece_230 : decode cX8_readPiece 230 = .ok (.goto 4, 3) := by decide +kernel
theorem dX8_readPiece_233 : decode cX8_readPiece 233 = .ok (.iconst (-1), 1) := by decide +kernel
theorem dX8_readPiece_234 : decode cX8_readPiece 234 = .ok (.putfield 188, 3) := by decide +kernel
theorem dX8_readPiece_237 : decode cX8_readPiece 237 = .ok (.goto 228, 3) := by decide +kernel
theorem dX8_readPiece_240 : decode cX8_readPiece 240 = .ok (.aload_n 0, 1) := by decide +kernel
theorem dX8_readPiece_241 : decode cX8_readPiece 241 = .ok (.bipush 58, 2) := by decide +kernel
theorem dX8_readPiece_243 : decode cX8_readPiece 243 = .ok (.invokevirtual 86, 3) := by decide +kernel
theorem dX8_readPiece_246 : decode cX8_readPiece 246 = .ok (.goto 219, 3) := by decide +kernel
theorem dX8_readPiece_249 : decode cX8_readPiece 249 = .ok (.aload_n 1, 1) := by decide +kernel
theorem dX8_readPiece_250 : decode cX8_readPiece 250 = .ok (.aload_n 0, 1) := by decide +kernel
theorem dX8_readPiece_251 : decode cX8_readPiece 251 = .ok (.iconst 1, 1) := by decide +kernel
theorem dX8_readPiece_252 : decode cX8_readPiece 252 = .ok (.bipush 16, 2) := by decide +kernel
theorem dX8_readPiece_254 : decode cX8_readPiece 254 = .ok (.invokevirtual 92, 3) := by decide +kernel
theorem dX8_readPiece_257 : decode cX8_readPiece 257 = .ok (.putfield 191, 3) := by decide +kernel
theorem dX8_readPiece_260 : decode cX8_readPiece 260 = .ok (.goto 205, 3) := by decide +kernel
theorem dX8_readPiece_263 : decode cX8_readPiece 263 = .ok (.aload_n 1, 1) := by decide +kernel
theorem dX8_readPiece_264 : decode cX8_readPiece 264 = .ok (.aload_n 0, 1) := by decide +kernel
theorem dX8_readPiece_265 : decode cX8_readPiece 265 = .ok (.iconst 1, 1) := by decide +kernel
theorem dX8_readPiece_266 : decode cX8_readPiece 266 = .ok (.bipush 64, 2) := by decide +kernel
theorem dX8_readPiece_268 : decode cX8_readPiece 268 = .ok (.invokevirtual 92, 3) := by decide +kernel
theorem dX8_readPiece_271 : decode cX8_readPiece 271 = .ok (.putfield 191, 3) := by decide +kernel
theorem dX8_readPiece_274 : decode cX8_readPiece 274 = .ok (.goto 191, 3) := by decide +kernel
theorem dX8_readPiece_277 : decode cX8_readPiece 277 = .ok (.aload_n 1, 1) := by decide +kernel
theorem dX8_readPiece_278 : decode cX8_readPiece 278 = .ok (.aload_n 0, 1) := by decide +kernel
theorem dX8_readPiece_279 : decode cX8_readPiece 279 = .ok (.iconst 1, 1) := by decide +kernel
theorem dX8_readPiece_280 : decode cX8_readPiece 280 = .ok (.bipush 16, 2) := by decide +kernel
theorem dX8_readPiece_282 : decode cX8_readPiece 282 = .ok (.invokevirtual 92, 3) := by decide +kernel
theorem dX8_readPiece_285 : decode cX8_readPiece 285 = .ok (.putfield 194, 3) := by decide +kernel
theorem dX8_readPiece_288 : decode cX8_readPiece 288 = .ok (.goto 177, 3) := by decide +kernel
theorem dX8_readPiece_291 : decode cX8_readPiece 291 = .ok (.aload_n 1, 1) := by decide +kernel
theorem dX8_readPiece_292 : decode cX8_readPiece 292 = .ok (.aload_n 1, 1) := by decide +kernel
theorem dX8_readPiece_293 : decode cX8_readPiece 293 = .ok (.getfield 191, 3) := by decide +kernel
theorem dX8_readPiece_296 : decode cX8_readPiece 296 = .ok (.putfield 194, 3) := by decide +kernel
theorem dX8_readPiece_299 : decode cX8_readPiece 299 = .ok (.goto 166, 3) := by decide +kernel
theorem dX8_readPiece_302 : decode cX8_readPiece 302 = .ok (.aload_n 1, 1) := by decide +kernel
theorem dX8_readPiece_303 : decode cX8_readPiece 303 = .ok (.bipush 8, 2) := by decide +kernel
theorem dX8_readPiece_305 : decode cX8_readPiece 305 = .ok (.putfield 191, 3) := by decide +kernel
theorem dX8_readPiece_308 : decode cX8_readPiece 308 = .ok (.goto 157, 3) := by decide +kernel
theorem dX8_readPiece_311 : decode cX8_readPiece 311 = .ok (.aload_n 0, 1) := by decide +kernel
theorem dX8_readPiece_312 : decode cX8_readPiece 312 = .ok (.bipush 37, 2) := by decide +kernel
theorem dX8_readPiece_314 : decode cX8_readPiece 314 = .ok (.invokevirtual 86, 3) := by decide +kernel
theorem dX8_readPiece_317 : decode cX8_readPiece 317 = .ok (.goto 148, 3) := by decide +kernel
theorem dX8_readPiece_320 : decode cX8_readPiece 320 = .ok (.aload_n 1, 1) := by decide +kernel
theorem dX8_readPiece_321 : decode cX8_readPiece 321 = .ok (.aload_n 0, 1) := by decide +kernel
theorem dX8_readPiece_322 : decode cX8_readPiece 322 = .ok (.iconst 0, 1) := by decide +kernel
theorem dX8_readPiece_323 : decode cX8_readPiece 323 = .ok (.bipush 7, 2) := by decide +kernel
theorem dX8_readPiece_325 : decode cX8_readPiece 325 = .ok (.invokevirtual 92, 3) := by decide +kernel
theorem dX8_readPiece_328 : decode cX8_readPiece 328 = .ok (.putfield 197, 3) := by decide +kernel
theorem dX8_readPiece_331 : decode cX8_readPiece 331 = .ok (.goto 134, 3) := by decide +kernel
theorem dX8_readPiece_334 : decode cX8_readPiece 334 = .ok (.aload_n 1, 1) := by decide +kernel
theorem dX8_readPiece_335 : decode cX8_readPiece 335 = .ok (.aload_n 0, 1) := by decide +kernel
theorem dX8_readPiece_336 : decode cX8_readPiece 336 = .ok (.bipush 45, 2) := by decide +kernel
theorem dX8_readPiece_338 : decode cX8_readPiece 338 = .ok (.invokevirtual 124, 3) := by decide +kernel
theorem dX8_readPiece_341 : decode cX8_readPiece 341 = .ok (.ifCond .eq 14, 3) := by decide +kernel
theorem dX8_readPiece_344 : decode cX8_readPiece 344 = .ok (.aload_n 0, 1) := by decide +kernel
theorem dX8_readPiece_345 : decode cX8_readPiece 345 = .ok (.iconst 0, 1) := by decide +kernel
theorem dX8_readPiece_346 : decode cX8_readPiece 346 = .ok (.bipush 32, 2) := by decide +kernel
theorem dX8_readPiece_348 : decode cX8_readPiece 348 = .ok (.invokevirtual 92, 3) := by decide +kernel
theorem dX8_readPiece_351 : decode cX8_readPiece 351 = .ok (.ineg, 1) := by decide +kernel
theorem dX8_readPiece_352 : decode cX8_readPiece 352 = .ok (.goto 10, 3) := by decide +kernel
theorem dX8_readPiece_355 : decode cX8_readPiece 355 = .ok (.aload_n 0, 1) := by decide +kernel
theorem dX8_readPiece_356 : decode cX8_readPiece 356 = .ok (.iconst 0, 1) := by decide +kernel
theorem dX8_readPiece_357 : decode cX8_readPiece 357 = .ok (.bipush 31, 2) := by decide +kernel
theorem dX8_readPiece_359 : decode cX8_readPiece 359 = .ok (.invokevirtual 92, 3) := by decide +kernel
theorem dX8_readPiece_362 : decode cX8_readPiece 362 = .ok (.putfield 200, 3) := by decide +kernel
theorem dX8_readPiece_365 : decode cX8_readPiece 365 = .ok (.goto 100, 3) := by decide +kernel
theorem dX8_readPiece_368 : decode cX8_readPiece 368 = .ok (.aload_n 1, 1) := by decide +kernel
theorem dX8_readPiece_369 : decode cX8_readPiece 369 = .ok (.aload_n 0, 1) := by decide +kernel
theorem dX8_readPiece_370 : decode cX8_readPiece 370 = .ok (.iconst 0, 1) := by decide +kernel
theorem dX8_readPiece_371 : decode cX8_readPiece 371 = .ok (.bipush 9, 2) := by decide +kernel
theorem dX8_readPiece_373 : decode cX8_readPiece 373 = .ok (.invokevirtual 92, 3) := by decide +kernel
theorem dX8_readPiece_376 : decode cX8_readPiece 376 = .ok (.putfield 203, 3) := by decide +kernel
theorem dX8_readPiece_379 : decode cX8_readPiece 379 = .ok (.goto 86, 3) := by decide +kernel
theorem dX8_readPiece_382 : decode cX8_readPiece 382 = .ok (.aload_n 1, 1) := by decide +kernel
theorem dX8_readPiece_383 : decode cX8_readPiece 383 = .ok (.aload_n 0, 1) := by decide +kernel
theorem dX8_readPiece_384 : decode cX8_readPiece 384 = .ok (.bipush 45, 2) := by decide +kernel
theorem dX8_readPiece_386 : decode cX8_readPiece 386 = .ok (.invokevirtual 124, 3) := by decide +kernel
theorem dX8_readPiece_389 : decode cX8_readPiece 389 = .ok (.ifCond .eq 15, 3) := by decide +kernel
theorem dX8_readPiece_392 : decode cX8_readPiece 392 = .ok (.aload_n 0, 1) := by decide +kernel
theorem dX8_readPiece_393 : decode cX8_readPiece 393 = .ok (.iconst 0, 1) := by decide +kernel
theorem dX8_readPiece_394 : decode cX8_readPiece 394 = .ok (.sipush 9999, 3) := by decide +kernel
theorem dX8_readPiece_397 : decode cX8_readPiece 397 = .ok (.invokevirtual 92, 3) := by decide +kernel
theorem dX8_readPiece_400 : decode cX8_readPiece 400 = .ok (.ineg, 1) := by decide +kernel
theorem dX8_readPiece_401 : decode cX8_readPiece 401 = .ok (.goto 11, 3) := by decide +kernel
theorem dX8_readPiece_404 : decode cX8_readPiece 404 = .ok (.aload_n 0, 1) := by decide +kernel
theorem dX8_readPiece_405 : decode cX8_readPiece 405 = .ok (.iconst 0, 1) := by decide +kernel
theorem dX8_readPiece_406 : decode cX8_readPiece 406 = .ok (.sipush 9999, 3) := by decide +kernel
theorem dX8_readPiece_409 : decode cX8_readPiece 409 = .ok (.invokevirtual 92, 3) := by decide +kernel
theorem dX8_readPiece_412 : decode cX8_readPiece 412 = .ok (.putfield 200, 3) := by decide +kernel
theorem dX8_readPiece_415 : decode cX8_readPiece 415 = .ok (.goto 50, 3) := by decide +kernel
theorem dX8_readPiece_418 : decode cX8_readPiece 418 = .ok (.aload_n 1, 1) := by decide +kernel
theorem dX8_readPiece_419 : decode cX8_readPiece 419 = .ok (.aload_n 0, 1) := by decide +kernel
theorem dX8_readPiece_420 : decode cX8_readPiece 420 = .ok (.iconst 0, 1) := by decide +kernel
theorem dX8_readPiece_421 : decode cX8_readPiece 421 = .ok (.bipush 15, 2) := by decide +kernel
theorem dX8_readPiece_423 : decode cX8_readPiece 423 = .ok (.invokevirtual 92, 3) := by decide +kernel
theorem dX8_readPiece_426 : decode cX8_readPiece 426 = .ok (.putfield 200, 3) := by decide +kernel
theorem dX8_readPiece_429 : decode cX8_readPiece 429 = .ok (.goto 36, 3) := by decide +kernel
theorem dX8_readPiece_432 : decode cX8_readPiece 432 = .ok (.aload_n 1, 1) := by decide +kernel
theorem dX8_readPiece_433 : decode cX8_readPiece 433 = .ok (.aload_n 0, 1) := by decide +kernel
theorem dX8_readPiece_434 : decode cX8_readPiece 434 = .ok (.iconst 1, 1) := by decide +kernel
theorem dX8_readPiece_435 : decode cX8_readPiece 435 = .ok (.bipush 8, 2) := by decide +kernel
theorem dX8_readPiece_437 : decode cX8_readPiece 437 = .ok (.invokevirtual 92, 3) := by decide +kernel
theorem dX8_readPiece_440 : decode cX8_readPiece 440 = .ok (.putfield 200, 3) := by decide +kernel
theorem dX8_readPiece_443 : decode cX8_readPiece 443 = .ok (.goto 22, 3) := by decide +kernel
theorem dX8_readPiece_446 : decode cX8_readPiece 446 = .ok (.aload_n 0, 1) := by decide +kernel
theorem dX8_readPiece_447 : decode cX8_readPiece 447 = .ok (.invokevirtual 206, 3) := by decide +kernel
theorem dX8_readPiece_450 : decode cX8_readPiece 450 = .ok (.goto 15, 3) := by decide +kernel
theorem dX8_readPiece_453 : decode cX8_readPiece 453 = .ok (.aload_n 0, 1) := by decide +kernel
theorem dX8_readPiece_454 : decode cX8_readPiece 454 = .ok (.getfield 54, 3) := by decide +kernel
theorem dX8_readPiece_457 : decode cX8_readPiece 457 = .ok (.iconst 1, 1) := by decide +kernel
theorem dX8_readPiece_458 : decode cX8_readPiece 458 = .ok (.if_icmp .ne 7, 3) := by decide +kernel
theorem dX8_readPiece_461 : decode cX8_readPiece 461 = .ok (.aload_n 0, 1) := by decide +kernel
theorem dX8_readPiece_462 : decode cX8_readPiece 462 = .ok (.invokevirtual 206, 3) := by decide +kernel
theorem dX8_readPiece_465 : decode cX8_readPiece 465 = .ok (.return_, 1) := by decide +kernel
theorem dX8_readTarget_0 : decode cX8_readTarget 0 = .ok (.aload_n 0, 1) := by decide +kernel
theorem dX8_readTarget_1 : decode cX8_readTarget 1 = .ok (.invokevirtual 142, 3) := by decide +kernel
theorem dX8_readTarget_4 : decode cX8_readTarget 4 = .ok (.lstore_n 1, 1) := by decide +kernel
theorem dX8_readTarget_5 : decode cX8_readTarget 5 = .ok (.aload_n 0, 1) := by decide +kernel
theorem dX8_readTarget_6 : decode cX8_readTarget 6 = .ok (.getfield 28, 3) := by decide +kernel
theorem dX8_readTarget_9 : decode cX8_readTarget 9 = .ok (.invokevirtual 153, 3) := by decide +kernel
theorem dX8_readTarget_12 : decode cX8_readTarget 12 = .ok (.iconst 1, 1) := by decide +kernel
theorem dX8_readTarget_13 : decode cX8_readTarget 13 = .ok (.isub, 1) := by decide +kernel
theorem dX8_readTarget_14 : decode cX8_readTarget 14 = .ok (.istore_n 3, 1) := by decide +kernel
theorem dX8_readTarget_15 : decode cX8_readTarget 15 = .ok (.aload_n 0, 1) := by decide +kernel
theorem dX8_readTarget_16 : decode cX8_readTarget 16 = .ok (.getfield 45, 3) := by decide +kernel
theorem dX8_readTarget_19 : decode cX8_readTarget 19 = .ok (.ifCond .ne 37, 3) := by decide +kernel
theorem dX8_readTarget_22 : decode cX8_readTarget 22 = .ok (.iload_n 3, 1) := by decide +kernel
theorem dX8_readTarget_23 : decode cX8_readTarget 23 = .ok (.ifCond .lt 33, 3) := by decide +kernel
theorem dX8_readTarget_26 : decode cX8_readTarget 26 = .ok (.iload_n 3, 1) := by decide +kernel
theorem dX8_readTarget_27 : decode cX8_readTarget 27 = .ok (.aload_n 0, 1) := by decide +kernel
theorem dX8_readTarget_28 : decode cX8_readTarget 28 = .ok (.getfield 17, 3) := by decide +kernel
theorem dX8_readTarget_31 : decode cX8_readTarget 31 = .ok (.arraylength, 1) := by decide +kernel
theorem dX8_readTarget_32 : decode cX8_readTarget 32 = .ok (.if_icmp .ge 24, 3) := by decide +kernel
theorem dX8_readTarget_35 : decode cX8_readTarget 35 = .ok (.aload_n 0, 1) := by decide +kernel
theorem dX8_readTarget_36 : decode cX8_readTarget 36 = .ok (.getfield 17, 3) := by decide +kernel
theorem dX8_readTarget_39 : decode cX8_readTarget 39 = .ok (.iload_n 3, 1) := by decide +kernel
theorem dX8_readTarget_40 : decode cX8_readTarget 40 = .ok (.lload_n 1, 1) := by decide +kernel
theorem dX8_readTarget_41 : decode cX8_readTarget 41 = .ok (.lastore, 1) := by decide +kernel
theorem dX8_readTarget_42 : decode cX8_readTarget 42 = .ok (.aload_n 0, 1) := by decide +kernel
theorem dX8_readTarget_43 : decode cX8_readTarget 43 = .ok (.getfield 20, 3) := by decide +kernel
theorem dX8_readTarget_46 : decode cX8_readTarget 46 = .ok (.iload_n 3, 1) := by decide +kernel
theorem dX8_readTarget_47 : decode cX8_readTarget 47 = .ok (.aload_n 0, 1) := by decide +kernel
theorem dX8_readTarget_48 : decode cX8_readTarget 48 = .ok (.getfield 101, 3) := by decide +kernel
theorem dX8_readTarget_51 : decode cX8_readTarget 51 = .ok (.iastore, 1) := by decide +kernel
theorem dX8_readTarget_52 : decode cX8_readTarget 52 = .ok (.aload_n 0, 1) := by decide +kernel
theorem dX8_readTarget_53 : decode cX8_readTarget 53 = .ok (.invokevirtual 51, 3) := by decide +kernel
theorem dX8_readTarget_56 : decode cX8_readTarget 56 = .ok (.return_, 1) := by decide +kernel
theorem dX8_bindNames_0 : decode cX8_bindNames 0 = .ok (.iconst 0, 1) := by decide +kernel
theorem dX8_bindNames_1 : decode cX8_bindNames 1 = .ok (.istore_n 1, 1) := by decide +kernel
theorem dX8_bindNames_2 : decode cX8_bindNames 2 = .ok (.iload_n 1, 1) := by decide +kernel
theorem dX8_bindNames_3 : decode cX8_bindNames 3 = .ok (.aload_n 0, 1) := by decide +kernel
theorem dX8_bindNames_4 : decode cX8_bindNames 4 = .ok (.getfield 28, 3) := by decide +kernel
theorem dX8_bindNames_7 : decode cX8_bindNames 7 = .ok (.invokevirtual 153, 3) := by decide +kernel
theorem dX8_bindNames_10 : decode cX8_bindNames 10 = .ok (.if_icmp .ge 86, 3) := by decide +kernel
theorem dX8_bindNames_13 : decode cX8_bindNames 13 = .ok (.iload_n 1, 1) := by decide +kernel
theorem dX8_bindNames_14 : decode cX8_bindNames 14 = .ok (.aload_n 0, 1) := by decide +kernel
theorem dX8_bindNames_15 : decode cX8_bindNames 15 = .ok (.getfield 17, 3) := by decide +kernel
theorem dX8_bindNames_18 : decode cX8_bindNames 18 = .ok (.arraylength, 1) := by decide +kernel
theorem dX8_bindNames_19 : decode cX8_bindNames 19 = .ok (.if_icmp .ge 77, 3) := by decide +kernel
theorem dX8_bindNames_22 : decode cX8_bindNames 22 = .ok (.aload_n 0, 1) := by decide +kernel
theorem dX8_bindNames_23 : decode cX8_bindNames 23 = .ok (.getfield 45, 3) := by decide +kernel
theorem dX8_bindNames_26 : decode cX8_bindNames 26 = .ok (.ifCond .ne 70, 3) := by decide +kernel
theorem dX8_bindNames_29 : decode cX8_bindNames 29 = .ok (.aload_n 0, 1) := by decide +kernel
theorem dX8_bindNames_30 : decode cX8_bindNames 30 = .ok (.getfield 28, 3) := by decide +kernel
theorem dX8_bindNames_33 : decode cX8_bindNames 33 = .ok (.iload_n 1, 1) := by decide +kernel
theorem dX8_bindNames_34 : decode cX8_bindNames 34 = .ok (.invokevirtual 209, 3) := by decide +kernel
theorem dX8_bindNames_37 : decode cX8_bindNames 37 = .ok (.astore_n 2, 1) := by decide +kernel
theorem dX8_bindNames_38 : decode cX8_bindNames 38 = .ok (.aload_n 2, 1) := by decide +kernel
theorem dX8_bindNames_39 : decode cX8_bindNames 39 = .ok (.ifnull 51, 3) := by decide +kernel
theorem dX8_bindNames_42 : decode cX8_bindNames 42 = .ok (.aload_n 0, 1) := by decide +kernel
theorem dX8_bindNames_43 : decode cX8_bindNames 43 = .ok (.getfield 17, 3) := by decide +kernel
theorem dX8_bindNames_46 : decode cX8_bindNames 46 = .ok (.iload_n 1, 1) := by decide +kernel
theorem dX8_bindNames_47 : decode cX8_bindNames 47 = .ok (.laload, 1) := by decide +kernel
theorem dX8_bindNames_48 : decode cX8_bindNames 48 = .ok (.lconst 0, 1) := by decide +kernel
theorem dX8_bindNames_49 : decode cX8_bindNames 49 = .ok (.lcmp, 1) := by decide +kernel
theorem dX8_bindNames_50 : decode cX8_bindNames 50 = .ok (.ifCond .eq 40, 3) := by decide +kernel
theorem dX8_bindNames_53 : decode cX8_bindNames 53 = .ok (.aload_n 2, 1) := by decide +kernel
theorem dX8_bindNames_54 : decode cX8_bindNames 54 = .ok (.aload_n 0, 1) := by decide +kernel
theorem dX8_bindNames_55 : decode cX8_bindNames 55 = .ok (.aload_n 0, 1) := by decide +kernel
theorem dX8_bindNames_56 : decode cX8_bindNames 56 = .ok (.getfield 17, 3) := by decide +kernel
theorem dX8_bindNames_59 : decode cX8_bindNames 59 = .ok (.iload_n 1, 1) := by decide +kernel
theorem dX8_bindNames_60 : decode cX8_bindNames 60 = .ok (.laload, 1) := by decide +kernel
theorem dX8_bindNames_61 : decode cX8_bindNames 61 = .ok (.invokevirtual 145, 3) := by decide +kernel
theorem dX8_bindNames_64 : decode cX8_bindNames 64 = .ok (.putfield 213, 3) := by decide +kernel
theorem dX8_bindNames_67 : decode cX8_bindNames 67 = .ok (.aload_n 2, 1) := by decide +kernel
theorem dX8_bindNames_68 : decode cX8_bindNames 68 = .ok (.getfield 213, 3) := by decide +kernel
theorem dX8_bindNames_71 : decode cX8_bindNames 71 = .ok (.iconst (-1), 1) := by decide +kernel
theorem dX8_bindNames_72 : decode cX8_bindNames 72 = .ok (.if_icmp .ne 18, 3) := by decide +kernel
theorem dX8_bindNames_75 : decode cX8_bindNames 75 = .ok (.aload_n 0, 1) := by decide +kernel
theorem dX8_bindNames_76 : decode cX8_bindNames 76 = .ok (.iconst 3, 1) := by decide +kernel
theorem dX8_bindNames_77 : decode cX8_bindNames 77 = .ok (.putfield 45, 3) := by decide +kernel
theorem dX8_bindNames_80 : decode cX8_bindNames 80 = .ok (.aload_n 0, 1) := by decide +kernel
theorem dX8_bindNames_81 : decode cX8_bindNames 81 = .ok (.aload_n 0, 1) := by decide +kernel
theorem dX8_bindNames_82 : decode cX8_bindNames 82 = .ok (.getfield 20, 3) := by decide +kernel
theorem dX8_bindNames_85 : decode cX8_bindNames 85 = .ok (.iload_n 1, 1) := by decide +kernel
theorem dX8_bindNames_86 : decode cX8_bindNames 86 = .ok (.iaload, 1) := by decide +kernel
theorem dX8_bindNames_87 : decode cX8_bindNames 87 = .ok (.putfield 63, 3) := by decide +kernel
theorem dX8_bindNames_90 : decode cX8_bindNames 90 = .ok (.iinc 1 1, 3) := by decide +kernel
theorem dX8_bindNames_93 : decode cX8_bindNames 93 = .ok (.goto (-91), 3) := by decide +kernel
theorem dX8_bindNames_96 : decode cX8_bindNames 96 = .ok (.return_, 1) := by decide +kernel
theorem dX8_named_0 : decode cX8_named 0 = .ok (.iconst 0, 1) := by decide +kernel
theorem dX8_named_1 : decode cX8_named 1 = .ok (.istore_n 3, 1) := by decide +kernel
theorem dX8_named_2 : decode cX8_named 2 = .ok (.iload_n 3, 1) := by decide +kernel
theorem dX8_named_3 : decode cX8_named 3 = .ok (.aload_n 0, 1) := by decide +kernel
theorem dX8_named_4 : decode cX8_named 4 = .ok (.getfield 28, 3) := by decide +kernel
theorem dX8_named_7 : decode cX8_named 7 = .ok (.invokevirtual 153, 3) := by decide +kernel
theorem dX8_named_10 : decode cX8_named 10 = .ok (.if_icmp .ge 31, 3) := by decide +kernel
theorem dX8_named_13 : decode cX8_named 13 = .ok (.iload_n 3, 1) := by decide +kernel
theorem dX8_named_14 : decode cX8_named 14 = .ok (.aload_n 0, 1) := by decide +kernel
theorem dX8_named_15 : decode cX8_named 15 = .ok (.getfield 11, 3) := by decide +kernel
theorem dX8_named_18 : decode cX8_named 18 = .ok (.arraylength, 1) := by decide +kernel
theorem dX8_named_19 : decode cX8_named 19 = .ok (.if_icmp .ge 22, 3) := by decide +kernel
theorem dX8_named_22 : decode cX8_named 22 = .ok (.aload_n 0, 1) := by decide +kernel
theorem dX8_named_23 : decode cX8_named 23 = .ok (.getfield 11, 3) := by decide +kernel
theorem dX8_named_26 : decode cX8_named 26 = .ok (.iload_n 3, 1) := by decide +kernel
theorem dX8_named_27 : decode cX8_named 27 = .ok (.laload, 1) := by decide +kernel
theorem dX8_named_28 : decode cX8_named 28 = .ok (.lload_n 1, 1) := by decide +kernel
theorem dX8_named_29 : decode cX8_named 29 = .ok (.lcmp, 1) := by decide +kernel
theorem dX8_named_30 : decode cX8_named 30 = .ok (.ifCond .ne 5, 3) := by decide +kernel
theorem dX8_named_33 : decode cX8_named 33 = .ok (.iload_n 3, 1) := by decide +kernel
theorem dX8_named_34 : decode cX8_named 34 = .ok (.ireturn, 1) := by decide +kernel
theorem dX8_named_35 : decode cX8_named 35 = .ok (.iinc 3 1, 3) := by decide +kernel
theorem dX8_named_38 : decode cX8_named 38 = .ok (.goto (-36), 3) := by decide +kernel
theorem dX8_named_41 : decode cX8_named 41 = .ok (.iconst (-1), 1) := by decide +kernel
theorem dX8_named_42 : decode cX8_named 42 = .ok (.ireturn, 1) := by decide +kernel
theorem dX8_nameHere_0 : decode cX8_nameHere 0 = .ok (.aload_n 0, 1) := by decide +kernel
theorem dX8_nameHere_1 : decode cX8_nameHere 1 = .ok (.getfield 54, 3) := by decide +kernel
theorem dX8_nameHere_4 : decode cX8_nameHere 4 = .ok (.iconst 1, 1) := by decide +kernel
theorem dX8_nameHere_5 : decode cX8_nameHere 5 = .ok (.if_icmp .ne 10, 3) := by decide +kernel
theorem dX8_nameHere_8 : decode cX8_nameHere 8 = .ok (.aload_n 0, 1) := by decide +kernel
theorem dX8_nameHere_9 : decode cX8_nameHere 9 = .ok (.getfield 66, 3) := by decide +kernel
theorem dX8_nameHere_12 : decode cX8_nameHere 12 = .ok (.ifnull 10, 3) := by decide +kernel
theorem dX8_nameHere_15 : decode cX8_nameHere 15 = .ok (.aload_n 0, 1) := by decide +kernel
theorem dX8_nameHere_16 : decode cX8_nameHere 16 = .ok (.iconst 1, 1) := by decide +kernel
theorem dX8_nameHere_17 : decode cX8_nameHere 17 = .ok (.invokevirtual 104, 3) := by decide +kernel
theorem dX8_nameHere_20 : decode cX8_nameHere 20 = .ok (.lconst 0, 1) := by decide +kernel
theorem dX8_nameHere_21 : decode cX8_nameHere 21 = .ok (.lreturn, 1) := by decide +kernel
theorem dX8_nameHere_22 : decode cX8_nameHere 22 = .ok (.aload_n 0, 1) := by decide +kernel
theorem dX8_nameHere_23 : decode cX8_nameHere 23 = .ok (.getfield 48, 3) := by decide +kernel
theorem dX8_nameHere_26 : decode cX8_nameHere 26 = .ok (.aload_n 0, 1) := by decide +kernel
theorem dX8_nameHere_27 : decode cX8_nameHere 27 = .ok (.getfield 101, 3) := by decide +kernel
theorem dX8_nameHere_30 : decode cX8_nameHere 30 = .ok (.isub, 1) := by decide +kernel
theorem dX8_nameHere_31 : decode cX8_nameHere 31 = .ok (.bipush 8, 2) := by decide +kernel
theorem dX8_nameHere_33 : decode cX8_nameHere 33 = .ok (.if_icmp .le 10, 3) := by decide +kernel
theorem dX8_nameHere_36 : decode cX8_nameHere 36 = .ok (.aload_n 0, 1) := by decide +kernel
theorem dX8_nameHere_37 : decode cX8_nameHere 37 = .ok (.iconst 2, 1) := by decide +kernel
theorem dX8_nameHere_38 : decode cX8_nameHere 38 = .ok (.invokevirtual 104, 3) := by decide +kernel
theorem dX8_nameHere_41 : decode cX8_nameHere 41 = .ok (.lconst 0, 1) := by decide +kernel
theorem dX8_nameHere_42 : decode cX8_nameHere 42 = .ok (.lreturn, 1) := by decide +kernel
theorem dX8_nameHere_43 : decode cX8_nameHere 43 = .ok (.lconst 0, 1) := by decide +kernel
theorem dX8_nameHere_44 : decode cX8_nameHere 44 = .ok (.lstore_n 1, 1) := by decide +kernel
theorem dX8_nameHere_45 : decode cX8_nameHere 45 = .ok (.aload_n 0, 1) := by decide +kernel
theorem dX8_nameHere_46 : decode cX8_nameHere 46 = .ok (.getfield 101, 3) := by decide +kernel
theorem dX8_nameHere_49 : decode cX8_nameHere 49 = .ok (.istore_n 3, 1) := by decide +kernel
theorem dX8_nameHere_50 : decode cX8_nameHere 50 = .ok (.iload_n 3, 1) := by decide +kernel
theorem dX8_nameHere_51 : decode cX8_nameHere 51 = .ok (.aload_n 0, 1) := by decide +kernel
theorem dX8_nameHere_52 : decode cX8_nameHere 52 = .ok (.getfield 48, 3) := by decide +kernel
theorem dX8_nameHere_55 : decode cX8_nameHere 55 = .ok (.if_icmp .ge 27, 3) := by decide +kernel
theorem dX8_nameHere_58 : decode cX8_nameHere 58 = .ok (.lload_n 1, 1) := by decide +kernel
theorem dX8_nameHere_59 : decode cX8_nameHere 59 = .ok (.ldc2_w 216, 3) := by decide +kernel
theorem dX8_nameHere_62 : decode cX8_nameHere 62 = .ok (.lmul, 1) := by decide +kernel
theorem dX8_nameHere_63 : decode cX8_nameHere 63 = .ok (.aload_n 0, 1) := by decide +kernel
theorem dX8_nameHere_64 : decode cX8_nameHere 64 = .ok (.iload_n 3, 1) := by decide +kernel
theorem dX8_nameHere_65 : decode cX8_nameHere 65 = .ok (.invokevirtual 107, 3) := by decide +kernel
theorem dX8_nameHere_68 : decode cX8_nameHere 68 = .ok (.bipush 97, 2) := by decide +kernel
theorem dX8_nameHere_70 : decode cX8_nameHere 70 = .ok (.isub, 1) := by decide +kernel
theorem dX8_nameHere_71 : decode cX8_nameHere 71 = .ok (.iconst 1, 1) := by decide +kernel
theorem dX8_nameHere_72 : decode cX8_nameHere 72 = .ok (.iadd, 1) := by decide +kernel
theorem dX8_nameHere_73 : decode cX8_nameHere 73 = .ok (.i2l, 1) := by decide +kernel
theorem dX8_nameHere_74 : decode cX8_nameHere 74 = .ok (.ladd, 1) := by decide +kernel
theorem dX8_nameHere_75 : decode cX8_nameHere 75 = .ok (.lstore_n 1, 1) := by decide +kernel
theorem dX8_nameHere_76 : decode cX8_nameHere 76 = .ok (.iinc 3 1, 3) := by decide +kernel
theorem dX8_nameHere_79 : decode cX8_nameHere 79 = .ok (.goto (-29), 3) := by decide +kernel
theorem dX8_nameHere_82 : decode cX8_nameHere 82 = .ok (.lload_n 1, 1) := by decide +kernel
theorem dX8_nameHere_83 : decode cX8_nameHere 83 = .ok (.lreturn, 1) := by decide +kernel
theorem dX8_isHere_0 : decode cX8_isHere 0 = .ok (.aload_n 0, 1) := by decide +kernel
theorem dX8_isHere_1 : decode cX8_isHere 1 = .ok (.getfield 45, 3) := by decide +kernel
theorem dX8_isHere_4 : decode cX8_isHere 4 = .ok (.ifCond .ne 27, 3) := by decide +kernel
theorem dX8_isHere_7 : decode cX8_isHere 7 = .ok (.aload_n 0, 1) := by decide +kernel
theorem dX8_isHere_8 : decode cX8_isHere 8 = .ok (.getfield 54, 3) := by decide +kernel
theorem dX8_isHere_11 : decode cX8_isHere 11 = .ok (.iconst 4, 1) := by decide +kernel
theorem dX8_isHere_12 : decode cX8_isHere 12 = .ok (.if_icmp .ne 19, 3) := by decide +kernel
theorem dX8_isHere_15 : decode cX8_isHere 15 = .ok (.aload_n 0, 1) := by decide +kernel
theorem dX8_isHere_16 : decode cX8_isHere 16 = .ok (.aload_n 0, 1) := by decide +kernel
theorem dX8_isHere_17 : decode cX8_isHere 17 = .ok (.getfield 101, 3) := by decide +kernel
theorem dX8_isHere_20 : decode cX8_isHere 20 = .ok (.invokevirtual 107, 3) := by decide +kernel
theorem dX8_isHere_23 : decode cX8_isHere 23 = .ok (.iload_n 1, 1) := by decide +kernel
theorem dX8_isHere_24 : decode cX8_isHere 24 = .ok (.if_icmp .ne 7, 3) := by decide +kernel
theorem dX8_isHere_27 : decode cX8_isHere 27 = .ok (.iconst 1, 1) := by decide +kernel
theorem dX8_isHere_28 : decode cX8_isHere 28 = .ok (.goto 4, 3) := by decide +kernel
theorem dX8_isHere_31 : decode cX8_isHere 31 = .ok (.iconst 0, 1) := by decide +kernel
theorem dX8_isHere_32 : decode cX8_isHere 32 = .ok (.ireturn, 1) := by decide +kernel
theorem dX8_passed_0 : decode cX8_passed 0 = .ok (.aload_n 0, 1) := by decide +kernel
theorem dX8_passed_1 : decode cX8_passed 1 = .ok (.iload_n 1, 1) := by decide +kernel
theorem dX8_passed_2 : decode cX8_passed 2 = .ok (.invokevirtual 218, 3) := by decide +kernel
theorem dX8_passed_5 : decode cX8_passed 5 = .ok (.istore_n 2, 1) := by decide +kernel
theorem dX8_passed_6 : decode cX8_passed 6 = .ok (.iload_n 2, 1) := by decide +kernel
theorem dX8_passed_7 : decode cX8_passed 7 = .ok (.ifCond .eq 7, 3) := by decide +kernel
theorem dX8_passed_10 : decode cX8_passed 10 = .ok (.aload_n 0, 1) := by decide +kernel
theorem dX8_passed_11 : decode cX8_passed 11 = .ok (.invokevirtual 51, 3) := by decide +kernel
theorem dX8_passed_14 : decode cX8_passed 14 = .ok (.iload_n 2, 1) := by decide +kernel
theorem dX8_passed_15 : decode cX8_passed 15 = .ok (.ireturn, 1) := by decide +kernel
theorem dX8_passSign_0 : decode cX8_passSign 0 = .ok (.aload_n 0, 1) := by decide +kernel
theorem dX8_passSign_1 : decode cX8_passSign 1 = .ok (.iload_n 1, 1) := by decide +kernel
theorem dX8_passSign_2 : decode cX8_passSign 2 = .ok (.invokevirtual 218, 3) := by decide +kernel
theorem dX8_passSign_5 : decode cX8_passSign 5 = .ok (.ifCond .eq 10, 3) := by decide +kernel
theorem dX8_passSign_8 : decode cX8_passSign 8 = .ok (.aload_n 0, 1) := by decide +kernel
theorem dX8_passSign_9 : decode cX8_passSign 9 = .ok (.invokevirtual 51, 3) := by decide +kernel
theorem dX8_passSign_12 : decode cX8_passSign 12 = .ok (.goto 8, 3) := by decide +kernel
theorem dX8_passSign_15 : decode cX8_passSign 15 = .ok (.aload_n 0, 1) := by decide +kernel
theorem dX8_passSign_16 : decode cX8_passSign 16 = .ok (.iconst 1, 1) := by decide +kernel
theorem dX8_passSign_17 : decode cX8_passSign 17 = .ok (.invokevirtual 104, 3) := by decide +kernel
theorem dX8_passSign_20 : decode cX8_passSign 20 = .ok (.return_, 1) := by decide +kernel
theorem dX8_passNumber_0 : decode cX8_passNumber 0 = .ok (.aload_n 0, 1) := by decide +kernel
theorem dX8_passNumber_1 : decode cX8_passNumber 1 = .ok (.getfield 45, 3) := by decide +kernel
theorem dX8_passNumber_4 : decode cX8_passNumber 4 = .ok (.ifCond .ne 11, 3) := by decide +kernel
theorem dX8_passNumber_7 : decode cX8_passNumber 7 = .ok (.aload_n 0, 1) := by decide +kernel
theorem dX8_passNumber_8 : decode cX8_passNumber 8 = .ok (.getfield 54, 3) := by decide +kernel
theorem dX8_passNumber_11 : decode cX8_passNumber 11 = .ok (.iconst 2, 1) := by decide +kernel
theorem dX8_passNumber_12 : decode cX8_passNumber 12 = .ok (.if_icmp .eq 10, 3) := by decide +kernel
theorem dX8_passNumber_15 : decode cX8_passNumber 15 = .ok (.aload_n 0, 1) := by decide +kernel
theorem dX8_passNumber_16 : decode cX8_passNumber 16 = .ok (.iconst 1, 1) := by decide +kernel
theorem dX8_passNumber_17 : decode cX8_passNumber 17 = .ok (.invokevirtual 104, 3) := by decide +kernel
theorem dX8_passNumber_20 : decode cX8_passNumber 20 = .ok (.iconst 0, 1) := by decide +kernel
theorem dX8_passNumber_21 : decode cX8_passNumber 21 = .ok (.ireturn, 1) := by decide +kernel
theorem dX8_passNumber_22 : decode cX8_passNumber 22 = .ok (.iconst 0, 1) := by decide +kernel
theorem dX8_passNumber_23 : decode cX8_passNumber 23 = .ok (.istore_n 3, 1) := by decide +kernel
theorem dX8_passNumber_24 : decode cX8_passNumber 24 = .ok (.aload_n 0, 1) := by decide +kernel
theorem dX8_passNumber_25 : decode cX8_passNumber 25 = .ok (.getfield 101, 3) := by decide +kernel
theorem dX8_passNumber_28 : decode cX8_passNumber 28 = .ok (.istore 4, 2) := by decide +kernel
theorem dX8_passNumber_30 : decode cX8_passNumber 30 = .ok (.iload 4, 2) := by decide +kernel
theorem dX8_passNumber_32 : decode cX8_passNumber 32 = .ok (.aload_n 0, 1) := by decide +kernel
theorem dX8_passNumber_33 : decode cX8_passNumber 33 = .ok (.getfield 48, 3) := by decide +kernel
theorem dX8_passNumber_36 : decode cX8_passNumber 36 = .ok (.if_icmp .ge 29, 3) := by decide +kernel
theorem dX8_passNumber_39 : decode cX8_passNumber 39 = .ok (.iload_n 3, 1) := by decide +kernel
theorem dX8_passNumber_40 : decode cX8_passNumber 40 = .ok (.bipush 10, 2) := by decide +kernel
theorem dX8_passNumber_42 : decode cX8_passNumber 42 = .ok (.imul, 1) := by decide +kernel
theorem dX8_passNumber_43 : decode cX8_passNumber 43 = .ok (.aload_n 0, 1) := by decide +kernel
theorem dX8_passNumber_44 : decode cX8_passNumber 44 = .ok (.iload 4, 2) := by decide +kernel
theorem dX8_passNumber_46 : decode cX8_passNumber 46 = .ok (.invokevirtual 107, 3) := by decide +kernel
theorem dX8_passNumber_49 : decode cX8_passNumber 49 = .ok (.iadd, 1) := by decide +kernel
theorem dX8_passNumber_50 : decode cX8_passNumber 50 = .ok (.bipush 48, 2) := by decide +kernel
theorem dX8_passNumber_52 : decode cX8_passNumber 52 = .ok (.isub, 1) := by decide +kernel
theorem dX8_passNumber_53 : decode cX8_passNumber 53 = .ok (.ldc 221, 2) := by decide +kernel
theorem dX8_passNumber_55 : decode cX8_passNumber 55 = .ok (.invokestatic 32, 3) := by decide +kernel
theorem dX8_passNumber_58 : decode cX8_passNumber 58 = .ok (.istore_n 3, 1) := by decide +kernel
theorem dX8_passNumber_59 : decode cX8_passNumber 59 = .ok (.iinc 4 1, 3) := by decide +kernel
theorem dX8_passNumber_62 : decode cX8_passNumber 62 = .ok (.goto (-32), 3) := by decide +kernel
theorem dX8_passNumber_65 : decode cX8_passNumber 65 = .ok (.iload_n 3, 1) := by decide +kernel
theorem dX8_passNumber_66 : decode cX8_passNumber 66 = .ok (.iload_n 1, 1) := by decide +kernel
theorem dX8_passNumber_67 : decode cX8_passNumber 67 = .ok (.if_icmp .lt 8, 3) := by decide +kernel
theorem dX8_passNumber_70 : decode cX8_passNumber 70 = .ok (.iload_n 3, 1) := by decide +kernel
theorem dX8_passNumber_71 : decode cX8_passNumber 71 = .ok (.iload_n 2, 1) := by decide +kernel
theorem dX8_passNumber_72 : decode cX8_passNumber 72 = .ok (.if_icmp .le 10, 3) := by decide +kernel
theorem dX8_passNumber_75 : decode cX8_passNumber 75 = .ok (.aload_n 0, 1) := by decide +kernel
theorem dX8_passNumber_76 : decode cX8_passNumber 76 = .ok (.iconst 2, 1) := by decide +kernel
theorem dX8_passNumber_77 : decode cX8_passNumber 77 = .ok (.invokevirtual 104, 3) := by decide +kernel
theorem dX8_passNumber_80 : decode cX8_passNumber 80 = .ok (.iconst 0, 1) := by decide +kernel
theorem dX8_passNumber_81 : decode cX8_passNumber 81 = .ok (.ireturn, 1) := by decide +kernel
theorem dX8_passNumber_82 : decode cX8_passNumber 82 = .ok (.aload_n 0, 1) := by decide +kernel
theorem dX8_passNumber_83 : decode cX8_passNumber 83 = .ok (.invokevirtual 51, 3) := by decide +kernel
theorem dX8_passNumber_86 : decode cX8_passNumber 86 = .ok (.iload_n 3, 1) := by decide +kernel
theorem dX8_passNumber_87 : decode cX8_passNumber 87 = .ok (.ireturn, 1) := by decide +kernel
theorem dX8_fail_0 : decode cX8_fail 0 = .ok (.aload_n 0, 1) := by decide +kernel
theorem dX8_fail_1 : decode cX8_fail 1 = .ok (.getfield 45, 3) := by decide +kernel
theorem dX8_fail_4 : decode cX8_fail 4 = .ok (.ifCond .ne 16, 3) := by decide +kernel
theorem dX8_fail_7 : decode cX8_fail 7 = .ok (.aload_n 0, 1) := by decide +kernel
theorem dX8_fail_8 : decode cX8_fail 8 = .ok (.iload_n 1, 1) := by decide +kernel
theorem dX8_fail_9 : decode cX8_fail 9 = .ok (.putfield 45, 3) := by decide +kernel
theorem dX8_fail_12 : decode cX8_fail 12 = .ok (.aload_n 0, 1) := by decide +kernel
theorem dX8_fail_13 : decode cX8_fail 13 = .ok (.aload_n 0, 1) := by decide +kernel
theorem dX8_fail_14 : decode cX8_fail 14 = .ok (.getfield 101, 3) := by decide +kernel
theorem dX8_fail_17 : decode cX8_fail 17 = .ok (.putfield 63, 3) := by decide +kernel
theorem dX8_fail_20 : decode cX8_fail 20 = .ok (.return_, 1) := by decide +kernel
theorem dX8_advance_0 : decode cX8_advance 0 = .ok (.aload_n 0, 1) := by decide +kernel
theorem dX8_advance_1 : decode cX8_advance 1 = .ok (.aload_n 0, 1) := by decide +kernel
theorem dX8_advance_2 : decode cX8_advance 2 = .ok (.getfield 48, 3) := by decide +kernel
theorem dX8_advance_5 : decode cX8_advance 5 = .ok (.putfield 101, 3) := by decide +kernel
theorem dX8_advance_8 : decode cX8_advance 8 = .ok (.aload_n 0, 1) := by decide +kernel
theorem dX8_advance_9 : decode cX8_advance 9 = .ok (.getfield 101, 3) := by decide +kernel
theorem dX8_advance_12 : decode cX8_advance 12 = .ok (.aload_n 0, 1) := by decide +kernel
theorem dX8_advance_13 : decode cX8_advance 13 = .ok (.getfield 38, 3) := by decide +kernel
theorem dX8_advance_16 : decode cX8_advance 16 = .ok (.if_icmp .ge 42, 3) := by decide +kernel
theorem dX8_advance_19 : decode cX8_advance 19 = .ok (.aload_n 0, 1) := by decide +kernel
theorem dX8_advance_20 : decode cX8_advance 20 = .ok (.aload_n 0, 1) := by decide +kernel
theorem dX8_advance_21 : decode cX8_advance 21 = .ok (.getfield 101, 3) := by decide +kernel
theorem dX8_advance_24 : decode cX8_advance 24 = .ok (.invokevirtual 107, 3) := by decide +kernel
theorem dX8_advance_27 : decode cX8_advance 27 = .ok (.bipush 32, 2) := by decide +kernel
theorem dX8_advance_29 : decode cX8_advance 29 = .ok (.if_icmp .eq 16, 3) := by decide +kernel
theorem dX8_advance_32 : decode cX8_advance 32 = .ok (.aload_n 0, 1) := by decide +kernel
theorem dX8_advance_33 : decode cX8_advance 33 = .ok (.aload_n 0, 1) := by decide +kernel
theorem dX8_advance_34 : decode cX8_advance 34 = .ok (.getfield 101, 3) := by decide +kernel
theorem dX8_advance_37 : decode cX8_advance 37 = .ok (.invokevirtual 107, 3) := by decide +kernel
theorem dX8_advance_40 : decode cX8_advance 40 = .ok (.bipush 10, 2) := by decide +kernel
theorem dX8_advance_42 : decode cX8_advance 42 = .ok (.if_icmp .ne 16, 3) := by decide +kernel
theorem dX8_advance_45 : decode cX8_advance 45 = .ok (.aload_n 0, 1) := by decide +kernel
theorem dX8_advance_46 : decode cX8_advance 46 = .ok (.dup, 1) := by decide +kernel
theorem dX8_advance_47 : decode cX8_advance 47 = .ok (.getfield 101, 3) := by decide +kernel
theorem dX8_advance_50 : decode cX8_advance 50 = .ok (.iconst 1, 1) := by decide +kernel
theorem dX8_advance_51 : decode cX8_advance 51 = .ok (.iadd, 1) := by decide +kernel
theorem dX8_advance_52 : decode cX8_advance 52 = .ok (.putfield 101, 3) := by decide +kernel
theorem dX8_advance_55 : decode cX8_advance 55 = .ok (.goto (-47), 3) := by decide +kernel
theorem dX8_advance_58 : decode cX8_advance 58 = .ok (.aload_n 0, 1) := by decide +kernel
theorem dX8_advance_59 : decode cX8_advance 59 = .ok (.aload_n 0, 1) := by decide +kernel
theorem dX8_advance_60 : decode cX8_advance 60 = .ok (.getfield 101, 3) := by decide +kernel
theorem dX8_advance_63 : decode cX8_advance 63 = .ok (.iconst 1, 1) := by decide +kernel
theorem dX8_advance_64 : decode cX8_advance 64 = .ok (.iadd, 1) := by decide +kernel
theorem dX8_advance_65 : decode cX8_advance 65 = .ok (.putfield 48, 3) := by decide +kernel
theorem dX8_advance_68 : decode cX8_advance 68 = .ok (.aload_n 0, 1) := by decide +kernel
theorem dX8_advance_69 : decode cX8_advance 69 = .ok (.aconst_null, 1) := by decide +kernel
theorem dX8_advance_70 : decode cX8_advance 70 = .ok (.putfield 66, 3) := by decide +kernel
theorem dX8_advance_73 : decode cX8_advance 73 = .ok (.aload_n 0, 1) := by decide +kernel
theorem dX8_advance_74 : decode cX8_advance 74 = .ok (.aload_n 0, 1) := by decide +kernel
theorem dX8_advance_75 : decode cX8_advance 75 = .ok (.getfield 101, 3) := by decide +kernel
theorem dX8_advance_78 : decode cX8_advance 78 = .ok (.invokevirtual 107, 3) := by decide +kernel
theorem dX8_advance_81 : decode cX8_advance 81 = .ok (.istore_n 1, 1) := by decide +kernel
theorem dX8_advance_82 : decode cX8_advance 82 = .ok (.aload_n 0, 1) := by decide +kernel
theorem dX8_advance_83 : decode cX8_advance 83 = .ok (.getfield 101, 3) := by decide +kernel
theorem dX8_advance_86 : decode cX8_advance 86 = .ok (.aload_n 0, 1) := by decide +kernel
theorem dX8_advance_87 : decode cX8_advance 87 = .ok (.getfield 38, 3) := by decide +kernel
theorem dX8_advance_90 : decode cX8_advance 90 = .ok (.if_icmp .lt 19, 3) := by decide +kernel
theorem dX8_advance_93 : decode cX8_advance 93 = .ok (.aload_n 0, 1) := by decide +kernel
theorem dX8_advance_94 : decode cX8_advance 94 = .ok (.iconst 5, 1) := by decide +kernel
theorem dX8_advance_95 : decode cX8_advance 95 = .ok (.putfield 54, 3) := by decide +kernel
theorem dX8_advance_98 : decode cX8_advance 98 = .ok (.aload_n 0, 1) := by decide +kernel
theorem dX8_advance_99 : decode cX8_advance 99 = .ok (.aload_n 0, 1) := by decide +kernel
theorem dX8_advance_100 : decode cX8_advance 100 = .ok (.getfield 101, 3) := by decide +kernel
theorem dX8_advance_103 : decode cX8_advance 103 = .ok (.putfield 48, 3) := by decide +kernel
theorem dX8_advance_106 : decode cX8_advance 106 = .ok (.goto 230, 3) := by decide +kernel
theorem dX8_advance_109 : decode cX8_advance 109 = .ok (.iload_n 1, 1) := by decide +kernel
theorem dX8_advance_110 : decode cX8_advance 110 = .ok (.invokestatic 222, 3) := by decide +kernel
theorem dX8_advance_113 : decode cX8_advance 113 = .ok (.ifCond .eq 68, 3) := by decide +kernel
theorem dX8_advance_116 : decode cX8_advance 116 = .ok (.aload_n 0, 1) := by decide +kernel
theorem dX8_advance_117 : decode cX8_advance 117 = .ok (.iconst 1, 1) := by decide +kernel
theorem dX8_advance_118 : decode cX8_advance 118 = .ok (.putfield 54, 3) := by decide +kernel
theorem dX8_advance_121 : decode cX8_advance 121 = .ok (.aload_n 0, 1) := by decide +kernel
theorem dX8_advance_122 : decode cX8_advance 122 = .ok (.getfield 48, 3) := by decide +kernel
theorem dX8_advance_125 : decode cX8_advance 125 = .ok (.aload_n 0, 1) := by decide +kernel
theorem dX8_advance_126 : decode cX8_advance 126 = .ok (.getfield 38, 3) := by decide +kernel
theorem dX8_advance_129 : decode cX8_advance 129 = .ok (.if_icmp .ge 30, 3) := by decide +kernel
theorem dX8_advance_132 : decode cX8_advance 132 = .ok (.aload_n 0, 1) := by decide +kernel
theorem dX8_advance_133 : decode cX8_advance 133 = .ok (.aload_n 0, 1) := by decide +kernel
theorem dX8_advance_134 : decode cX8_advance 134 = .ok (.getfield 48, 3) := by decide +kernel
theorem dX8_advance_137 : decode cX8_advance 137 = .ok (.invokevirtual 107, 3) := by decide +kernel
theorem dX8_advance_140 : decode cX8_advance 140 = .ok (.invokestatic 222, 3) := by decide +kernel
theorem dX8_advance_143 : decode cX8_advance 143 = .ok (.ifCond .eq 16, 3) := by decide +kernel
theorem dX8_advance_146 : decode cX8_advance 146 = .ok (.aload_n 0, 1) := by decide +kernel
theorem dX8_advance_147 : decode cX8_advance 147 = .ok (.dup, 1) := by decide +kernel
theorem dX8_advance_148 : decode cX8_advance 148 = .ok (.getfield 48, 3) := by decide +kernel
theorem dX8_advance_151 : decode cX8_advance 151 = .ok (.iconst 1, 1) := by decide +kernel
theorem dX8_advance_152 : decode cX8_advance 152 = .ok (.iadd, 1) := by decide +kernel
theorem dX8_advance_153 : decode cX8_advance 153 = .ok (.putfield 48, 3) := by decide +kernel
theorem dX8_advance_156 : decode cX8_advance 156 = .ok (.goto (-35), 3) := by decide +kernel
theorem dX8_advance_159 : decode cX8_advance 159 = .ok (.aload_n 0, 1) := by decide +kernel
theorem dX8_advance_160 : decode cX8_advance 160 = .ok (.aload_n 0, 1) := by decide +kernel
theorem dX8_advance_161 : decode cX8_advance 161 = .ok (.getfield 24, 3) := by decide +kernel
theorem dX8_advance_164 : decode cX8_advance 164 = .ok (.aload_n 0, 1) := by decide +kernel
theorem dX8_advance_165 : decode cX8_advance 165 = .ok (.getfield 101, 3) := by decide +kernel
theorem dX8_advance_168 : decode cX8_advance 168 = .ok (.aload_n 0, 1) := by decide +kernel
theorem dX8_advance_169 : decode cX8_advance 169 = .ok (.getfield 48, 3) := by decide +kernel
theorem dX8_advance_172 : decode cX8_advance 172 = .ok (.invokestatic 225, 3) := by decide +kernel
theorem dX8_advance_175 : decode cX8_advance 175 = .ok (.putfield 66, 3) := by decide +kernel
theorem dX8_advance_178 : decode cX8_advance 178 = .ok (.goto 158, 3) := by decide +kernel
theorem dX8_advance_181 : decode cX8_advance 181 = .ok (.iload_n 1, 1) := by decide +kernel
theorem dX8_advance_182 : decode cX8_advance 182 = .ok (.invokestatic 228, 3) := by decide +kernel
theorem dX8_advance_185 : decode cX8_advance 185 = .ok (.ifCond .eq 46, 3) := by decide +kernel
theorem dX8_advance_188 : decode cX8_advance 188 = .ok (.aload_n 0, 1) := by decide +kernel
theorem dX8_advance_189 : decode cX8_advance 189 = .ok (.iconst 2, 1) := by decide +kernel
theorem dX8_advance_190 : decode cX8_advance 190 = .ok (.putfield 54, 3) := by decide +kernel
theorem dX8_advance_193 : decode cX8_advance 193 = .ok (.aload_n 0, 1) := by decide +kernel
theorem dX8_advance_194 : decode cX8_advance 194 = .ok (.getfield 48, 3) := by decide +kernel
theorem dX8_advance_197 : decode cX8_advance 197 = .ok (.aload_n 0, 1) := by decide +kernel
theorem dX8_advance_198 : decode cX8_advance 198 = .ok (.getfield 38, 3) := by decide +kernel
theorem dX8_advance_201 : decode cX8_advance 201 = .ok (.if_icmp .ge 135, 3) := by decide +kernel
theorem dX8_advance_204 : decode cX8_advance 204 = .ok (.aload_n 0, 1) := by decide +kernel
theorem dX8_advance_205 : decode cX8_advance 205 = .ok (.aload_n 0, 1) := by decide +kernel
theorem dX8_advance_206 : decode cX8_advance 206 = .ok (.getfield 48, 3) := by decide +kernel
theorem dX8_advance_209 : decode cX8_advance 209 = .ok (.invokevirtual 107, 3) := by decide +kernel
theorem dX8_advance_212 : decode cX8_advance 212 = .ok (.invokestatic 228, 3) := by decide +kernel
theorem dX8_advance_215 : decode cX8_advance 215 = .ok (.ifCond .eq 121, 3) := by decide +kernel
theorem dX8_advance_218 : decode cX8_advance 218 = .ok (.aload_n 0, 1) := by decide +kernel
theorem dX8_advance_219 : decode cX8_advance 219 = .ok (.dup, 1) := by decide +kernel
theorem dX8_advance_220 : decode cX8_advance 220 = .ok (.getfield 48, 3) := by decide +kernel
theorem dX8_advance_223 : decode cX8_advance 223 = .ok (.iconst 1, 1) := by decide +kernel
theorem dX8_advance_224 : decode cX8_advance 224 = .ok (.iadd, 1) := by decide +kernel
theorem dX8_advance_225 : decode cX8_advance 225 = .ok (.putfield 48, 3) := by decide +kernel
theorem dX8_advance_228 : decode cX8_advance 228 = .ok (.goto (-35), 3) := by decide +kernel
theorem dX8_advance_231 : decode cX8_advance 231 = .ok (.iload_n 1, 1) := by decide +kernel
theorem dX8_advance_232 : decode cX8_advance 232 = .ok (.bipush 35, 2) := by decide +kernel
theorem dX8_advance_234 : decode cX8_advance 234 = .ok (.if_icmp .ne 68, 3) := by decide +kernel
theorem dX8_advance_237 : decode cX8_advance 237 = .ok (.aload_n 0, 1) := by decide +kernel
theorem dX8_advance_238 : decode cX8_advance 238 = .ok (.getfield 48, 3) := by decide +kernel
theorem dX8_advance_241 : decode cX8_advance 241 = .ok (.aload_n 0, 1) := by decide +kernel
theorem dX8_advance_242 : decode cX8_advance 242 = .ok (.getfield 38, 3) := by decide +kernel
theorem dX8_advance_245 : decode cX8_advance 245 = .ok (.if_icmp .ge 31, 3) := by decide +kernel
theorem dX8_advance_248 : decode cX8_advance 248 = .ok (.aload_n 0, 1) := by decide +kernel
theorem dX8_advance_249 : decode cX8_advance 249 = .ok (.aload_n 0, 1) := by decide +kernel
theorem dX8_advance_250 : decode cX8_advance 250 = .ok (.getfield 48, 3) := by decide +kernel
theorem dX8_advance_253 : decode cX8_advance 253 = .ok (.invokevirtual 107, 3) := by decide +kernel
theorem dX8_advance_256 : decode cX8_advance 256 = .ok (.invokestatic 111, 3) := by decide +kernel
theorem dX8_advance_259 : decode cX8_advance 259 = .ok (.iconst (-1), 1) := by decide +kernel
theorem dX8_advance_260 : decode cX8_advance 260 = .ok (.if_icmp .eq 16, 3) := by decide +kernel
theorem dX8_advance_263 : decode cX8_advance 263 = .ok (.aload_n 0, 1) := by decide +kernel
theorem dX8_advance_264 : decode cX8_advance 264 = .ok (.dup, 1) := by decide +kernel
theorem dX8_advance_265 : decode cX8_advance 265 = .ok (.getfield 48, 3) := by decide +kernel
theorem dX8_advance_268 : decode cX8_advance 268 = .ok (.iconst 1, 1) := by decide +kernel
theorem dX8_advance_269 : decode cX8_advance 269 = .ok (.iadd, 1) := by decide +kernel
theorem dX8_advance_270 : decode cX8_advance 270 = .ok (.putfield 48, 3) := by decide +kernel
theorem dX8_advance_273 : decode cX8_advance 273 = .ok (.goto (-36), 3) := by decide +kernel
theorem dX8_advance_276 : decode cX8_advance 276 = .ok (.aload_n 0, 1) := by decide +kernel
theorem dX8_advance_277 : decode cX8_advance 277 = .ok (.aload_n 0, 1) := by decide +kernel
theorem dX8_advance_278 : decode cX8_advance 278 = .ok (.getfield 48, 3) := by decide +kernel
theorem dX8_advance_281 : decode cX8_advance 281 = .ok (.aload_n 0, 1) := by decide +kernel
theorem dX8_advance_282 : decode cX8_advance 282 = .ok (.getfield 101, 3) := by decide +kernel
theorem dX8_advance_285 : decode cX8_advance 285 = .ok (.isub, 1) := by decide +kernel
theorem dX8_advance_286 : decode cX8_advance 286 = .ok (.iconst 1, 1) := by decide +kernel
theorem dX8_advance_287 : decode cX8_advance 287 = .ok (.if_icmp .le 7, 3) := by decide +kernel
theorem dX8_advance_290 : decode cX8_advance 290 = .ok (.iconst 3, 1) := by decide +kernel
theorem dX8_advance_291 : decode cX8_advance 291 = .ok (.goto 5, 3) := by decide +kernel
theorem dX8_advance_294 : decode cX8_advance 294 = .ok (.bipush 6, 2) := by decide +kernel
theorem dX8_advance_296 : decode cX8_advance 296 = .ok (.putfield 54, 3) := by decide +kernel
theorem dX8_advance_299 : decode cX8_advance 299 = .ok (.goto 37, 3) := by decide +kernel
theorem dX8_advance_302 : decode cX8_advance 302 = .ok (.aload_n 0, 1) := by decide +kernel
theorem dX8_advance_303 : decode cX8_advance 303 = .ok (.iload_n 1, 1) := by decide +kernel
theorem dX8_advance_304 : decode cX8_advance 304 = .ok (.bipush 59, 2) := by decide +kernel
theorem dX8_advance_306 : decode cX8_advance 306 = .ok (.if_icmp .eq 21, 3) := by decide +kernel
theorem dX8_advance_309 : decode cX8_advance 309 = .ok (.iload_n 1, 1) := by decide +kernel
theorem dX8_advance_310 : decode cX8_advance 310 = .ok (.bipush 58, 2) := by decide +kernel
theorem dX8_advance_312 : decode cX8_advance 312 = .ok (.if_icmp .eq 15, 3) := by decide +kernel
theorem dX8_advance_315 : decode cX8_advance 315 = .ok (.iload_n 1, 1) := by decide +kernel
theorem dX8_advance_316 : decode cX8_advance 316 = .ok (.bipush 37, 2) := by decide +kernel
theorem dX8_advance_318 : decode cX8_advance 318 = .ok (.if_icmp .eq 9, 3) := by decide +kernel
theorem dX8_advance_321 : decode cX8_advance 321 = .ok (.iload_n 1, 1) := by decide +kernel
theorem dX8_advance_322 : decode cX8_advance 322 = .ok (.bipush 45, 2) := by decide +kernel
theorem dX8_advance_324 : decode cX8_advance 324 = .ok (.if_icmp .ne 7, 3) := by decide +kernel
theorem dX8_advance_327 : decode cX8_advance 327 = .ok (.iconst 4, 1) := by decide +kernel
theorem dX8_advance_328 : decode cX8_advance 328 = .ok (.goto 5, 3) := by decide +kernel
theorem dX8_advance_331 : decode cX8_advance 331 = .ok (.bipush 6, 2) := by decide +kernel
theorem dX8_advance_333 : decode cX8_advance 333 = .ok (.putfield 54, 3) := by decide +kernel
theorem dX8_advance_336 : decode cX8_advance 336 = .ok (.return_, 1) := by decide +kernel
theorem dX8_byteAt_0 : decode cX8_byteAt 0 = .ok (.iload_n 1, 1) := by decide +kernel
theorem dX8_byteAt_1 : decode cX8_byteAt 1 = .ok (.ifCond .lt 21, 3) := by decide +kernel
theorem dX8_byteAt_4 : decode cX8_byteAt 4 = .ok (.iload_n 1, 1) := by decide +kernel
theorem dX8_byteAt_5 : decode cX8_byteAt 5 = .ok (.aload_n 0, 1) := by decide +kernel
theorem dX8_byteAt_6 : decode cX8_byteAt 6 = .ok (.getfield 24, 3) := by decide +kernel
theorem dX8_byteAt_9 : decode cX8_byteAt 9 = .ok (.arraylength, 1) := by decide +kernel
theorem dX8_byteAt_10 : decode cX8_byteAt 10 = .ok (.if_icmp .ge 12, 3) := by decide +kernel
theorem dX8_byteAt_13 : decode cX8_byteAt 13 = .ok (.aload_n 0, 1) := by decide +kernel
theorem dX8_byteAt_14 : decode cX8_byteAt 14 = .ok (.getfield 24, 3) := by decide +kernel
theorem dX8_byteAt_17 : decode cX8_byteAt 17 = .ok (.iload_n 1, 1) := by decide +kernel
theorem dX8_byteAt_18 : decode cX8_byteAt 18 = .ok (.iaload, 1) := by decide +kernel
theorem dX8_byteAt_19 : decode cX8_byteAt 19 = .ok (.goto 4, 3) := by decide +kernel
theorem dX8_byteAt_22 : decode cX8_byteAt 22 = .ok (.iconst 0, 1) := by decide +kernel
theorem dX8_byteAt_23 : decode cX8_byteAt 23 = .ok (.ireturn, 1) := by decide +kernel
theorem dX8_isLetter_0 : decode cX8_isLetter 0 = .ok (.iload_n 0, 1) := by decide +kernel
theorem dX8_isLetter_1 : decode cX8_isLetter 1 = .ok (.bipush 97, 2) := by decide +kernel
theorem dX8_isLetter_3 : decode cX8_isLetter 3 = .ok (.if_icmp .lt 13, 3) := by decide +kernel
theorem dX8_isLetter_6 : decode cX8_isLetter 6 = .ok (.iload_n 0, 1) := by decide +kernel
theorem dX8_isLetter_7 : decode cX8_isLetter 7 = .ok (.bipush 122, 2) := by decide +kernel
theorem dX8_isLetter_9 : decode cX8_isLetter 9 = .ok (.if_icmp .gt 7, 3) := by decide +kernel
theorem dX8_isLetter_12 : decode cX8_isLetter 12 = .ok (.iconst 1, 1) := by decide +kernel
theorem dX8_isLetter_13 : decode cX8_isLetter 13 = .ok (.goto 4, 3) := by decide +kernel
theorem dX8_isLetter_16 : decode cX8_isLetter 16 = .ok (.iconst 0, 1) := by decide +kernel
theorem dX8_isLetter_17 : decode cX8_isLetter 17 = .ok (.ireturn, 1) := by decide +kernel
theorem dX8_isDigit_0 : decode cX8_isDigit 0 = .ok (.iload_n 0, 1) := by decide +kernel
theorem dX8_isDigit_1 : decode cX8_isDigit 1 = .ok (.bipush 48, 2) := by decide +kernel
theorem dX8_isDigit_3 : decode cX8_isDigit 3 = .ok (.if_icmp .lt 13, 3) := by decide +kernel
theorem dX8_isDigit_6 : decode cX8_isDigit 6 = .ok (.iload_n 0, 1) := by decide +kernel
theorem dX8_isDigit_7 : decode cX8_isDigit 7 = .ok (.bipush 57, 2) := by decide +kernel
theorem dX8_isDigit_9 : decode cX8_isDigit 9 = .ok (.if_icmp .gt 7, 3) := by decide +kernel
theorem dX8_isDigit_12 : decode cX8_isDigit 12 = .ok (.iconst 1, 1) := by decide +kernel
theorem dX8_isDigit_13 : decode cX8_isDigit 13 = .ok (.goto 4, 3) := by decide +kernel
theorem dX8_isDigit_16 : decode cX8_isDigit 16 = .ok (.iconst 0, 1) := by decide +kernel
theorem dX8_isDigit_17 : decode cX8_isDigit 17 = .ok (.ireturn, 1) := by decide +kernel
theorem dX8_hexDigit_0 : decode cX8_hexDigit 0 = .ok (.iload_n 0, 1) := by decide +kernel
theorem dX8_hexDigit_1 : decode cX8_hexDigit 1 = .ok (.bipush 48, 2) := by decide +kernel
theorem dX8_hexDigit_3 : decode cX8_hexDigit 3 = .ok (.if_icmp .lt 14, 3) := by decide +kernel
theorem dX8_hexDigit_6 : decode cX8_hexDigit 6 = .ok (.iload_n 0, 1) := by decide +kernel
theorem dX8_hexDigit_7 : decode cX8_hexDigit 7 = .ok (.bipush 57, 2) := by decide +kernel
theorem dX8_hexDigit_9 : decode cX8_hexDigit 9 = .ok (.if_icmp .gt 8, 3) := by decide +kernel
theorem dX8_hexDigit_12 : decode cX8_hexDigit 12 = .ok (.iload_n 0, 1) := by decide +kernel
theorem dX8_hexDigit_13 : decode cX8_hexDigit 13 = .ok (.bipush 48, 2) := by decide +kernel
theorem dX8_hexDigit_15 : decode cX8_hexDigit 15 = .ok (.isub, 1) := by decide +kernel
theorem dX8_hexDigit_16 : decode cX8_hexDigit 16 = .ok (.ireturn, 1) := by decide +kernel
theorem dX8_hexDigit_17 : decode cX8_hexDigit 17 = .ok (.iload_n 0, 1) := by decide +kernel
theorem dX8_hexDigit_18 : decode cX8_hexDigit 18 = .ok (.bipush 97, 2) := by decide +kernel
theorem dX8_hexDigit_20 : decode cX8_hexDigit 20 = .ok (.if_icmp .lt 19, 3) := by decide +kernel
theorem dX8_hexDigit_23 : decode cX8_hexDigit 23 = .ok (.iload_n 0, 1) := by decide +kernel
theorem dX8_hexDigit_24 : decode cX8_hexDigit 24 = .ok (.bipush 102, 2) := by decide +kernel
theorem dX8_hexDigit_26 : decode cX8_hexDigit 26 = .ok (.if_icmp .gt 13, 3) := by decide +kernel
theorem dX8_hexDigit_29 : decode cX8_hexDigit 29 = .ok (.iload_n 0, 1) := by decide +kernel
theorem dX8_hexDigit_30 : decode cX8_hexDigit 30 = .ok (.bipush 97, 2) := by decide +kernel
theorem dX8_hexDigit_32 : decode cX8_hexDigit 32 = .ok (.isub, 1) := by decide +kernel
theorem dX8_hexDigit_33 : decode cX8_hexDigit 33 = .ok (.bipush 10, 2) := by decide +kernel
theorem dX8_hexDigit_35 : decode cX8_hexDigit 35 = .ok (.iadd, 1) := by decide +kernel
theorem dX8_hexDigit_36 : decode cX8_hexDigit 36 = .ok (.goto 4, 3) := by decide +kernel
theorem dX8_hexDigit_39 : decode cX8_hexDigit 39 = .ok (.iconst (-1), 1) := by decide +kernel
theorem dX8_hexDigit_40 : decode cX8_hexDigit 40 = .ok (.ireturn, 1) := by decide +kernel
