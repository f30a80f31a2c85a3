theorem dX9_instructions_0 : decode cX9_instructions 0 = .ok (.aload_n 0, 1) := by decide +kernel
theorem dX9_instructions_1 : decode cX9_instructions 1 = .ok (.getfield 38, 3) := by decide +kernel
theorem dX9_instructions_4 : decode cX9_instructions 4 = .ok (.invokevirtual 56, 3) := by decide +kernel
theorem dX9_instructions_7 : decode cX9_instructions 7 = .ok (.ireturn, 1) := by decide +kernel
theorem dX9_exchange_0 : decode cX9_exchange 0 = .ok (.aload_n 0, 1) := by decide +kernel
theorem dX9_exchange_1 : decode cX9_exchange 1 = .ok (.getfield 38, 3) := by decide +kernel
theorem dX9_exchange_4 : decode cX9_exchange 4 = .ok (.astore_n 2, 1) := by decide +kernel
theorem dX9_exchange_5 : decode cX9_exchange 5 = .ok (.aload_n 0, 1) := by decide +kernel
theorem dX9_exchange_6 : decode cX9_exchange 6 = .ok (.aload_n 1, 1) := by decide +kernel
theorem dX9_exchange_7 : decode cX9_exchange 7 = .ok (.putfield 38, 3) := by decide +kernel
theorem dX9_exchange_10 : decode cX9_exchange 10 = .ok (.aload_n 2, 1) := by decide +kernel
theorem dX9_exchange_11 : decode cX9_exchange 11 = .ok (.areturn, 1) := by decide +kernel
theorem dX9_restart_0 : decode cX9_restart 0 = .ok (.aload_n 1, 1) := by decide +kernel
theorem dX9_restart_1 : decode cX9_restart 1 = .ok (.aload_n 0, 1) := by decide +kernel
theorem dX9_restart_2 : decode cX9_restart 2 = .ok (.getfield 38, 3) := by decide +kernel
theorem dX9_restart_5 : decode cX9_restart 5 = .ok (.invokevirtual 60, 3) := by decide +kernel
theorem dX9_restart_8 : decode cX9_restart 8 = .ok (.return_, 1) := by decide +kernel
theorem dX9_step_0 : decode cX9_step 0 = .ok (.aload_n 1, 1) := by decide +kernel
theorem dX9_step_1 : decode cX9_step 1 = .ok (.sipush 265, 3) := by decide +kernel
theorem dX9_step_4 : decode cX9_step 4 = .ok (.invokevirtual 64, 3) := by decide +kernel
theorem dX9_step_7 : decode cX9_step 7 = .ok (.istore_n 2, 1) := by decide +kernel
theorem dX9_step_8 : decode cX9_step 8 = .ok (.aload_n 0, 1) := by decide +kernel
theorem dX9_step_9 : decode cX9_step 9 = .ok (.getfield 38, 3) := by decide +kernel
theorem dX9_step_12 : decode cX9_step 12 = .ok (.iload_n 2, 1) := by decide +kernel
theorem dX9_step_13 : decode cX9_step 13 = .ok (.invokevirtual 68, 3) := by decide +kernel
theorem dX9_step_16 : decode cX9_step 16 = .ok (.astore_n 3, 1) := by decide +kernel
theorem dX9_step_17 : decode cX9_step 17 = .ok (.aload_n 3, 1) := by decide +kernel
theorem dX9_step_18 : decode cX9_step 18 = .ok (.ifnonnull 5, 3) := by decide +kernel
theorem dX9_step_21 : decode cX9_step 21 = .ok (.iconst 0, 1) := by decide +kernel
theorem dX9_step_22 : decode cX9_step 22 = .ok (.ireturn, 1) := by decide +kernel
theorem dX9_step_23 : decode cX9_step 23 = .ok (.aload_n 0, 1) := by decide +kernel
theorem dX9_step_24 : decode cX9_step 24 = .ok (.aload_n 1, 1) := by decide +kernel
theorem dX9_step_25 : decode cX9_step 25 = .ok (.putfield 45, 3) := by decide +kernel
theorem dX9_step_28 : decode cX9_step 28 = .ok (.aload_n 0, 1) := by decide +kernel
theorem dX9_step_29 : decode cX9_step 29 = .ok (.aload_n 3, 1) := by decide +kernel
theorem dX9_step_30 : decode cX9_step 30 = .ok (.putfield 52, 3) := by decide +kernel
theorem dX9_step_33 : decode cX9_step 33 = .ok (.aload_n 0, 1) := by decide +kernel
theorem dX9_step_34 : decode cX9_step 34 = .ok (.iload_n 2, 1) := by decide +kernel
theorem dX9_step_35 : decode cX9_step 35 = .ok (.iconst 1, 1) := by decide +kernel
theorem dX9_step_36 : decode cX9_step 36 = .ok (.iadd, 1) := by decide +kernel
theorem dX9_step_37 : decode cX9_step 37 = .ok (.putfield 72, 3) := by decide +kernel
theorem dX9_step_40 : decode cX9_step 40 = .ok (.aload_n 0, 1) := by decide +kernel
theorem dX9_step_41 : decode cX9_step 41 = .ok (.iconst 0, 1) := by decide +kernel
theorem dX9_step_42 : decode cX9_step 42 = .ok (.putfield 76, 3) := by decide +kernel
theorem dX9_step_45 : decode cX9_step 45 = .ok (.aload_n 0, 1) := by decide +kernel
theorem dX9_step_46 : decode cX9_step 46 = .ok (.invokevirtual 80, 3) := by decide +kernel
theorem dX9_step_49 : decode cX9_step 49 = .ok (.istore 4, 2) := by decide +kernel
theorem dX9_step_51 : decode cX9_step 51 = .ok (.iload 4, 2) := by decide +kernel
theorem dX9_step_53 : decode cX9_step 53 = .ok (.ifCond .ne 9, 3) := by decide +kernel
theorem dX9_step_56 : decode cX9_step 56 = .ok (.aload_n 0, 1) := by decide +kernel
theorem dX9_step_57 : decode cX9_step 57 = .ok (.invokevirtual 83, 3) := by decide +kernel
theorem dX9_step_60 : decode cX9_step 60 = .ok (.istore 4, 2) := by decide +kernel
theorem dX9_step_62 : decode cX9_step 62 = .ok (.iload 4, 2) := by decide +kernel
theorem dX9_step_64 : decode cX9_step 64 = .ok (.bipush 6, 2) := by decide +kernel
theorem dX9_step_66 : decode cX9_step 66 = .ok (.if_icmp .ne 20, 3) := by decide +kernel
theorem dX9_step_69 : decode cX9_step 69 = .ok (.aload_n 0, 1) := by decide +kernel
theorem dX9_step_70 : decode cX9_step 70 = .ok (.getfield 45, 3) := by decide +kernel
theorem dX9_step_73 : decode cX9_step 73 = .ok (.sipush 273, 3) := by decide +kernel
theorem dX9_step_76 : decode cX9_step 76 = .ok (.invokevirtual 64, 3) := by decide +kernel
theorem dX9_step_79 : decode cX9_step 79 = .ok (.iconst (-1), 1) := by decide +kernel
theorem dX9_step_80 : decode cX9_step 80 = .ok (.if_icmp .ne 6, 3) := by decide +kernel
theorem dX9_step_83 : decode cX9_step 83 = .ok (.iconst 0, 1) := by decide +kernel
theorem dX9_step_84 : decode cX9_step 84 = .ok (.istore 4, 2) := by decide +kernel
theorem dX9_step_86 : decode cX9_step 86 = .ok (.iload 4, 2) := by decide +kernel
theorem dX9_step_88 : decode cX9_step 88 = .ok (.ifCond .eq 10, 3) := by decide +kernel
theorem dX9_step_91 : decode cX9_step 91 = .ok (.aload_n 0, 1) := by decide +kernel
theorem dX9_step_92 : decode cX9_step 92 = .ok (.iload 4, 2) := by decide +kernel
theorem dX9_step_94 : decode cX9_step 94 = .ok (.iload_n 2, 1) := by decide +kernel
theorem dX9_step_95 : decode cX9_step 95 = .ok (.invokevirtual 86, 3) := by decide +kernel
theorem dX9_step_98 : decode cX9_step 98 = .ok (.aload_n 0, 1) := by decide +kernel
theorem dX9_step_99 : decode cX9_step 99 = .ok (.getfield 45, 3) := by decide +kernel
theorem dX9_step_102 : decode cX9_step 102 = .ok (.iload_n 2, 1) := by decide +kernel
theorem dX9_step_103 : decode cX9_step 103 = .ok (.invokevirtual 90, 3) := by decide +kernel
theorem dX9_step_106 : decode cX9_step 106 = .ok (.aload_n 0, 1) := by decide +kernel
theorem dX9_step_107 : decode cX9_step 107 = .ok (.iload 4, 2) := by decide +kernel
theorem dX9_step_109 : decode cX9_step 109 = .ok (.iload_n 2, 1) := by decide +kernel
theorem dX9_step_110 : decode cX9_step 110 = .ok (.invokevirtual 94, 3) := by decide +kernel
theorem dX9_step_113 : decode cX9_step 113 = .ok (.iload 4, 2) := by decide +kernel
theorem dX9_step_115 : decode cX9_step 115 = .ok (.ireturn, 1) := by decide +kernel
theorem dX9_checked_0 : decode cX9_checked 0 = .ok (.aload_n 0, 1) := by decide +kernel
theorem dX9_checked_1 : decode cX9_checked 1 = .ok (.aload_n 0, 1) := by decide +kernel
theorem dX9_checked_2 : decode cX9_checked 2 = .ok (.getfield 52, 3) := by decide +kernel
theorem dX9_checked_5 : decode cX9_checked 5 = .ok (.getfield 97, 3) := by decide +kernel
theorem dX9_checked_8 : decode cX9_checked 8 = .ok (.aload_n 0, 1) := by decide +kernel
theorem dX9_checked_9 : decode cX9_checked 9 = .ok (.aload_n 0, 1) := by decide +kernel
theorem dX9_checked_10 : decode cX9_checked 10 = .ok (.getfield 52, 3) := by decide +kernel
theorem dX9_checked_13 : decode cX9_checked 13 = .ok (.getfield 100, 3) := by decide +kernel
theorem dX9_checked_16 : decode cX9_checked 16 = .ok (.invokevirtual 103, 3) := by decide +kernel
theorem dX9_checked_19 : decode cX9_checked 19 = .ok (.iadd, 1) := by decide +kernel
theorem dX9_checked_20 : decode cX9_checked 20 = .ok (.putfield 106, 3) := by decide +kernel
theorem dX9_checked_23 : decode cX9_checked 23 = .ok (.aload_n 0, 1) := by decide +kernel
theorem dX9_checked_24 : decode cX9_checked 24 = .ok (.aload_n 0, 1) := by decide +kernel
theorem dX9_checked_25 : decode cX9_checked 25 = .ok (.getfield 52, 3) := by decide +kernel
theorem dX9_checked_28 : decode cX9_checked 28 = .ok (.getfield 109, 3) := by decide +kernel
theorem dX9_checked_31 : decode cX9_checked 31 = .ok (.aload_n 0, 1) := by decide +kernel
theorem dX9_checked_32 : decode cX9_checked 32 = .ok (.aload_n 0, 1) := by decide +kernel
theorem dX9_checked_33 : decode cX9_checked 33 = .ok (.getfield 52, 3) := by decide +kernel
theorem dX9_checked_36 : decode cX9_checked 36 = .ok (.getfield 112, 3) := by decide +kernel
theorem dX9_checked_39 : decode cX9_checked 39 = .ok (.invokevirtual 103, 3) := by decide +kernel
theorem dX9_checked_42 : decode cX9_checked 42 = .ok (.iadd, 1) := by decide +kernel
theorem dX9_checked_43 : decode cX9_checked 43 = .ok (.putfield 115, 3) := by decide +kernel
theorem dX9_checked_46 : decode cX9_checked 46 = .ok (.aload_n 0, 1) := by decide +kernel
theorem dX9_checked_47 : decode cX9_checked 47 = .ok (.aload_n 0, 1) := by decide +kernel
theorem dX9_checked_48 : decode cX9_checked 48 = .ok (.getfield 106, 3) := by decide +kernel
theorem dX9_checked_51 : decode cX9_checked 51 = .ok (.aload_n 0, 1) := by decide +kernel
theorem dX9_checked_52 : decode cX9_checked 52 = .ok (.getfield 52, 3) := by decide +kernel
theorem dX9_checked_55 : decode cX9_checked 55 = .ok (.getfield 118, 3) := by decide +kernel
theorem dX9_checked_58 : decode cX9_checked 58 = .ok (.iadd, 1) := by decide +kernel
theorem dX9_checked_59 : decode cX9_checked 59 = .ok (.putfield 121, 3) := by decide +kernel
theorem dX9_checked_62 : decode cX9_checked 62 = .ok (.aload_n 0, 1) := by decide +kernel
theorem dX9_checked_63 : decode cX9_checked 63 = .ok (.aload_n 0, 1) := by decide +kernel
theorem dX9_checked_64 : decode cX9_checked 64 = .ok (.getfield 115, 3) := by decide +kernel
theorem dX9_checked_67 : decode cX9_checked 67 = .ok (.aload_n 0, 1) := by decide +kernel
theorem dX9_checked_68 : decode cX9_checked 68 = .ok (.getfield 52, 3) := by decide +kernel
theorem dX9_checked_71 : decode cX9_checked 71 = .ok (.getfield 124, 3) := by decide +kernel
theorem dX9_checked_74 : decode cX9_checked 74 = .ok (.iadd, 1) := by decide +kernel
theorem dX9_checked_75 : decode cX9_checked 75 = .ok (.putfield 127, 3) := by decide +kernel
theorem dX9_checked_78 : decode cX9_checked 78 = .ok (.aload_n 0, 1) := by decide +kernel
theorem dX9_checked_79 : decode cX9_checked 79 = .ok (.getfield 52, 3) := by decide +kernel
theorem dX9_checked_82 : decode cX9_checked 82 = .ok (.getfield 118, 3) := by decide +kernel
theorem dX9_checked_85 : decode cX9_checked 85 = .ok (.ifCond .le 27, 3) := by decide +kernel
theorem dX9_checked_88 : decode cX9_checked 88 = .ok (.aload_n 0, 1) := by decide +kernel
theorem dX9_checked_89 : decode cX9_checked 89 = .ok (.getfield 106, 3) := by decide +kernel
theorem dX9_checked_92 : decode cX9_checked 92 = .ok (.aload_n 0, 1) := by decide +kernel
theorem dX9_checked_93 : decode cX9_checked 93 = .ok (.getfield 52, 3) := by decide +kernel
theorem dX9_checked_96 : decode cX9_checked 96 = .ok (.getfield 118, 3) := by decide +kernel
theorem dX9_checked_99 : decode cX9_checked 99 = .ok (.invokestatic 130, 3) := by decide +kernel
theorem dX9_checked_102 : decode cX9_checked 102 = .ok (.ifCond .ne 10, 3) := by decide +kernel
theorem dX9_checked_105 : decode cX9_checked 105 = .ok (.aload_n 0, 1) := by decide +kernel
theorem dX9_checked_106 : decode cX9_checked 106 = .ok (.iconst 1, 1) := by decide +kernel
theorem dX9_checked_107 : decode cX9_checked 107 = .ok (.iconst 0, 1) := by decide +kernel
theorem dX9_checked_108 : decode cX9_checked 108 = .ok (.invokevirtual 134, 3) := by decide +kernel
theorem dX9_checked_111 : decode cX9_checked 111 = .ok (.ireturn, 1) := by decide +kernel
theorem dX9_checked_112 : decode cX9_checked 112 = .ok (.aload_n 0, 1) := by decide +kernel
theorem dX9_checked_113 : decode cX9_checked 113 = .ok (.getfield 52, 3) := by decide +kernel
theorem dX9_checked_116 : decode cX9_checked 116 = .ok (.getfield 124, 3) := by decide +kernel
theorem dX9_checked_119 : decode cX9_checked 119 = .ok (.ifCond .le 27, 3) := by decide +kernel
theorem dX9_checked_122 : decode cX9_checked 122 = .ok (.aload_n 0, 1) := by decide +kernel
theorem dX9_checked_123 : decode cX9_checked 123 = .ok (.getfield 115, 3) := by decide +kernel
theorem dX9_checked_126 : decode cX9_checked 126 = .ok (.aload_n 0, 1) := by decide +kernel
theorem dX9_checked_127 : decode cX9_checked 127 = .ok (.getfield 52, 3) := by decide +kernel
theorem dX9_checked_130 : decode cX9_checked 130 = .ok (.getfield 124, 3) := by decide +kernel
theorem dX9_checked_133 : decode cX9_checked 133 = .ok (.invokestatic 130, 3) := by decide +kernel
theorem dX9_checked_136 : decode cX9_checked 136 = .ok (.ifCond .ne 10, 3) := by decide +kernel
theorem dX9_checked_139 : decode cX9_checked 139 = .ok (.aload_n 0, 1) := by decide +kernel
theorem dX9_checked_140 : decode cX9_checked 140 = .ok (.iconst 1, 1) := by decide +kernel
theorem dX9_checked_141 : decode cX9_checked 141 = .ok (.iconst 1, 1) := by decide +kernel
theorem dX9_checked_142 : decode cX9_checked 142 = .ok (.invokevirtual 134, 3) := by decide +kernel
theorem dX9_checked_145 : decode cX9_checked 145 = .ok (.ireturn, 1) := by decide +kernel
theorem dX9_checked_146 : decode cX9_checked 146 = .ok (.aload_n 0, 1) := by decide +kernel
theorem dX9_checked_147 : decode cX9_checked 147 = .ok (.invokevirtual 138, 3) := by decide +kernel
theorem dX9_checked_150 : decode cX9_checked 150 = .ok (.istore_n 1, 1) := by decide +kernel
theorem dX9_checked_151 : decode cX9_checked 151 = .ok (.iload_n 1, 1) := by decide +kernel
theorem dX9_checked_152 : decode cX9_checked 152 = .ok (.ifCond .ne 24, 3) := by decide +kernel
theorem dX9_checked_155 : decode cX9_checked 155 = .ok (.aload_n 0, 1) := by decide +kernel
theorem dX9_checked_156 : decode cX9_checked 156 = .ok (.getfield 52, 3) := by decide +kernel
theorem dX9_checked_159 : decode cX9_checked 159 = .ok (.getfield 141, 3) := by decide +kernel
theorem dX9_checked_162 : decode cX9_checked 162 = .ok (.getfield 145, 3) := by decide +kernel
theorem dX9_checked_165 : decode cX9_checked 165 = .ok (.iconst 1, 1) := by decide +kernel
theorem dX9_checked_166 : decode cX9_checked 166 = .ok (.iand, 1) := by decide +kernel
theorem dX9_checked_167 : decode cX9_checked 167 = .ok (.ifCond .eq 9, 3) := by decide +kernel
theorem dX9_checked_170 : decode cX9_checked 170 = .ok (.aload_n 0, 1) := by decide +kernel
theorem dX9_checked_171 : decode cX9_checked 171 = .ok (.iconst 0, 1) := by decide +kernel
theorem dX9_checked_172 : decode cX9_checked 172 = .ok (.invokevirtual 150, 3) := by decide +kernel
theorem dX9_checked_175 : decode cX9_checked 175 = .ok (.istore_n 1, 1) := by decide +kernel
theorem dX9_checked_176 : decode cX9_checked 176 = .ok (.iload_n 1, 1) := by decide +kernel
theorem dX9_checked_177 : decode cX9_checked 177 = .ok (.ifCond .ne 24, 3) := by decide +kernel
theorem dX9_checked_180 : decode cX9_checked 180 = .ok (.aload_n 0, 1) := by decide +kernel
theorem dX9_checked_181 : decode cX9_checked 181 = .ok (.getfield 52, 3) := by decide +kernel
theorem dX9_checked_184 : decode cX9_checked 184 = .ok (.getfield 141, 3) := by decide +kernel
theorem dX9_checked_187 : decode cX9_checked 187 = .ok (.getfield 145, 3) := by decide +kernel
theorem dX9_checked_190 : decode cX9_checked 190 = .ok (.iconst 2, 1) := by decide +kernel
theorem dX9_checked_191 : decode cX9_checked 191 = .ok (.iand, 1) := by decide +kernel
theorem dX9_checked_192 : decode cX9_checked 192 = .ok (.ifCond .eq 9, 3) := by decide +kernel
theorem dX9_checked_195 : decode cX9_checked 195 = .ok (.aload_n 0, 1) := by decide +kernel
theorem dX9_checked_196 : decode cX9_checked 196 = .ok (.iconst 1, 1) := by decide +kernel
theorem dX9_checked_197 : decode cX9_checked 197 = .ok (.invokevirtual 150, 3) := by decide +kernel
theorem dX9_checked_200 : decode cX9_checked 200 = .ok (.istore_n 1, 1) := by decide +kernel
theorem dX9_checked_201 : decode cX9_checked 201 = .ok (.iload_n 1, 1) := by decide +kernel
theorem dX9_checked_202 : decode cX9_checked 202 = .ok (.ireturn, 1) := by decide +kernel
theorem dX9_misfit_0 : decode cX9_misfit 0 = .ok (.aload_n 0, 1) := by decide +kernel
theorem dX9_misfit_1 : decode cX9_misfit 1 = .ok (.getfield 106, 3) := by decide +kernel
theorem dX9_misfit_4 : decode cX9_misfit 4 = .ok (.aload_n 0, 1) := by decide +kernel
theorem dX9_misfit_5 : decode cX9_misfit 5 = .ok (.getfield 127, 3) := by decide +kernel
theorem dX9_misfit_8 : decode cX9_misfit 8 = .ok (.if_icmp .ge 18, 3) := by decide +kernel
theorem dX9_misfit_11 : decode cX9_misfit 11 = .ok (.aload_n 0, 1) := by decide +kernel
theorem dX9_misfit_12 : decode cX9_misfit 12 = .ok (.getfield 115, 3) := by decide +kernel
theorem dX9_misfit_15 : decode cX9_misfit 15 = .ok (.aload_n 0, 1) := by decide +kernel
theorem dX9_misfit_16 : decode cX9_misfit 16 = .ok (.getfield 121, 3) := by decide +kernel
theorem dX9_misfit_19 : decode cX9_misfit 19 = .ok (.if_icmp .ge 7, 3) := by decide +kernel
theorem dX9_misfit_22 : decode cX9_misfit 22 = .ok (.iconst 1, 1) := by decide +kernel
theorem dX9_misfit_23 : decode cX9_misfit 23 = .ok (.goto 4, 3) := by decide +kernel
theorem dX9_misfit_26 : decode cX9_misfit 26 = .ok (.iconst 0, 1) := by decide +kernel
theorem dX9_misfit_27 : decode cX9_misfit 27 = .ok (.istore_n 1, 1) := by decide +kernel
theorem dX9_misfit_28 : decode cX9_misfit 28 = .ok (.getstatic 153, 3) := by decide +kernel
theorem dX9_misfit_31 : decode cX9_misfit 31 = .ok (.aload_n 0, 1) := by decide +kernel
theorem dX9_misfit_32 : decode cX9_misfit 32 = .ok (.getfield 52, 3) := by decide +kernel
theorem dX9_misfit_35 : decode cX9_misfit 35 = .ok (.getfield 141, 3) := by decide +kernel
theorem dX9_misfit_38 : decode cX9_misfit 38 = .ok (.invokevirtual 158, 3) := by decide +kernel
theorem dX9_misfit_41 : decode cX9_misfit 41 = .ok (.iaload, 1) := by decide +kernel
theorem dX9_misfit_42 : decode cX9_misfit 42 = .ok (.tableswitch 148 1 5 #[34, 60, 60, 86, 86], 34) := by decide +kernel
theorem dX9_misfit_76 : decode cX9_misfit 76 = .ok (.iload_n 1, 1) := by decide +kernel
theorem dX9_misfit_77 : decode cX9_misfit 77 = .ok (.ifCond .eq 23, 3) := by decide +kernel
theorem dX9_misfit_80 : decode cX9_misfit 80 = .ok (.aload_n 0, 1) := by decide +kernel
theorem dX9_misfit_81 : decode cX9_misfit 81 = .ok (.getfield 121, 3) := by decide +kernel
theorem dX9_misfit_84 : decode cX9_misfit 84 = .ok (.aload_n 0, 1) := by decide +kernel
theorem dX9_misfit_85 : decode cX9_misfit 85 = .ok (.getfield 127, 3) := by decide +kernel
theorem dX9_misfit_88 : decode cX9_misfit 88 = .ok (.if_icmp .ge 12, 3) := by decide +kernel
theorem dX9_misfit_91 : decode cX9_misfit 91 = .ok (.aload_n 0, 1) := by decide +kernel
theorem dX9_misfit_92 : decode cX9_misfit 92 = .ok (.iconst 3, 1) := by decide +kernel
theorem dX9_misfit_93 : decode cX9_misfit 93 = .ok (.iconst 1, 1) := by decide +kernel
theorem dX9_misfit_94 : decode cX9_misfit 94 = .ok (.invokevirtual 134, 3) := by decide +kernel
theorem dX9_misfit_97 : decode cX9_misfit 97 = .ok (.goto 4, 3) := by decide +kernel
theorem dX9_misfit_100 : decode cX9_misfit 100 = .ok (.iconst 0, 1) := by decide +kernel
theorem dX9_misfit_101 : decode cX9_misfit 101 = .ok (.ireturn, 1) := by decide +kernel
theorem dX9_misfit_102 : decode cX9_misfit 102 = .ok (.iload_n 1, 1) := by decide +kernel
theorem dX9_misfit_103 : decode cX9_misfit 103 = .ok (.ifCond .eq 23, 3) := by decide +kernel
theorem dX9_misfit_106 : decode cX9_misfit 106 = .ok (.aload_n 0, 1) := by decide +kernel
theorem dX9_misfit_107 : decode cX9_misfit 107 = .ok (.getfield 121, 3) := by decide +kernel
theorem dX9_misfit_110 : decode cX9_misfit 110 = .ok (.aload_n 0, 1) := by decide +kernel
theorem dX9_misfit_111 : decode cX9_misfit 111 = .ok (.getfield 127, 3) := by decide +kernel
theorem dX9_misfit_114 : decode cX9_misfit 114 = .ok (.if_icmp .eq 12, 3) := by decide +kernel
theorem dX9_misfit_117 : decode cX9_misfit 117 = .ok (.aload_n 0, 1) := by decide +kernel
theorem dX9_misfit_118 : decode cX9_misfit 118 = .ok (.iconst 3, 1) := by decide +kernel
theorem dX9_misfit_119 : decode cX9_misfit 119 = .ok (.iconst 1, 1) := by decide +kernel
theorem dX9_misfit_120 : decode cX9_misfit 120 = .ok (.invokevirtual 134, 3) := by decide +kernel
theorem dX9_misfit_123 : decode cX9_misfit 123 = .ok (.goto 4, 3) := by decide +kernel
theorem dX9_misfit_126 : decode cX9_misfit 126 = .ok (.iconst 0, 1) := by decide +kernel
theorem dX9_misfit_127 : decode cX9_misfit 127 = .ok (.ireturn, 1) := by decide +kernel
theorem dX9_misfit_128 : decode cX9_misfit 128 = .ok (.aload_n 0, 1) := by decide +kernel
theorem dX9_misfit_129 : decode cX9_misfit 129 = .ok (.getfield 52, 3) := by decide +kernel
theorem dX9_misfit_132 : decode cX9_misfit 132 = .ok (.getfield 124, 3) := by decide +kernel
theorem dX9_misfit_135 : decode cX9_misfit 135 = .ok (.bipush 8, 2) := by decide +kernel
theorem dX9_misfit_137 : decode cX9_misfit 137 = .ok (.if_icmp .gt 20, 3) := by decide +kernel
theorem dX9_misfit_140 : decode cX9_misfit 140 = .ok (.aload_n 0, 1) := by decide +kernel
theorem dX9_misfit_141 : decode cX9_misfit 141 = .ok (.getfield 52, 3) := by decide +kernel
theorem dX9_misfit_144 : decode cX9_misfit 144 = .ok (.getfield 124, 3) := by decide +kernel
theorem dX9_misfit_147 : decode cX9_misfit 147 = .ok (.aload_n 0, 1) := by decide +kernel
theorem dX9_misfit_148 : decode cX9_misfit 148 = .ok (.getfield 52, 3) := by decide +kernel
theorem dX9_misfit_151 : decode cX9_misfit 151 = .ok (.getfield 118, 3) := by decide +kernel
theorem dX9_misfit_154 : decode cX9_misfit 154 = .ok (.if_icmp .lt 10, 3) := by decide +kernel
theorem dX9_misfit_157 : decode cX9_misfit 157 = .ok (.aload_n 0, 1) := by decide +kernel
theorem dX9_misfit_158 : decode cX9_misfit 158 = .ok (.iconst 2, 1) := by decide +kernel
theorem dX9_misfit_159 : decode cX9_misfit 159 = .ok (.iconst 1, 1) := by decide +kernel
theorem dX9_misfit_160 : decode cX9_misfit 160 = .ok (.invokevirtual 134, 3) := by decide +kernel
theorem dX9_misfit_163 : decode cX9_misfit 163 = .ok (.ireturn, 1) := by decide +kernel
theorem dX9_misfit_164 : decode cX9_misfit 164 = .ok (.iload_n 1, 1) := by decide +kernel
theorem dX9_misfit_165 : decode cX9_misfit 165 = .ok (.ifCond .eq 23, 3) := by decide +kernel
theorem dX9_misfit_168 : decode cX9_misfit 168 = .ok (.aload_n 0, 1) := by decide +kernel
theorem dX9_misfit_169 : decode cX9_misfit 169 = .ok (.getfield 121, 3) := by decide +kernel
theorem dX9_misfit_172 : decode cX9_misfit 172 = .ok (.aload_n 0, 1) := by decide +kernel
theorem dX9_misfit_173 : decode cX9_misfit 173 = .ok (.getfield 127, 3) := by decide +kernel
theorem dX9_misfit_176 : decode cX9_misfit 176 = .ok (.if_icmp .eq 12, 3) := by decide +kernel
theorem dX9_misfit_179 : decode cX9_misfit 179 = .ok (.aload_n 0, 1) := by decide +kernel
theorem dX9_misfit_180 : decode cX9_misfit 180 = .ok (.iconst 3, 1) := by decide +kernel
theorem dX9_misfit_181 : decode cX9_misfit 181 = .ok (.iconst 1, 1) := by decide +kernel
theorem dX9_misfit_182 : decode cX9_misfit 182 = .ok (.invokevirtual 134, 3) := by decide +kernel
theorem dX9_misfit_185 : decode cX9_misfit 185 = .ok (.goto 4, 3) := by decide +kernel
theorem dX9_misfit_188 : decode cX9_misfit 188 = .ok (.iconst 0, 1) := by decide +kernel
theorem dX9_misfit_189 : decode cX9_misfit 189 = .ok (.ireturn, 1) := by decide +kernel
theorem dX9_misfit_190 : decode cX9_misfit 190 = .ok (.iconst 0, 1) := by decide +kernel
theorem dX9_misfit_191 : decode cX9_misfit 191 = .ok (.ireturn, 1) := by decide +kernel
theorem dX9_flawed_0 : decode cX9_flawed 0 = .ok (.iload_n 1, 1) := by decide +kernel
theorem dX9_flawed_1 : decode cX9_flawed 1 = .ok (.ifCond .ne 10, 3) := by decide +kernel
theorem dX9_flawed_4 : decode cX9_flawed 4 = .ok (.aload_n 0, 1) := by decide +kernel
theorem dX9_flawed_5 : decode cX9_flawed 5 = .ok (.getfield 106, 3) := by decide +kernel
theorem dX9_flawed_8 : decode cX9_flawed 8 = .ok (.goto 7, 3) := by decide +kernel
theorem dX9_flawed_11 : decode cX9_flawed 11 = .ok (.aload_n 0, 1) := by decide +kernel
theorem dX9_flawed_12 : decode cX9_flawed 12 = .ok (.getfield 115, 3) := by decide +kernel
theorem dX9_flawed_15 : decode cX9_flawed 15 = .ok (.istore_n 2, 1) := by decide +kernel
theorem dX9_flawed_16 : decode cX9_flawed 16 = .ok (.iload_n 1, 1) := by decide +kernel
theorem dX9_flawed_17 : decode cX9_flawed 17 = .ok (.ifCond .ne 13, 3) := by decide +kernel
theorem dX9_flawed_20 : decode cX9_flawed 20 = .ok (.aload_n 0, 1) := by decide +kernel
theorem dX9_flawed_21 : decode cX9_flawed 21 = .ok (.getfield 52, 3) := by decide +kernel
theorem dX9_flawed_24 : decode cX9_flawed 24 = .ok (.getfield 118, 3) := by decide +kernel
theorem dX9_flawed_27 : decode cX9_flawed 27 = .ok (.goto 10, 3) := by decide +kernel
theorem dX9_flawed_30 : decode cX9_flawed 30 = .ok (.aload_n 0, 1) := by decide +kernel
theorem dX9_flawed_31 : decode cX9_flawed 31 = .ok (.getfield 52, 3) := by decide +kernel
theorem dX9_flawed_34 : decode cX9_flawed 34 = .ok (.getfield 124, 3) := by decide +kernel
theorem dX9_flawed_37 : decode cX9_flawed 37 = .ok (.istore_n 3, 1) := by decide +kernel
theorem dX9_flawed_38 : decode cX9_flawed 38 = .ok (.aload_n 0, 1) := by decide +kernel
theorem dX9_flawed_39 : decode cX9_flawed 39 = .ok (.getfield 45, 3) := by decide +kernel
theorem dX9_flawed_42 : decode cX9_flawed 42 = .ok (.iload_n 2, 1) := by decide +kernel
theorem dX9_flawed_43 : decode cX9_flawed 43 = .ok (.iload_n 3, 1) := by decide +kernel
theorem dX9_flawed_44 : decode cX9_flawed 44 = .ok (.iconst 0, 1) := by decide +kernel
theorem dX9_flawed_45 : decode cX9_flawed 45 = .ok (.iconst 2, 1) := by decide +kernel
theorem dX9_flawed_46 : decode cX9_flawed 46 = .ok (.iload_n 2, 1) := by decide +kernel
theorem dX9_flawed_47 : decode cX9_flawed 47 = .ok (.imul, 1) := by decide +kernel
theorem dX9_flawed_48 : decode cX9_flawed 48 = .ok (.invokevirtual 161, 3) := by decide +kernel
theorem dX9_flawed_51 : decode cX9_flawed 51 = .ok (.istore 4, 2) := by decide +kernel
theorem dX9_flawed_53 : decode cX9_flawed 53 = .ok (.iload 4, 2) := by decide +kernel
theorem dX9_flawed_55 : decode cX9_flawed 55 = .ok (.iconst (-1), 1) := by decide +kernel
theorem dX9_flawed_56 : decode cX9_flawed 56 = .ok (.if_icmp .ne 5, 3) := by decide +kernel
theorem dX9_flawed_59 : decode cX9_flawed 59 = .ok (.iconst 0, 1) := by decide +kernel
theorem dX9_flawed_60 : decode cX9_flawed 60 = .ok (.ireturn, 1) := by decide +kernel
theorem dX9_flawed_61 : decode cX9_flawed 61 = .ok (.aload_n 0, 1) := by decide +kernel
theorem dX9_flawed_62 : decode cX9_flawed 62 = .ok (.iload 4, 2) := by decide +kernel
theorem dX9_flawed_64 : decode cX9_flawed 64 = .ok (.aload_n 0, 1) := by decide +kernel
theorem dX9_flawed_65 : decode cX9_flawed 65 = .ok (.getfield 45, 3) := by decide +kernel
theorem dX9_flawed_68 : decode cX9_flawed 68 = .ok (.iload 4, 2) := by decide +kernel
theorem dX9_flawed_70 : decode cX9_flawed 70 = .ok (.invokevirtual 165, 3) := by decide +kernel
theorem dX9_flawed_73 : decode cX9_flawed 73 = .ok (.invokevirtual 168, 3) := by decide +kernel
theorem dX9_flawed_76 : decode cX9_flawed 76 = .ok (.aload_n 0, 1) := by decide +kernel
theorem dX9_flawed_77 : decode cX9_flawed 77 = .ok (.iconst 4, 1) := by decide +kernel
theorem dX9_flawed_78 : decode cX9_flawed 78 = .ok (.iload_n 1, 1) := by decide +kernel
theorem dX9_flawed_79 : decode cX9_flawed 79 = .ok (.invokevirtual 134, 3) := by decide +kernel
theorem dX9_flawed_82 : decode cX9_flawed 82 = .ok (.ireturn, 1) := by decide +kernel
theorem dX9_perform_0 : decode cX9_perform 0 = .ok (.aload_n 0, 1) := by decide +kernel
theorem dX9_perform_1 : decode cX9_perform 1 = .ok (.getfield 52, 3) := by decide +kernel
theorem dX9_perform_4 : decode cX9_perform 4 = .ok (.getfield 118, 3) := by decide +kernel
theorem dX9_perform_7 : decode cX9_perform 7 = .ok (.istore_n 1, 1) := by decide +kernel
theorem dX9_perform_8 : decode cX9_perform 8 = .ok (.aload_n 0, 1) := by decide +kernel
theorem dX9_perform_9 : decode cX9_perform 9 = .ok (.getfield 52, 3) := by decide +kernel
theorem dX9_perform_12 : decode cX9_perform 12 = .ok (.getfield 124, 3) := by decide +kernel
theorem dX9_perform_15 : decode cX9_perform 15 = .ok (.istore_n 2, 1) := by decide +kernel
theorem dX9_perform_16 : decode cX9_perform 16 = .ok (.getstatic 153, 3) := by decide +kernel
theorem dX9_perform_19 : decode cX9_perform 19 = .ok (.aload_n 0, 1) := by decide +kernel
theorem dX9_perform_20 : decode cX9_perform 20 = .ok (.getfield 52, 3) := by decide +kernel
theorem dX9_perform_23 : decode cX9_perform 23 = .ok (.getfield 141, 3) := by decide +kernel
theorem dX9_perform_26 : decode cX9_perform 26 = .ok (.invokevirtual 158, 3) := by decide +kernel
theorem dX9_perform_29 : decode cX9_perform 29 = .ok (.iaload, 1) := by decide +kernel
theorem dX9_perform_30 : decode cX9_perform 30 = .ok (.tableswitch 291 1 16 #[197, 202, 208, 219, 224, 78, 97, 116, 135, 156, 176, 214, 229, 234, 260, 286], 78) := by decide +kernel
theorem dX9_perform_108 : decode cX9_perform 108 = .ok (.aload_n 0, 1) := by decide +kernel
theorem dX9_perform_109 : decode cX9_perform 109 = .ok (.getfield 45, 3) := by decide +kernel
theorem dX9_perform_112 : decode cX9_perform 112 = .ok (.aload_n 0, 1) := by decide +kernel
theorem dX9_perform_113 : decode cX9_perform 113 = .ok (.getfield 106, 3) := by decide +kernel
theorem dX9_perform_116 : decode cX9_perform 116 = .ok (.iload_n 1, 1) := by decide +kernel
theorem dX9_perform_117 : decode cX9_perform 117 = .ok (.aload_n 0, 1) := by decide +kernel
theorem dX9_perform_118 : decode cX9_perform 118 = .ok (.getfield 115, 3) := by decide +kernel
theorem dX9_perform_121 : decode cX9_perform 121 = .ok (.iload_n 2, 1) := by decide +kernel
theorem dX9_perform_122 : decode cX9_perform 122 = .ok (.invokestatic 171, 3) := by decide +kernel
theorem dX9_perform_125 : decode cX9_perform 125 = .ok (.iconst 0, 1) := by decide +kernel
theorem dX9_perform_126 : decode cX9_perform 126 = .ok (.ireturn, 1) := by decide +kernel
theorem dX9_perform_127 : decode cX9_perform 127 = .ok (.aload_n 0, 1) := by decide +kernel
theorem dX9_perform_128 : decode cX9_perform 128 = .ok (.getfield 45, 3) := by decide +kernel
theorem dX9_perform_131 : decode cX9_perform 131 = .ok (.aload_n 0, 1) := by decide +kernel
theorem dX9_perform_132 : decode cX9_perform 132 = .ok (.getfield 106, 3) := by decide +kernel
theorem dX9_perform_135 : decode cX9_perform 135 = .ok (.iload_n 1, 1) := by decide +kernel
theorem dX9_perform_136 : decode cX9_perform 136 = .ok (.aload_n 0, 1) := by decide +kernel
theorem dX9_perform_137 : decode cX9_perform 137 = .ok (.getfield 115, 3) := by decide +kernel
theorem dX9_perform_140 : decode cX9_perform 140 = .ok (.iload_n 2, 1) := by decide +kernel
theorem dX9_perform_141 : decode cX9_perform 141 = .ok (.invokestatic 177, 3) := by decide +kernel
theorem dX9_perform_144 : decode cX9_perform 144 = .ok (.iconst 0, 1) := by decide +kernel
theorem dX9_perform_145 : decode cX9_perform 145 = .ok (.ireturn, 1) := by decide +kernel
theorem dX9_perform_146 : decode cX9_perform 146 = .ok (.aload_n 0, 1) := by decide +kernel
theorem dX9_perform_147 : decode cX9_perform 147 = .ok (.getfield 45, 3) := by decide +kernel
theorem dX9_perform_150 : decode cX9_perform 150 = .ok (.aload_n 0, 1) := by decide +kernel
theorem dX9_perform_151 : decode cX9_perform 151 = .ok (.getfield 106, 3) := by decide +kernel
theorem dX9_perform_154 : decode cX9_perform 154 = .ok (.iload_n 1, 1) := by decide +kernel
theorem dX9_perform_155 : decode cX9_perform 155 = .ok (.aload_n 0, 1) := by decide +kernel
theorem dX9_perform_156 : decode cX9_perform 156 = .ok (.getfield 115, 3) := by decide +kernel
theorem dX9_perform_159 : decode cX9_perform 159 = .ok (.iload_n 2, 1) := by decide +kernel
theorem dX9_perform_160 : decode cX9_perform 160 = .ok (.invokestatic 180, 3) := by decide +kernel
theorem dX9_perform_163 : decode cX9_perform 163 = .ok (.iconst 0, 1) := by decide +kernel
theorem dX9_perform_164 : decode cX9_perform 164 = .ok (.ireturn, 1) := by decide +kernel
theorem dX9_perform_165 : decode cX9_perform 165 = .ok (.aload_n 0, 1) := by decide +kernel
theorem dX9_perform_166 : decode cX9_perform 166 = .ok (.getfield 45, 3) := by decide +kernel
theorem dX9_perform_169 : decode cX9_perform 169 = .ok (.aload_n 0, 1) := by decide +kernel
theorem dX9_perform_170 : decode cX9_perform 170 = .ok (.getfield 106, 3) := by decide +kernel
theorem dX9_perform_173 : decode cX9_perform 173 = .ok (.iload_n 1, 1) := by decide +kernel
theorem dX9_perform_174 : decode cX9_perform 174 = .ok (.aload_n 0, 1) := by decide +kernel
theorem dX9_perform_175 : decode cX9_perform 175 = .ok (.getfield 115, 3) := by decide +kernel
theorem dX9_perform_178 : decode cX9_perform 178 = .ok (.sipush 255, 3) := by decide +kernel
theorem dX9_perform_181 : decode cX9_perform 181 = .ok (.invokestatic 183, 3) := by decide +kernel
theorem dX9_perform_184 : decode cX9_perform 184 = .ok (.iconst 0, 1) := by decide +kernel
theorem dX9_perform_185 : decode cX9_perform 185 = .ok (.ireturn, 1) := by decide +kernel
theorem dX9_perform_186 : decode cX9_perform 186 = .ok (.aload_n 0, 1) := by decide +kernel
theorem dX9_perform_187 : decode cX9_perform 187 = .ok (.getfield 45, 3) := by decide +kernel
theorem dX9_perform_190 : decode cX9_perform 190 = .ok (.aload_n 0, 1) := by decide +kernel
theorem dX9_perform_191 : decode cX9_perform 191 = .ok (.getfield 106, 3) := by decide +kernel
theorem dX9_perform_194 : decode cX9_perform 194 = .ok (.iload_n 1, 1) := by decide +kernel
theorem dX9_perform_195 : decode cX9_perform 195 = .ok (.aload_n 0, 1) := by decide +kernel
theorem dX9_perform_196 : decode cX9_perform 196 = .ok (.getfield 115, 3) := by decide +kernel
theorem dX9_perform_199 : decode cX9_perform 199 = .ok (.bipush 15, 2) := by decide +kernel
theorem dX9_perform_201 : decode cX9_perform 201 = .ok (.invokestatic 183, 3) := by decide +kernel
theorem dX9_perform_204 : decode cX9_perform 204 = .ok (.iconst 0, 1) := by decide +kernel
theorem dX9_perform_205 : decode cX9_perform 205 = .ok (.ireturn, 1) := by decide +kernel
theorem dX9_perform_206 : decode cX9_perform 206 = .ok (.aload_n 0, 1) := by decide +kernel
theorem dX9_perform_207 : decode cX9_perform 207 = .ok (.getfield 45, 3) := by decide +kernel
theorem dX9_perform_210 : decode cX9_perform 210 = .ok (.aload_n 0, 1) := by decide +kernel
theorem dX9_perform_211 : decode cX9_perform 211 = .ok (.getfield 106, 3) := by decide +kernel
theorem dX9_perform_214 : decode cX9_perform 214 = .ok (.iload_n 1, 1) := by decide +kernel
theorem dX9_perform_215 : decode cX9_perform 215 = .ok (.aload_n 0, 1) := by decide +kernel
theorem dX9_perform_216 : decode cX9_perform 216 = .ok (.getfield 115, 3) := by decide +kernel
theorem dX9_perform_219 : decode cX9_perform 219 = .ok (.sipush 240, 3) := by decide +kernel
theorem dX9_perform_222 : decode cX9_perform 222 = .ok (.invokestatic 183, 3) := by decide +kernel
theorem dX9_perform_225 : decode cX9_perform 225 = .ok (.iconst 0, 1) := by decide +kernel
theorem dX9_perform_226 : decode cX9_perform 226 = .ok (.ireturn, 1) := by decide +kernel
theorem dX9_perform_227 : decode cX9_perform 227 = .ok (.aload_n 0, 1) := by decide +kernel
theorem dX9_perform_228 : decode cX9_perform 228 = .ok (.invokevirtual 186, 3) := by decide +kernel
theorem dX9_perform_231 : decode cX9_perform 231 = .ok (.ireturn, 1) := by decide +kernel
theorem dX9_perform_232 : decode cX9_perform 232 = .ok (.aload_n 0, 1) := by decide +kernel
theorem dX9_perform_233 : decode cX9_perform 233 = .ok (.iconst 0, 1) := by decide +kernel
theorem dX9_perform_234 : decode cX9_perform 234 = .ok (.invokevirtual 189, 3) := by decide +kernel
theorem dX9_perform_237 : decode cX9_perform 237 = .ok (.ireturn, 1) := by decide +kernel
theorem dX9_perform_238 : decode cX9_perform 238 = .ok (.aload_n 0, 1) := by decide +kernel
theorem dX9_perform_239 : decode cX9_perform 239 = .ok (.iconst 1, 1) := by decide +kernel
theorem dX9_perform_240 : decode cX9_perform 240 = .ok (.invokevirtual 189, 3) := by decide +kernel
theorem dX9_perform_243 : decode cX9_perform 243 = .ok (.ireturn, 1) := by decide +kernel
theorem dX9_perform_244 : decode cX9_perform 244 = .ok (.aload_n 0, 1) := by decide +kernel
theorem dX9_perform_245 : decode cX9_perform 245 = .ok (.invokevirtual 193, 3) := by decide +kernel
theorem dX9_perform_248 : decode cX9_perform 248 = .ok (.ireturn, 1) := by decide +kernel
theorem dX9_perform_249 : decode cX9_perform 249 = .ok (.aload_n 0, 1) := by decide +kernel
theorem dX9_perform_250 : decode cX9_perform 250 = .ok (.invokevirtual 196, 3) := by decide +kernel
theorem dX9_perform_253 : decode cX9_perform 253 = .ok (.ireturn, 1) := by decide +kernel
theorem dX9_perform_254 : decode cX9_perform 254 = .ok (.aload_n 0, 1) := by decide +kernel
theorem dX9_perform_255 : decode cX9_perform 255 = .ok (.invokevirtual 199, 3) := by decide +kernel
theorem dX9_perform_258 : decode cX9_perform 258 = .ok (.ireturn, 1) := by decide +kernel
theorem dX9_perform_259 : decode cX9_perform 259 = .ok (.aload_n 0, 1) := by decide +kernel
theorem dX9_perform_260 : decode cX9_perform 260 = .ok (.invokevirtual 202, 3) := by decide +kernel
theorem dX9_perform_263 : decode cX9_perform 263 = .ok (.ireturn, 1) := by decide +kernel
theorem dX9_perform_264 : decode cX9_perform 264 = .ok (.aload_n 0, 1) := by decide +kernel
theorem dX9_perform_265 : decode cX9_perform 265 = .ok (.aload_n 0, 1) := by decide +kernel
theorem dX9_perform_266 : decode cX9_perform 266 = .ok (.getfield 27, 3) := by decide +kernel
theorem dX9_perform_269 : decode cX9_perform 269 = .ok (.aload_n 0, 1) := by decide +kernel
theorem dX9_perform_270 : decode cX9_perform 270 = .ok (.getfield 45, 3) := by decide +kernel
theorem dX9_perform_273 : decode cX9_perform 273 = .ok (.aload_n 0, 1) := by decide +kernel
theorem dX9_perform_274 : decode cX9_perform 274 = .ok (.getfield 106, 3) := by decide +kernel
theorem dX9_perform_277 : decode cX9_perform 277 = .ok (.iload_n 1, 1) := by decide +kernel
theorem dX9_perform_278 : decode cX9_perform 278 = .ok (.aload_n 0, 1) := by decide +kernel
theorem dX9_perform_279 : decode cX9_perform 279 = .ok (.getfield 115, 3) := by decide +kernel
theorem dX9_perform_282 : decode cX9_perform 282 = .ok (.invokevirtual 205, 3) := by decide +kernel
theorem dX9_perform_285 : decode cX9_perform 285 = .ok (.iconst 0, 1) := by decide +kernel
theorem dX9_perform_286 : decode cX9_perform 286 = .ok (.invokevirtual 209, 3) := by decide +kernel
theorem dX9_perform_289 : decode cX9_perform 289 = .ok (.ireturn, 1) := by decide +kernel
theorem dX9_perform_290 : decode cX9_perform 290 = .ok (.aload_n 0, 1) := by decide +kernel
theorem dX9_perform_291 : decode cX9_perform 291 = .ok (.aload_n 0, 1) := by decide +kernel
theorem dX9_perform_292 : decode cX9_perform 292 = .ok (.getfield 27, 3) := by decide +kernel
theorem dX9_perform_295 : decode cX9_perform 295 = .ok (.aload_n 0, 1) := by decide +kernel
theorem dX9_perform_296 : decode cX9_perform 296 = .ok (.getfield 45, 3) := by decide +kernel
theorem dX9_perform_299 : decode cX9_perform 299 = .ok (.aload_n 0, 1) := by decide +kernel
theorem dX9_perform_300 : decode cX9_perform 300 = .ok (.getfield 106, 3) := by decide +kernel
theorem dX9_perform_303 : decode cX9_perform 303 = .ok (.iload_n 1, 1) := by decide +kernel
theorem dX9_perform_304 : decode cX9_perform 304 = .ok (.aload_n 0, 1) := by decide +kernel
theorem dX9_perform_305 : decode cX9_perform 305 = .ok (.getfield 115, 3) := by decide +kernel
theorem dX9_perform_308 : decode cX9_perform 308 = .ok (.invokevirtual 205, 3) := by decide +kernel
theorem dX9_perform_311 : decode cX9_perform 311 = .ok (.iconst 1, 1) := by decide +kernel
theorem dX9_perform_312 : decode cX9_perform 312 = .ok (.invokevirtual 209, 3) := by decide +kernel
theorem dX9_perform_315 : decode cX9_perform 315 = .ok (.ireturn, 1) := by decide +kernel
theorem dX9_perform_316 : decode cX9_perform 316 = .ok (.aload_n 0, 1) := by decide +kernel
theorem dX9_perform_317 : decode cX9_perform 317 = .ok (.invokevirtual 213, 3) := by decide +kernel
theorem dX9_perform_320 : decode cX9_perform 320 = .ok (.ireturn, 1) := by decide +kernel
theorem dX9_perform_321 : decode cX9_perform 321 = .ok (.aload_n 0, 1) := by decide +kernel
theorem dX9_perform_322 : decode cX9_perform 322 = .ok (.invokevirtual 216, 3) := by decide +kernel
theorem dX9_perform_325 : decode cX9_perform 325 = .ok (.ireturn, 1) := by decide +kernel
theorem dX9_performPlain_0 : decode cX9_performPlain 0 = .ok (.sipush 256, 3) := by decide +kernel
theorem dX9_performPlain_3 : decode cX9_performPlain 3 = .ok (.aload_n 0, 1) := by decide +kernel
theorem dX9_performPlain_4 : decode cX9_performPlain 4 = .ok (.getfield 52, 3) := by decide +kernel
theorem dX9_performPlain_7 : decode cX9_performPlain 7 = .ok (.getfield 219, 3) := by decide +kernel
theorem dX9_performPlain_10 : decode cX9_performPlain 10 = .ok (.iadd, 1) := by decide +kernel
theorem dX9_performPlain_11 : decode cX9_performPlain 11 = .ok (.istore_n 1, 1) := by decide +kernel
theorem dX9_performPlain_12 : decode cX9_performPlain 12 = .ok (.aload_n 0, 1) := by decide +kernel
theorem dX9_performPlain_13 : decode cX9_performPlain 13 = .ok (.getfield 45, 3) := by decide +kernel
theorem dX9_performPlain_16 : decode cX9_performPlain 16 = .ok (.iload_n 1, 1) := by decide +kernel
theorem dX9_performPlain_17 : decode cX9_performPlain 17 = .ok (.invokevirtual 64, 3) := by decide +kernel
theorem dX9_performPlain_20 : decode cX9_performPlain 20 = .ok (.istore_n 2, 1) := by decide +kernel
theorem dX9_performPlain_21 : decode cX9_performPlain 21 = .ok (.getstatic 153, 3) := by decide +kernel
theorem dX9_performPlain_24 : decode cX9_performPlain 24 = .ok (.aload_n 0, 1) := by decide +kernel
theorem dX9_performPlain_25 : decode cX9_performPlain 25 = .ok (.getfield 52, 3) := by decide +kernel
theorem dX9_performPlain_28 : decode cX9_performPlain 28 = .ok (.getfield 141, 3) := by decide +kernel
theorem dX9_performPlain_31 : decode cX9_performPlain 31 = .ok (.invokevirtual 158, 3) := by decide +kernel
theorem dX9_performPlain_34 : decode cX9_performPlain 34 = .ok (.iaload, 1) := by decide +kernel
theorem dX9_performPlain_35 : decode cX9_performPlain 35 = .ok (.tableswitch 291 17 24 #[45, 86, 101, 121, 138, 176, 221, 251], 45) := by decide +kernel
theorem dX9_performPlain_80 : decode cX9_performPlain 80 = .ok (.aload_n 0, 1) := by decide +kernel
theorem dX9_performPlain_81 : decode cX9_performPlain 81 = .ok (.getfield 21, 3) := by decide +kernel
theorem dX9_performPlain_84 : decode cX9_performPlain 84 = .ok (.iload_n 2, 1) := by decide +kernel
theorem dX9_performPlain_85 : decode cX9_performPlain 85 = .ok (.i2l, 1) := by decide +kernel
theorem dX9_performPlain_86 : decode cX9_performPlain 86 = .ok (.invokevirtual 222, 3) := by decide +kernel
theorem dX9_performPlain_89 : decode cX9_performPlain 89 = .ok (.aload_n 0, 1) := by decide +kernel
theorem dX9_performPlain_90 : decode cX9_performPlain 90 = .ok (.getfield 21, 3) := by decide +kernel
theorem dX9_performPlain_93 : decode cX9_performPlain 93 = .ok (.aload_n 0, 1) := by decide +kernel
theorem dX9_performPlain_94 : decode cX9_performPlain 94 = .ok (.getfield 45, 3) := by decide +kernel
theorem dX9_performPlain_97 : decode cX9_performPlain 97 = .ok (.aload_n 0, 1) := by decide +kernel
theorem dX9_performPlain_98 : decode cX9_performPlain 98 = .ok (.getfield 106, 3) := by decide +kernel
theorem dX9_performPlain_101 : decode cX9_performPlain 101 = .ok (.aload_n 0, 1) := by decide +kernel
theorem dX9_performPlain_102 : decode cX9_performPlain 102 = .ok (.getfield 52, 3) := by decide +kernel
theorem dX9_performPlain_105 : decode cX9_performPlain 105 = .ok (.getfield 118, 3) := by decide +kernel
theorem dX9_performPlain_108 : decode cX9_performPlain 108 = .ok (.aload_n 0, 1) := by decide +kernel
theorem dX9_performPlain_109 : decode cX9_performPlain 109 = .ok (.getfield 21, 3) := by decide +kernel
theorem dX9_performPlain_112 : decode cX9_performPlain 112 = .ok (.invokevirtual 226, 3) := by decide +kernel
theorem dX9_performPlain_115 : decode cX9_performPlain 115 = .ok (.invokevirtual 229, 3) := by decide +kernel
theorem dX9_performPlain_118 : decode cX9_performPlain 118 = .ok (.goto 213, 3) := by decide +kernel
theorem dX9_performPlain_121 : decode cX9_performPlain 121 = .ok (.aload_n 0, 1) := by decide +kernel
theorem dX9_performPlain_122 : decode cX9_performPlain 122 = .ok (.getfield 45, 3) := by decide +kernel
theorem dX9_performPlain_125 : decode cX9_performPlain 125 = .ok (.iload_n 1, 1) := by decide +kernel
theorem dX9_performPlain_126 : decode cX9_performPlain 126 = .ok (.aload_n 0, 1) := by decide +kernel
theorem dX9_performPlain_127 : decode cX9_performPlain 127 = .ok (.getfield 106, 3) := by decide +kernel
theorem dX9_performPlain_130 : decode cX9_performPlain 130 = .ok (.invokevirtual 233, 3) := by decide +kernel
theorem dX9_performPlain_133 : decode cX9_performPlain 133 = .ok (.goto 198, 3) := by decide +kernel
theorem dX9_performPlain_136 : decode cX9_performPlain 136 = .ok (.aload_n 0, 1) := by decide +kernel
theorem dX9_performPlain_137 : decode cX9_performPlain 137 = .ok (.getfield 45, 3) := by decide +kernel
theorem dX9_performPlain_140 : decode cX9_performPlain 140 = .ok (.iload_n 1, 1) := by decide +kernel
theorem dX9_performPlain_141 : decode cX9_performPlain 141 = .ok (.iload_n 2, 1) := by decide +kernel
theorem dX9_performPlain_142 : decode cX9_performPlain 142 = .ok (.aload_n 0, 1) := by decide +kernel
theorem dX9_performPlain_143 : decode cX9_performPlain 143 = .ok (.getfield 52, 3) := by decide +kernel
theorem dX9_performPlain_146 : decode cX9_performPlain 146 = .ok (.getfield 235, 3) := by decide +kernel
theorem dX9_performPlain_149 : decode cX9_performPlain 149 = .ok (.iadd, 1) := by decide +kernel
theorem dX9_performPlain_150 : decode cX9_performPlain 150 = .ok (.invokevirtual 233, 3) := by decide +kernel
theorem dX9_performPlain_153 : decode cX9_performPlain 153 = .ok (.goto 178, 3) := by decide +kernel
theorem dX9_performPlain_156 : decode cX9_performPlain 156 = .ok (.aload_n 0, 1) := by decide +kernel
theorem dX9_performPlain_157 : decode cX9_performPlain 157 = .ok (.getfield 45, 3) := by decide +kernel
theorem dX9_performPlain_160 : decode cX9_performPlain 160 = .ok (.sipush 264, 3) := by decide +kernel
theorem dX9_performPlain_163 : decode cX9_performPlain 163 = .ok (.aload_n 0, 1) := by decide +kernel
theorem dX9_performPlain_164 : decode cX9_performPlain 164 = .ok (.invokevirtual 238, 3) := by decide +kernel
theorem dX9_performPlain_167 : decode cX9_performPlain 167 = .ok (.invokevirtual 233, 3) := by decide +kernel
theorem dX9_performPlain_170 : decode cX9_performPlain 170 = .ok (.goto 161, 3) := by decide +kernel
theorem dX9_performPlain_173 : decode cX9_performPlain 173 = .ok (.aload_n 0, 1) := by decide +kernel
theorem dX9_performPlain_174 : decode cX9_performPlain 174 = .ok (.getfield 45, 3) := by decide +kernel
theorem dX9_performPlain_177 : decode cX9_performPlain 177 = .ok (.iload_n 1, 1) := by decide +kernel
theorem dX9_performPlain_178 : decode cX9_performPlain 178 = .ok (.iload_n 2, 1) := by decide +kernel
theorem dX9_performPlain_179 : decode cX9_performPlain 179 = .ok (.iconst 1, 1) := by decide +kernel
theorem dX9_performPlain_180 : decode cX9_performPlain 180 = .ok (.isub, 1) := by decide +kernel
theorem dX9_performPlain_181 : decode cX9_performPlain 181 = .ok (.invokevirtual 233, 3) := by decide +kernel
theorem dX9_performPlain_184 : decode cX9_performPlain 184 = .ok (.aload_n 0, 1) := by decide +kernel
theorem dX9_performPlain_185 : decode cX9_performPlain 185 = .ok (.iload_n 2, 1) := by decide +kernel
theorem dX9_performPlain_186 : decode cX9_performPlain 186 = .ok (.iconst 1, 1) := by decide +kernel
theorem dX9_performPlain_187 : decode cX9_performPlain 187 = .ok (.isub, 1) := by decide +kernel
theorem dX9_performPlain_188 : decode cX9_performPlain 188 = .ok (.ifCond .eq 13, 3) := by decide +kernel
theorem dX9_performPlain_191 : decode cX9_performPlain 191 = .ok (.aload_n 0, 1) := by decide +kernel
theorem dX9_performPlain_192 : decode cX9_performPlain 192 = .ok (.getfield 52, 3) := by decide +kernel
theorem dX9_performPlain_195 : decode cX9_performPlain 195 = .ok (.getfield 241, 3) := by decide +kernel
theorem dX9_performPlain_198 : decode cX9_performPlain 198 = .ok (.goto 7, 3) := by decide +kernel
theorem dX9_performPlain_201 : decode cX9_performPlain 201 = .ok (.aload_n 0, 1) := by decide +kernel
theorem dX9_performPlain_202 : decode cX9_performPlain 202 = .ok (.getfield 72, 3) := by decide +kernel
theorem dX9_performPlain_205 : decode cX9_performPlain 205 = .ok (.putfield 72, 3) := by decide +kernel
theorem dX9_performPlain_208 : decode cX9_performPlain 208 = .ok (.goto 123, 3) := by decide +kernel
theorem dX9_performPlain_211 : decode cX9_performPlain 211 = .ok (.aload_n 0, 1) := by decide +kernel
theorem dX9_performPlain_212 : decode cX9_performPlain 212 = .ok (.aload_n 0, 1) := by decide +kernel
theorem dX9_performPlain_213 : decode cX9_performPlain 213 = .ok (.getfield 52, 3) := by decide +kernel
theorem dX9_performPlain_216 : decode cX9_performPlain 216 = .ok (.getfield 235, 3) := by decide +kernel
theorem dX9_performPlain_219 : decode cX9_performPlain 219 = .ok (.bipush 8, 2) := by decide +kernel
theorem dX9_performPlain_221 : decode cX9_performPlain 221 = .ok (.aload_n 0, 1) := by decide +kernel
theorem dX9_performPlain_222 : decode cX9_performPlain 222 = .ok (.getfield 45, 3) := by decide +kernel
theorem dX9_performPlain_225 : decode cX9_performPlain 225 = .ok (.sipush 264, 3) := by decide +kernel
theorem dX9_performPlain_228 : decode cX9_performPlain 228 = .ok (.invokevirtual 64, 3) := by decide +kernel
theorem dX9_performPlain_231 : decode cX9_performPlain 231 = .ok (.ishr, 1) := by decide +kernel
theorem dX9_performPlain_232 : decode cX9_performPlain 232 = .ok (.iand, 1) := by decide +kernel
theorem dX9_performPlain_233 : decode cX9_performPlain 233 = .ok (.ifCond .eq 13, 3) := by decide +kernel
theorem dX9_performPlain_236 : decode cX9_performPlain 236 = .ok (.aload_n 0, 1) := by decide +kernel
theorem dX9_performPlain_237 : decode cX9_performPlain 237 = .ok (.getfield 52, 3) := by decide +kernel
theorem dX9_performPlain_240 : decode cX9_performPlain 240 = .ok (.getfield 241, 3) := by decide +kernel
theorem dX9_performPlain_243 : decode cX9_performPlain 243 = .ok (.goto 7, 3) := by decide +kernel
theorem dX9_performPlain_246 : decode cX9_performPlain 246 = .ok (.aload_n 0, 1) := by decide +kernel
theorem dX9_performPlain_247 : decode cX9_performPlain 247 = .ok (.getfield 72, 3) := by decide +kernel
theorem dX9_performPlain_250 : decode cX9_performPlain 250 = .ok (.putfield 72, 3) := by decide +kernel
theorem dX9_performPlain_253 : decode cX9_performPlain 253 = .ok (.goto 78, 3) := by decide +kernel
theorem dX9_performPlain_256 : decode cX9_performPlain 256 = .ok (.aload_n 0, 1) := by decide +kernel
theorem dX9_performPlain_257 : decode cX9_performPlain 257 = .ok (.getfield 45, 3) := by decide +kernel
theorem dX9_performPlain_260 : decode cX9_performPlain 260 = .ok (.sipush 268, 3) := by decide +kernel
theorem dX9_performPlain_263 : decode cX9_performPlain 263 = .ok (.aload_n 0, 1) := by decide +kernel
theorem dX9_performPlain_264 : decode cX9_performPlain 264 = .ok (.getfield 52, 3) := by decide +kernel
theorem dX9_performPlain_267 : decode cX9_performPlain 267 = .ok (.getfield 235, 3) := by decide +kernel
theorem dX9_performPlain_270 : decode cX9_performPlain 270 = .ok (.iadd, 1) := by decide +kernel
theorem dX9_performPlain_271 : decode cX9_performPlain 271 = .ok (.iconst 1, 1) := by decide +kernel
theorem dX9_performPlain_272 : decode cX9_performPlain 272 = .ok (.isub, 1) := by decide +kernel
theorem dX9_performPlain_273 : decode cX9_performPlain 273 = .ok (.aload_n 0, 1) := by decide +kernel
theorem dX9_performPlain_274 : decode cX9_performPlain 274 = .ok (.getfield 52, 3) := by decide +kernel
theorem dX9_performPlain_277 : decode cX9_performPlain 277 = .ok (.getfield 241, 3) := by decide +kernel
theorem dX9_performPlain_280 : decode cX9_performPlain 280 = .ok (.invokevirtual 233, 3) := by decide +kernel
theorem dX9_performPlain_283 : decode cX9_performPlain 283 = .ok (.goto 48, 3) := by decide +kernel
theorem dX9_performPlain_286 : decode cX9_performPlain 286 = .ok (.aload_n 0, 1) := by decide +kernel
theorem dX9_performPlain_287 : decode cX9_performPlain 287 = .ok (.aload_n 0, 1) := by decide +kernel
theorem dX9_performPlain_288 : decode cX9_performPlain 288 = .ok (.getfield 45, 3) := by decide +kernel
theorem dX9_performPlain_291 : decode cX9_performPlain 291 = .ok (.sipush 266, 3) := by decide +kernel
theorem dX9_performPlain_294 : decode cX9_performPlain 294 = .ok (.invokevirtual 64, 3) := by decide +kernel
theorem dX9_performPlain_297 : decode cX9_performPlain 297 = .ok (.iconst (-1), 1) := by decide +kernel
theorem dX9_performPlain_298 : decode cX9_performPlain 298 = .ok (.if_icmp .eq 18, 3) := by decide +kernel
theorem dX9_performPlain_301 : decode cX9_performPlain 301 = .ok (.aload_n 0, 1) := by decide +kernel
theorem dX9_performPlain_302 : decode cX9_performPlain 302 = .ok (.getfield 45, 3) := by decide +kernel
theorem dX9_performPlain_305 : decode cX9_performPlain 305 = .ok (.sipush 266, 3) := by decide +kernel
theorem dX9_performPlain_308 : decode cX9_performPlain 308 = .ok (.invokevirtual 64, 3) := by decide +kernel
theorem dX9_performPlain_311 : decode cX9_performPlain 311 = .ok (.iconst 1, 1) := by decide +kernel
theorem dX9_performPlain_312 : decode cX9_performPlain 312 = .ok (.iadd, 1) := by decide +kernel
theorem dX9_performPlain_313 : decode cX9_performPlain 313 = .ok (.goto 7, 3) := by decide +kernel
theorem dX9_performPlain_316 : decode cX9_performPlain 316 = .ok (.aload_n 0, 1) := by decide +kernel
theorem dX9_performPlain_317 : decode cX9_performPlain 317 = .ok (.getfield 72, 3) := by decide +kernel
theorem dX9_performPlain_320 : decode cX9_performPlain 320 = .ok (.putfield 72, 3) := by decide +kernel
theorem dX9_performPlain_323 : decode cX9_performPlain 323 = .ok (.goto 8, 3) := by decide +kernel
theorem dX9_performPlain_326 : decode cX9_performPlain 326 = .ok (.aload_n 0, 1) := by decide +kernel
theorem dX9_performPlain_327 : decode cX9_performPlain 327 = .ok (.iconst 1, 1) := by decide +kernel
theorem dX9_performPlain_328 : decode cX9_performPlain 328 = .ok (.putfield 76, 3) := by decide +kernel
theorem dX9_performPlain_331 : decode cX9_performPlain 331 = .ok (.iconst 0, 1) := by decide +kernel
theorem dX9_performPlain_332 : decode cX9_performPlain 332 = .ok (.ireturn, 1) := by decide +kernel
theorem dX9_tested_0 : decode cX9_tested 0 = .ok (.iconst 2, 1) := by decide +kernel
theorem dX9_tested_1 : decode cX9_tested 1 = .ok (.aload_n 0, 1) := by decide +kernel
theorem dX9_tested_2 : decode cX9_tested 2 = .ok (.getfield 121, 3) := by decide +kernel
theorem dX9_tested_5 : decode cX9_tested 5 = .ok (.imul, 1) := by decide +kernel
theorem dX9_tested_6 : decode cX9_tested 6 = .ok (.iconst 1, 1) := by decide +kernel
theorem dX9_tested_7 : decode cX9_tested 7 = .ok (.isub, 1) := by decide +kernel
theorem dX9_tested_8 : decode cX9_tested 8 = .ok (.istore_n 1, 1) := by decide +kernel
theorem dX9_tested_9 : decode cX9_tested 9 = .ok (.aload_n 0, 1) := by decide +kernel
theorem dX9_tested_10 : decode cX9_tested 10 = .ok (.getfield 45, 3) := by decide +kernel
theorem dX9_tested_13 : decode cX9_tested 13 = .ok (.aload_n 0, 1) := by decide +kernel
theorem dX9_tested_14 : decode cX9_tested 14 = .ok (.getfield 106, 3) := by decide +kernel
theorem dX9_tested_17 : decode cX9_tested 17 = .ok (.aload_n 0, 1) := by decide +kernel
theorem dX9_tested_18 : decode cX9_tested 18 = .ok (.getfield 52, 3) := by decide +kernel
theorem dX9_tested_21 : decode cX9_tested 21 = .ok (.getfield 118, 3) := by decide +kernel
theorem dX9_tested_24 : decode cX9_tested 24 = .ok (.iconst 0, 1) := by decide +kernel
theorem dX9_tested_25 : decode cX9_tested 25 = .ok (.iconst 2, 1) := by decide +kernel
theorem dX9_tested_26 : decode cX9_tested 26 = .ok (.aload_n 0, 1) := by decide +kernel
theorem dX9_tested_27 : decode cX9_tested 27 = .ok (.getfield 106, 3) := by decide +kernel
theorem dX9_tested_30 : decode cX9_tested 30 = .ok (.imul, 1) := by decide +kernel
theorem dX9_tested_31 : decode cX9_tested 31 = .ok (.invokevirtual 161, 3) := by decide +kernel
theorem dX9_tested_34 : decode cX9_tested 34 = .ok (.istore_n 2, 1) := by decide +kernel
theorem dX9_tested_35 : decode cX9_tested 35 = .ok (.iload_n 2, 1) := by decide +kernel
theorem dX9_tested_36 : decode cX9_tested 36 = .ok (.iconst (-1), 1) := by decide +kernel
theorem dX9_tested_37 : decode cX9_tested 37 = .ok (.if_icmp .eq 12, 3) := by decide +kernel
theorem dX9_tested_40 : decode cX9_tested 40 = .ok (.iload_n 2, 1) := by decide +kernel
theorem dX9_tested_41 : decode cX9_tested 41 = .ok (.iload_n 1, 1) := by decide +kernel
theorem dX9_tested_42 : decode cX9_tested 42 = .ok (.if_icmp .eq 7, 3) := by decide +kernel
theorem dX9_tested_45 : decode cX9_tested 45 = .ok (.iconst 2, 1) := by decide +kernel
theorem dX9_tested_46 : decode cX9_tested 46 = .ok (.goto 4, 3) := by decide +kernel
theorem dX9_tested_49 : decode cX9_tested 49 = .ok (.iconst 0, 1) := by decide +kernel
theorem dX9_tested_50 : decode cX9_tested 50 = .ok (.istore_n 3, 1) := by decide +kernel
theorem dX9_tested_51 : decode cX9_tested 51 = .ok (.aload_n 0, 1) := by decide +kernel
theorem dX9_tested_52 : decode cX9_tested 52 = .ok (.getfield 45, 3) := by decide +kernel
theorem dX9_tested_55 : decode cX9_tested 55 = .ok (.iload_n 1, 1) := by decide +kernel
theorem dX9_tested_56 : decode cX9_tested 56 = .ok (.invokevirtual 165, 3) := by decide +kernel
theorem dX9_tested_59 : decode cX9_tested 59 = .ok (.bipush 9, 2) := by decide +kernel
theorem dX9_tested_61 : decode cX9_tested 61 = .ok (.if_icmp .le 7, 3) := by decide +kernel
theorem dX9_tested_64 : decode cX9_tested 64 = .ok (.iload_n 3, 1) := by decide +kernel
theorem dX9_tested_65 : decode cX9_tested 65 = .ok (.goto 6, 3) := by decide +kernel
theorem dX9_tested_68 : decode cX9_tested 68 = .ok (.iload_n 3, 1) := by decide +kernel
theorem dX9_tested_69 : decode cX9_tested 69 = .ok (.iconst 1, 1) := by decide +kernel
theorem dX9_tested_70 : decode cX9_tested 70 = .ok (.iadd, 1) := by decide +kernel
theorem dX9_tested_71 : decode cX9_tested 71 = .ok (.ireturn, 1) := by decide +kernel
theorem dX9_moveNumber_0 : decode cX9_moveNumber 0 = .ok (.aload_n 0, 1) := by decide +kernel
theorem dX9_moveNumber_1 : decode cX9_moveNumber 1 = .ok (.getfield 21, 3) := by decide +kernel
theorem dX9_moveNumber_4 : decode cX9_moveNumber 4 = .ok (.aload_n 0, 1) := by decide +kernel
theorem dX9_moveNumber_5 : decode cX9_moveNumber 5 = .ok (.getfield 45, 3) := by decide +kernel
theorem dX9_moveNumber_8 : decode cX9_moveNumber 8 = .ok (.aload_n 0, 1) := by decide +kernel
theorem dX9_moveNumber_9 : decode cX9_moveNumber 9 = .ok (.getfield 115, 3) := by decide +kernel
theorem dX9_moveNumber_12 : decode cX9_moveNumber 12 = .ok (.aload_n 0, 1) := by decide +kernel
theorem dX9_moveNumber_13 : decode cX9_moveNumber 13 = .ok (.getfield 52, 3) := by decide +kernel
theorem dX9_moveNumber_16 : decode cX9_moveNumber 16 = .ok (.getfield 124, 3) := by decide +kernel
theorem dX9_moveNumber_19 : decode cX9_moveNumber 19 = .ok (.invokevirtual 244, 3) := by decide +kernel
theorem dX9_moveNumber_22 : decode cX9_moveNumber 22 = .ok (.aload_n 0, 1) := by decide +kernel
theorem dX9_moveNumber_23 : decode cX9_moveNumber 23 = .ok (.invokevirtual 248, 3) := by decide +kernel
theorem dX9_moveNumber_26 : decode cX9_moveNumber 26 = .ok (.ireturn, 1) := by decide +kernel
theorem dX9_addNumbers_0 : decode cX9_addNumbers 0 = .ok (.aload_n 0, 1) := by decide +kernel
theorem dX9_addNumbers_1 : decode cX9_addNumbers 1 = .ok (.getfield 12, 3) := by decide +kernel
theorem dX9_addNumbers_4 : decode cX9_addNumbers 4 = .ok (.aload_n 0, 1) := by decide +kernel
theorem dX9_addNumbers_5 : decode cX9_addNumbers 5 = .ok (.getfield 45, 3) := by decide +kernel
theorem dX9_addNumbers_8 : decode cX9_addNumbers 8 = .ok (.aload_n 0, 1) := by decide +kernel
theorem dX9_addNumbers_9 : decode cX9_addNumbers 9 = .ok (.getfield 106, 3) := by decide +kernel
theorem dX9_addNumbers_12 : decode cX9_addNumbers 12 = .ok (.aload_n 0, 1) := by decide +kernel
theorem dX9_addNumbers_13 : decode cX9_addNumbers 13 = .ok (.getfield 52, 3) := by decide +kernel
theorem dX9_addNumbers_16 : decode cX9_addNumbers 16 = .ok (.getfield 118, 3) := by decide +kernel
theorem dX9_addNumbers_19 : decode cX9_addNumbers 19 = .ok (.invokevirtual 244, 3) := by decide +kernel
theorem dX9_addNumbers_22 : decode cX9_addNumbers 22 = .ok (.aload_n 0, 1) := by decide +kernel
theorem dX9_addNumbers_23 : decode cX9_addNumbers 23 = .ok (.getfield 18, 3) := by decide +kernel
theorem dX9_addNumbers_26 : decode cX9_addNumbers 26 = .ok (.aload_n 0, 1) := by decide +kernel
theorem dX9_addNumbers_27 : decode cX9_addNumbers 27 = .ok (.getfield 45, 3) := by decide +kernel
theorem dX9_addNumbers_30 : decode cX9_addNumbers 30 = .ok (.aload_n 0, 1) := by decide +kernel
theorem dX9_addNumbers_31 : decode cX9_addNumbers 31 = .ok (.getfield 115, 3) := by decide +kernel
theorem dX9_addNumbers_34 : decode cX9_addNumbers 34 = .ok (.aload_n 0, 1) := by decide +kernel
theorem dX9_addNumbers_35 : decode cX9_addNumbers 35 = .ok (.getfield 52, 3) := by decide +kernel
theorem dX9_addNumbers_38 : decode cX9_addNumbers 38 = .ok (.getfield 124, 3) := by decide +kernel
theorem dX9_addNumbers_41 : decode cX9_addNumbers 41 = .ok (.invokevirtual 244, 3) := by decide +kernel
theorem dX9_addNumbers_44 : decode cX9_addNumbers 44 = .ok (.aload_n 0, 1) := by decide +kernel
theorem dX9_addNumbers_45 : decode cX9_addNumbers 45 = .ok (.getfield 21, 3) := by decide +kernel
theorem dX9_addNumbers_48 : decode cX9_addNumbers 48 = .ok (.aload_n 0, 1) := by decide +kernel
theorem dX9_addNumbers_49 : decode cX9_addNumbers 49 = .ok (.getfield 12, 3) := by decide +kernel
theorem dX9_addNumbers_52 : decode cX9_addNumbers 52 = .ok (.aload_n 0, 1) := by decide +kernel
theorem dX9_addNumbers_53 : decode cX9_addNumbers 53 = .ok (.getfield 18, 3) := by decide +kernel
theorem dX9_addNumbers_56 : decode cX9_addNumbers 56 = .ok (.iload_n 1, 1) := by decide +kernel
theorem dX9_addNumbers_57 : decode cX9_addNumbers 57 = .ok (.invokevirtual 251, 3) := by decide +kernel
theorem dX9_addNumbers_60 : decode cX9_addNumbers 60 = .ok (.aload_n 0, 1) := by decide +kernel
theorem dX9_addNumbers_61 : decode cX9_addNumbers 61 = .ok (.invokevirtual 248, 3) := by decide +kernel
theorem dX9_addNumbers_64 : decode cX9_addNumbers 64 = .ok (.ireturn, 1) := by decide +kernel
theorem dX9_compareNumbers_0 : decode cX9_compareNumbers 0 = .ok (.aload_n 0, 1) := by decide +kernel
theorem dX9_compareNumbers_1 : decode cX9_compareNumbers 1 = .ok (.getfield 12, 3) := by decide +kernel
theorem dX9_compareNumbers_4 : decode cX9_compareNumbers 4 = .ok (.aload_n 0, 1) := by decide +kernel
theorem dX9_compareNumbers_5 : decode cX9_compareNumbers 5 = .ok (.getfield 45, 3) := by decide +kernel
theorem dX9_compareNumbers_8 : decode cX9_compareNumbers 8 = .ok (.aload_n 0, 1) := by decide +kernel
theorem dX9_compareNumbers_9 : decode cX9_compareNumbers 9 = .ok (.getfield 106, 3) := by decide +kernel
theorem dX9_compareNumbers_12 : decode cX9_compareNumbers 12 = .ok (.aload_n 0, 1) := by decide +kernel
theorem dX9_compareNumbers_13 : decode cX9_compareNumbers 13 = .ok (.getfield 52, 3) := by decide +kernel
theorem dX9_compareNumbers_16 : decode cX9_compareNumbers 16 = .ok (.getfield 118, 3) := by decide +kernel
theorem dX9_compareNumbers_19 : decode cX9_compareNumbers 19 = .ok (.invokevirtual 244, 3) := by decide +kernel
theorem dX9_compareNumbers_22 : decode cX9_compareNumbers 22 = .ok (.aload_n 0, 1) := by decide +kernel
theorem dX9_compareNumbers_23 : decode cX9_compareNumbers 23 = .ok (.getfield 18, 3) := by decide +kernel
theorem dX9_compareNumbers_26 : decode cX9_compareNumbers 26 = .ok (.aload_n 0, 1) := by decide +kernel
theorem dX9_compareNumbers_27 : decode cX9_compareNumbers 27 = .ok (.getfield 45, 3) := by decide +kernel
theorem dX9_compareNumbers_30 : decode cX9_compareNumbers 30 = .ok (.aload_n 0, 1) := by decide +kernel
theorem dX9_compareNumbers_31 : decode cX9_compareNumbers 31 = .ok (.getfield 115, 3) := by decide +kernel
theorem dX9_compareNumbers_34 : decode cX9_compareNumbers 34 = .ok (.aload_n 0, 1) := by decide +kernel
theorem dX9_compareNumbers_35 : decode cX9_compareNumbers 35 = .ok (.getfield 52, 3) := by decide +kernel
theorem dX9_compareNumbers_38 : decode cX9_compareNumbers 38 = .ok (.getfield 124, 3) := by decide +kernel
theorem dX9_compareNumbers_41 : decode cX9_compareNumbers 41 = .ok (.invokevirtual 244, 3) := by decide +kernel
theorem dX9_compareNumbers_44 : decode cX9_compareNumbers 44 = .ok (.aload_n 0, 1) := by decide +kernel
theorem dX9_compareNumbers_45 : decode cX9_compareNumbers 45 = .ok (.getfield 21, 3) := by decide +kernel
theorem dX9_compareNumbers_48 : decode cX9_compareNumbers 48 = .ok (.aload_n 0, 1) := by decide +kernel
theorem dX9_compareNumbers_49 : decode cX9_compareNumbers 49 = .ok (.getfield 12, 3) := by decide +kernel
theorem dX9_compareNumbers_52 : decode cX9_compareNumbers 52 = .ok (.aload_n 0, 1) := by decide +kernel
theorem dX9_compareNumbers_53 : decode cX9_compareNumbers 53 = .ok (.getfield 18, 3) := by decide +kernel
theorem dX9_compareNumbers_56 : decode cX9_compareNumbers 56 = .ok (.iconst 1, 1) := by decide +kernel
theorem dX9_compareNumbers_57 : decode cX9_compareNumbers 57 = .ok (.invokevirtual 251, 3) := by decide +kernel
theorem dX9_compareNumbers_60 : decode cX9_compareNumbers 60 = .ok (.aload_n 0, 1) := by decide +kernel
theorem dX9_compareNumbers_61 : decode cX9_compareNumbers 61 = .ok (.getfield 45, 3) := by decide +kernel
theorem dX9_compareNumbers_64 : decode cX9_compareNumbers 64 = .ok (.sipush 264, 3) := by decide +kernel
theorem dX9_compareNumbers_67 : decode cX9_compareNumbers 67 = .ok (.aload_n 0, 1) := by decide +kernel
theorem dX9_compareNumbers_68 : decode cX9_compareNumbers 68 = .ok (.getfield 21, 3) := by decide +kernel
theorem dX9_compareNumbers_71 : decode cX9_compareNumbers 71 = .ok (.invokevirtual 255, 3) := by decide +kernel
theorem dX9_compareNumbers_74 : decode cX9_compareNumbers 74 = .ok (.invokevirtual 233, 3) := by decide +kernel
theorem dX9_compareNumbers_77 : decode cX9_compareNumbers 77 = .ok (.iconst 0, 1) := by decide +kernel
theorem dX9_compareNumbers_78 : decode cX9_compareNumbers 78 = .ok (.ireturn, 1) := by decide +kernel
theorem dX9_multiplyNumbers_0 : decode cX9_multiplyNumbers 0 = .ok (.iconst 2, 1) := by decide +kernel
theorem dX9_multiplyNumbers_1 : decode cX9_multiplyNumbers 1 = .ok (.aload_n 0, 1) := by decide +kernel
theorem dX9_multiplyNumbers_2 : decode cX9_multiplyNumbers 2 = .ok (.getfield 106, 3) := by decide +kernel
theorem dX9_multiplyNumbers_5 : decode cX9_multiplyNumbers 5 = .ok (.imul, 1) := by decide +kernel
theorem dX9_multiplyNumbers_6 : decode cX9_multiplyNumbers 6 = .ok (.istore_n 1, 1) := by decide +kernel
theorem dX9_multiplyNumbers_7 : decode cX9_multiplyNumbers 7 = .ok (.iload_n 1, 1) := by decide +kernel
theorem dX9_multiplyNumbers_8 : decode cX9_multiplyNumbers 8 = .ok (.iconst 2, 1) := by decide +kernel
theorem dX9_multiplyNumbers_9 : decode cX9_multiplyNumbers 9 = .ok (.aload_n 0, 1) := by decide +kernel
theorem dX9_multiplyNumbers_10 : decode cX9_multiplyNumbers 10 = .ok (.getfield 106, 3) := by decide +kernel
theorem dX9_multiplyNumbers_13 : decode cX9_multiplyNumbers 13 = .ok (.aload_n 0, 1) := by decide +kernel
theorem dX9_multiplyNumbers_14 : decode cX9_multiplyNumbers 14 = .ok (.getfield 52, 3) := by decide +kernel
theorem dX9_multiplyNumbers_17 : decode cX9_multiplyNumbers 17 = .ok (.getfield 124, 3) := by decide +kernel
theorem dX9_multiplyNumbers_20 : decode cX9_multiplyNumbers 20 = .ok (.iadd, 1) := by decide +kernel
theorem dX9_multiplyNumbers_21 : decode cX9_multiplyNumbers 21 = .ok (.imul, 1) := by decide +kernel
theorem dX9_multiplyNumbers_22 : decode cX9_multiplyNumbers 22 = .ok (.if_icmp .ge 40, 3) := by decide +kernel
theorem dX9_multiplyNumbers_25 : decode cX9_multiplyNumbers 25 = .ok (.aload_n 0, 1) := by decide +kernel
theorem dX9_multiplyNumbers_26 : decode cX9_multiplyNumbers 26 = .ok (.getfield 45, 3) := by decide +kernel
theorem dX9_multiplyNumbers_29 : decode cX9_multiplyNumbers 29 = .ok (.iload_n 1, 1) := by decide +kernel
theorem dX9_multiplyNumbers_30 : decode cX9_multiplyNumbers 30 = .ok (.invokevirtual 165, 3) := by decide +kernel
theorem dX9_multiplyNumbers_33 : decode cX9_multiplyNumbers 33 = .ok (.ifCond .eq 23, 3) := by decide +kernel
theorem dX9_multiplyNumbers_36 : decode cX9_multiplyNumbers 36 = .ok (.aload_n 0, 1) := by decide +kernel
theorem dX9_multiplyNumbers_37 : decode cX9_multiplyNumbers 37 = .ok (.iload_n 1, 1) := by decide +kernel
theorem dX9_multiplyNumbers_38 : decode cX9_multiplyNumbers 38 = .ok (.aload_n 0, 1) := by decide +kernel
theorem dX9_multiplyNumbers_39 : decode cX9_multiplyNumbers 39 = .ok (.getfield 45, 3) := by decide +kernel
theorem dX9_multiplyNumbers_42 : decode cX9_multiplyNumbers 42 = .ok (.iload_n 1, 1) := by decide +kernel
theorem dX9_multiplyNumbers_43 : decode cX9_multiplyNumbers 43 = .ok (.invokevirtual 165, 3) := by decide +kernel
theorem dX9_multiplyNumbers_46 : decode cX9_multiplyNumbers 46 = .ok (.invokevirtual 168, 3) := by decide +kernel
theorem dX9_multiplyNumbers_49 : decode cX9_multiplyNumbers 49 = .ok (.aload_n 0, 1) := by decide +kernel
theorem dX9_multiplyNumbers_50 : decode cX9_multiplyNumbers 50 = .ok (.iconst 5, 1) := by decide +kernel
theorem dX9_multiplyNumbers_51 : decode cX9_multiplyNumbers 51 = .ok (.iconst 0, 1) := by decide +kernel
theorem dX9_multiplyNumbers_52 : decode cX9_multiplyNumbers 52 = .ok (.invokevirtual 134, 3) := by decide +kernel
theorem dX9_multiplyNumbers_55 : decode cX9_multiplyNumbers 55 = .ok (.ireturn, 1) := by decide +kernel
theorem dX9_multiplyNumbers_56 : decode cX9_multiplyNumbers 56 = .ok (.iinc 1 1, 3) := by decide +kernel
theorem dX9_multiplyNumbers_59 : decode cX9_multiplyNumbers 59 = .ok (.goto (-52), 3) := by decide +kernel
theorem dX9_multiplyNumbers_62 : decode cX9_multiplyNumbers 62 = .ok (.aload_n 0, 1) := by decide +kernel
theorem dX9_multiplyNumbers_63 : decode cX9_multiplyNumbers 63 = .ok (.getfield 12, 3) := by decide +kernel
theorem dX9_multiplyNumbers_66 : decode cX9_multiplyNumbers 66 = .ok (.aload_n 0, 1) := by decide +kernel
theorem dX9_multiplyNumbers_67 : decode cX9_multiplyNumbers 67 = .ok (.getfield 45, 3) := by decide +kernel
theorem dX9_multiplyNumbers_70 : decode cX9_multiplyNumbers 70 = .ok (.aload_n 0, 1) := by decide +kernel
theorem dX9_multiplyNumbers_71 : decode cX9_multiplyNumbers 71 = .ok (.getfield 106, 3) := by decide +kernel
theorem dX9_multiplyNumbers_74 : decode cX9_multiplyNumbers 74 = .ok (.aload_n 0, 1) := by decide +kernel
theorem dX9_multiplyNumbers_75 : decode cX9_multiplyNumbers 75 = .ok (.getfield 52, 3) := by decide +kernel
theorem dX9_multiplyNumbers_78 : decode cX9_multiplyNumbers 78 = .ok (.getfield 118, 3) := by decide +kernel
theorem dX9_multiplyNumbers_81 : decode cX9_multiplyNumbers 81 = .ok (.invokevirtual 244, 3) := by decide +kernel
theorem dX9_multiplyNumbers_84 : decode cX9_multiplyNumbers 84 = .ok (.aload_n 0, 1) := by decide +kernel
theorem dX9_multiplyNumbers_85 : decode cX9_multiplyNumbers 85 = .ok (.getfield 18, 3) := by decide +kernel
theorem dX9_multiplyNumbers_88 : decode cX9_multiplyNumbers 88 = .ok (.aload_n 0, 1) := by decide +kernel
theorem dX9_multiplyNumbers_89 : decode cX9_multiplyNumbers 89 = .ok (.getfield 45, 3) := by decide +kernel
theorem dX9_multiplyNumbers_92 : decode cX9_multiplyNumbers 92 = .ok (.aload_n 0, 1) := by decide +kernel
theorem dX9_multiplyNumbers_93 : decode cX9_multiplyNumbers 93 = .ok (.getfield 115, 3) := by decide +kernel
theorem dX9_multiplyNumbers_96 : decode cX9_multiplyNumbers 96 = .ok (.aload_n 0, 1) := by decide +kernel
theorem dX9_multiplyNumbers_97 : decode cX9_multiplyNumbers 97 = .ok (.getfield 52, 3) := by decide +kernel
theorem dX9_multiplyNumbers_100 : decode cX9_multiplyNumbers 100 = .ok (.getfield 124, 3) := by decide +kernel
theorem dX9_multiplyNumbers_103 : decode cX9_multiplyNumbers 103 = .ok (.invokevirtual 244, 3) := by decide +kernel
theorem dX9_multiplyNumbers_106 : decode cX9_multiplyNumbers 106 = .ok (.aload_n 0, 1) := by decide +kernel
theorem dX9_multiplyNumbers_107 : decode cX9_multiplyNumbers 107 = .ok (.getfield 21, 3) := by decide +kernel
theorem dX9_multiplyNumbers_110 : decode cX9_multiplyNumbers 110 = .ok (.aload_n 0, 1) := by decide +kernel
theorem dX9_multiplyNumbers_111 : decode cX9_multiplyNumbers 111 = .ok (.getfield 12, 3) := by decide +kernel
theorem dX9_multiplyNumbers_114 : decode cX9_multiplyNumbers 114 = .ok (.aload_n 0, 1) := by decide +kernel
theorem dX9_multiplyNumbers_115 : decode cX9_multiplyNumbers 115 = .ok (.getfield 18, 3) := by decide +kernel
theorem dX9_multiplyNumbers_118 : decode cX9_multiplyNumbers 118 = .ok (.invokevirtual 258, 3) := by decide +kernel
theorem dX9_multiplyNumbers_121 : decode cX9_multiplyNumbers 121 = .ok (.aload_n 0, 1) := by decide +kernel
theorem dX9_multiplyNumbers_122 : decode cX9_multiplyNumbers 122 = .ok (.getfield 21, 3) := by decide +kernel
theorem dX9_multiplyNumbers_125 : decode cX9_multiplyNumbers 125 = .ok (.aload_n 0, 1) := by decide +kernel
theorem dX9_multiplyNumbers_126 : decode cX9_multiplyNumbers 126 = .ok (.getfield 45, 3) := by decide +kernel
theorem dX9_multiplyNumbers_129 : decode cX9_multiplyNumbers 129 = .ok (.aload_n 0, 1) := by decide +kernel
theorem dX9_multiplyNumbers_130 : decode cX9_multiplyNumbers 130 = .ok (.getfield 106, 3) := by decide +kernel
theorem dX9_multiplyNumbers_133 : decode cX9_multiplyNumbers 133 = .ok (.aload_n 0, 1) := by decide +kernel
theorem dX9_multiplyNumbers_134 : decode cX9_multiplyNumbers 134 = .ok (.getfield 52, 3) := by decide +kernel
theorem dX9_multiplyNumbers_137 : decode cX9_multiplyNumbers 137 = .ok (.getfield 118, 3) := by decide +kernel
theorem dX9_multiplyNumbers_140 : decode cX9_multiplyNumbers 140 = .ok (.aload_n 0, 1) := by decide +kernel
theorem dX9_multiplyNumbers_141 : decode cX9_multiplyNumbers 141 = .ok (.getfield 21, 3) := by decide +kernel
theorem dX9_multiplyNumbers_144 : decode cX9_multiplyNumbers 144 = .ok (.invokevirtual 262, 3) := by decide +kernel
theorem dX9_multiplyNumbers_147 : decode cX9_multiplyNumbers 147 = .ok (.ifCond .eq 8, 3) := by decide +kernel
theorem dX9_multiplyNumbers_150 : decode cX9_multiplyNumbers 150 = .ok (.bipush 13, 2) := by decide +kernel
theorem dX9_multiplyNumbers_152 : decode cX9_multiplyNumbers 152 = .ok (.goto 5, 3) := by decide +kernel
theorem dX9_multiplyNumbers_155 : decode cX9_multiplyNumbers 155 = .ok (.bipush 12, 2) := by decide +kernel
theorem dX9_multiplyNumbers_157 : decode cX9_multiplyNumbers 157 = .ok (.invokevirtual 229, 3) := by decide +kernel
theorem dX9_multiplyNumbers_160 : decode cX9_multiplyNumbers 160 = .ok (.iconst 0, 1) := by decide +kernel
theorem dX9_multiplyNumbers_161 : decode cX9_multiplyNumbers 161 = .ok (.ireturn, 1) := by decide +kernel
theorem dX9_divideNumbers_0 : decode cX9_divideNumbers 0 = .ok (.aload_n 0, 1) := by decide +kernel
theorem dX9_divideNumbers_1 : decode cX9_divideNumbers 1 = .ok (.getfield 12, 3) := by decide +kernel
theorem dX9_divideNumbers_4 : decode cX9_divideNumbers 4 = .ok (.aload_n 0, 1) := by decide +kernel
theorem dX9_divideNumbers_5 : decode cX9_divideNumbers 5 = .ok (.getfield 45, 3) := by decide +kernel
theorem dX9_divideNumbers_8 : decode cX9_divideNumbers 8 = .ok (.aload_n 0, 1) := by decide +kernel
theorem dX9_divideNumbers_9 : decode cX9_divideNumbers 9 = .ok (.getfield 106, 3) := by decide +kernel
theorem dX9_divideNumbers_12 : decode cX9_divideNumbers 12 = .ok (.aload_n 0, 1) := by decide +kernel
theorem dX9_divideNumbers_13 : decode cX9_divideNumbers 13 = .ok (.getfield 52, 3) := by decide +kernel
theorem dX9_divideNumbers_16 : decode cX9_divideNumbers 16 = .ok (.getfield 118, 3) := by decide +kernel
theorem dX9_divideNumbers_19 : decode cX9_divideNumbers 19 = .ok (.invokevirtual 244, 3) := by decide +kernel
theorem dX9_divideNumbers_22 : decode cX9_divideNumbers 22 = .ok (.aload_n 0, 1) := by decide +kernel
theorem dX9_divideNumbers_23 : decode cX9_divideNumbers 23 = .ok (.getfield 18, 3) := by decide +kernel
theorem dX9_divideNumbers_26 : decode cX9_divideNumbers 26 = .ok (.aload_n 0, 1) := by decide +kernel
theorem dX9_divideNumbers_27 : decode cX9_divideNumbers 27 = .ok (.getfield 45, 3) := by decide +kernel
theorem dX9_divideNumbers_30 : decode cX9_divideNumbers 30 = .ok (.aload_n 0, 1) := by decide +kernel
theorem dX9_divideNumbers_31 : decode cX9_divideNumbers 31 = .ok (.getfield 115, 3) := by decide +kernel
theorem dX9_divideNumbers_34 : decode cX9_divideNumbers 34 = .ok (.aload_n 0, 1) := by decide +kernel
theorem dX9_divideNumbers_35 : decode cX9_divideNumbers 35 = .ok (.getfield 52, 3) := by decide +kernel
theorem dX9_divideNumbers_38 : decode cX9_divideNumbers 38 = .ok (.getfield 124, 3) := by decide +kernel
theorem dX9_divideNumbers_41 : decode cX9_divideNumbers 41 = .ok (.invokevirtual 244, 3) := by decide +kernel
theorem dX9_divideNumbers_44 : decode cX9_divideNumbers 44 = .ok (.aload_n 0, 1) := by decide +kernel
theorem dX9_divideNumbers_45 : decode cX9_divideNumbers 45 = .ok (.getfield 52, 3) := by decide +kernel
theorem dX9_divideNumbers_48 : decode cX9_divideNumbers 48 = .ok (.getfield 118, 3) := by decide +kernel
theorem dX9_divideNumbers_51 : decode cX9_divideNumbers 51 = .ok (.aload_n 0, 1) := by decide +kernel
theorem dX9_divideNumbers_52 : decode cX9_divideNumbers 52 = .ok (.getfield 52, 3) := by decide +kernel
theorem dX9_divideNumbers_55 : decode cX9_divideNumbers 55 = .ok (.getfield 124, 3) := by decide +kernel
theorem dX9_divideNumbers_58 : decode cX9_divideNumbers 58 = .ok (.isub, 1) := by decide +kernel
theorem dX9_divideNumbers_59 : decode cX9_divideNumbers 59 = .ok (.istore_n 1, 1) := by decide +kernel
theorem dX9_divideNumbers_60 : decode cX9_divideNumbers 60 = .ok (.aload_n 0, 1) := by decide +kernel
theorem dX9_divideNumbers_61 : decode cX9_divideNumbers 61 = .ok (.getfield 21, 3) := by decide +kernel
theorem dX9_divideNumbers_64 : decode cX9_divideNumbers 64 = .ok (.aload_n 0, 1) := by decide +kernel
theorem dX9_divideNumbers_65 : decode cX9_divideNumbers 65 = .ok (.getfield 12, 3) := by decide +kernel
theorem dX9_divideNumbers_68 : decode cX9_divideNumbers 68 = .ok (.aload_n 0, 1) := by decide +kernel
theorem dX9_divideNumbers_69 : decode cX9_divideNumbers 69 = .ok (.getfield 18, 3) := by decide +kernel
theorem dX9_divideNumbers_72 : decode cX9_divideNumbers 72 = .ok (.invokevirtual 266, 3) := by decide +kernel
theorem dX9_divideNumbers_75 : decode cX9_divideNumbers 75 = .ok (.invokevirtual 270, 3) := by decide +kernel
theorem dX9_divideNumbers_78 : decode cX9_divideNumbers 78 = .ok (.lstore_n 2, 1) := by decide +kernel
theorem dX9_divideNumbers_79 : decode cX9_divideNumbers 79 = .ok (.lload_n 2, 1) := by decide +kernel
theorem dX9_divideNumbers_80 : decode cX9_divideNumbers 80 = .ok (.ldc2_w 274, 3) := by decide +kernel
theorem dX9_divideNumbers_83 : decode cX9_divideNumbers 83 = .ok (.lcmp, 1) := by decide +kernel
theorem dX9_divideNumbers_84 : decode cX9_divideNumbers 84 = .ok (.ifCond .eq 18, 3) := by decide +kernel
theorem dX9_divideNumbers_87 : decode cX9_divideNumbers 87 = .ok (.aload_n 0, 1) := by decide +kernel
theorem dX9_divideNumbers_88 : decode cX9_divideNumbers 88 = .ok (.getfield 21, 3) := by decide +kernel
theorem dX9_divideNumbers_91 : decode cX9_divideNumbers 91 = .ok (.invokevirtual 276, 3) := by decide +kernel
theorem dX9_divideNumbers_94 : decode cX9_divideNumbers 94 = .ok (.iconst 2, 1) := by decide +kernel
theorem dX9_divideNumbers_95 : decode cX9_divideNumbers 95 = .ok (.iload_n 1, 1) := by decide +kernel
theorem dX9_divideNumbers_96 : decode cX9_divideNumbers 96 = .ok (.imul, 1) := by decide +kernel
theorem dX9_divideNumbers_97 : decode cX9_divideNumbers 97 = .ok (.iconst 1, 1) := by decide +kernel
theorem dX9_divideNumbers_98 : decode cX9_divideNumbers 98 = .ok (.isub, 1) := by decide +kernel
theorem dX9_divideNumbers_99 : decode cX9_divideNumbers 99 = .ok (.if_icmp .le 11, 3) := by decide +kernel
theorem dX9_divideNumbers_102 : decode cX9_divideNumbers 102 = .ok (.aload_n 0, 1) := by decide +kernel
theorem dX9_divideNumbers_103 : decode cX9_divideNumbers 103 = .ok (.bipush 7, 2) := by decide +kernel
theorem dX9_divideNumbers_105 : decode cX9_divideNumbers 105 = .ok (.iconst 0, 1) := by decide +kernel
theorem dX9_divideNumbers_106 : decode cX9_divideNumbers 106 = .ok (.invokevirtual 134, 3) := by decide +kernel
theorem dX9_divideNumbers_109 : decode cX9_divideNumbers 109 = .ok (.ireturn, 1) := by decide +kernel
theorem dX9_divideNumbers_110 : decode cX9_divideNumbers 110 = .ok (.aload_n 0, 1) := by decide +kernel
theorem dX9_divideNumbers_111 : decode cX9_divideNumbers 111 = .ok (.getfield 21, 3) := by decide +kernel
theorem dX9_divideNumbers_114 : decode cX9_divideNumbers 114 = .ok (.aload_n 0, 1) := by decide +kernel
theorem dX9_divideNumbers_115 : decode cX9_divideNumbers 115 = .ok (.getfield 45, 3) := by decide +kernel
theorem dX9_divideNumbers_118 : decode cX9_divideNumbers 118 = .ok (.aload_n 0, 1) := by decide +kernel
theorem dX9_divideNumbers_119 : decode cX9_divideNumbers 119 = .ok (.getfield 106, 3) := by decide +kernel
theorem dX9_divideNumbers_122 : decode cX9_divideNumbers 122 = .ok (.iload_n 1, 1) := by decide +kernel
theorem dX9_divideNumbers_123 : decode cX9_divideNumbers 123 = .ok (.aload_n 0, 1) := by decide +kernel
theorem dX9_divideNumbers_124 : decode cX9_divideNumbers 124 = .ok (.getfield 12, 3) := by decide +kernel
theorem dX9_divideNumbers_127 : decode cX9_divideNumbers 127 = .ok (.invokevirtual 262, 3) := by decide +kernel
theorem dX9_divideNumbers_130 : decode cX9_divideNumbers 130 = .ok (.aload_n 0, 1) := by decide +kernel
theorem dX9_divideNumbers_131 : decode cX9_divideNumbers 131 = .ok (.getfield 18, 3) := by decide +kernel
theorem dX9_divideNumbers_134 : decode cX9_divideNumbers 134 = .ok (.invokevirtual 262, 3) := by decide +kernel
theorem dX9_divideNumbers_137 : decode cX9_divideNumbers 137 = .ok (.if_icmp .eq 8, 3) := by decide +kernel
theorem dX9_divideNumbers_140 : decode cX9_divideNumbers 140 = .ok (.bipush 13, 2) := by decide +kernel
theorem dX9_divideNumbers_142 : decode cX9_divideNumbers 142 = .ok (.goto 5, 3) := by decide +kernel
theorem dX9_divideNumbers_145 : decode cX9_divideNumbers 145 = .ok (.bipush 12, 2) := by decide +kernel
theorem dX9_divideNumbers_147 : decode cX9_divideNumbers 147 = .ok (.invokevirtual 229, 3) := by decide +kernel
theorem dX9_divideNumbers_150 : decode cX9_divideNumbers 150 = .ok (.aload_n 0, 1) := by decide +kernel
theorem dX9_divideNumbers_151 : decode cX9_divideNumbers 151 = .ok (.getfield 21, 3) := by decide +kernel
theorem dX9_divideNumbers_154 : decode cX9_divideNumbers 154 = .ok (.lload_n 2, 1) := by decide +kernel
theorem dX9_divideNumbers_155 : decode cX9_divideNumbers 155 = .ok (.invokevirtual 222, 3) := by decide +kernel
theorem dX9_divideNumbers_158 : decode cX9_divideNumbers 158 = .ok (.aload_n 0, 1) := by decide +kernel
theorem dX9_divideNumbers_159 : decode cX9_divideNumbers 159 = .ok (.getfield 21, 3) := by decide +kernel
theorem dX9_divideNumbers_162 : decode cX9_divideNumbers 162 = .ok (.aload_n 0, 1) := by decide +kernel
theorem dX9_divideNumbers_163 : decode cX9_divideNumbers 163 = .ok (.getfield 45, 3) := by decide +kernel
theorem dX9_divideNumbers_166 : decode cX9_divideNumbers 166 = .ok (.aload_n 0, 1) := by decide +kernel
theorem dX9_divideNumbers_167 : decode cX9_divideNumbers 167 = .ok (.getfield 106, 3) := by decide +kernel
theorem dX9_divideNumbers_170 : decode cX9_divideNumbers 170 = .ok (.iload_n 1, 1) := by decide +kernel
theorem dX9_divideNumbers_171 : decode cX9_divideNumbers 171 = .ok (.iadd, 1) := by decide +kernel
theorem dX9_divideNumbers_172 : decode cX9_divideNumbers 172 = .ok (.aload_n 0, 1) := by decide +kernel
theorem dX9_divideNumbers_173 : decode cX9_divideNumbers 173 = .ok (.getfield 52, 3) := by decide +kernel
theorem dX9_divideNumbers_176 : decode cX9_divideNumbers 176 = .ok (.getfield 124, 3) := by decide +kernel
theorem dX9_divideNumbers_179 : decode cX9_divideNumbers 179 = .ok (.aload_n 0, 1) := by decide +kernel
theorem dX9_divideNumbers_180 : decode cX9_divideNumbers 180 = .ok (.getfield 12, 3) := by decide +kernel
theorem dX9_divideNumbers_183 : decode cX9_divideNumbers 183 = .ok (.invokevirtual 262, 3) := by decide +kernel
theorem dX9_divideNumbers_186 : decode cX9_divideNumbers 186 = .ok (.ifCond .eq 8, 3) := by decide +kernel
theorem dX9_divideNumbers_189 : decode cX9_divideNumbers 189 = .ok (.bipush 13, 2) := by decide +kernel
theorem dX9_divideNumbers_191 : decode cX9_divideNumbers 191 = .ok (.goto 5, 3) := by decide +kernel
theorem dX9_divideNumbers_194 : decode cX9_divideNumbers 194 = .ok (.bipush 12, 2) := by decide +kernel
theorem dX9_divideNumbers_196 : decode cX9_divideNumbers 196 = .ok (.invokevirtual 229, 3) := by decide +kernel
theorem dX9_divideNumbers_199 : decode cX9_divideNumbers 199 = .ok (.iconst 0, 1) := by decide +kernel
theorem dX9_divideNumbers_200 : decode cX9_divideNumbers 200 = .ok (.ireturn, 1) := by decide +kernel
theorem dX9_shiftNumber_0 : decode cX9_shiftNumber 0 = .ok (.aload_n 0, 1) := by decide +kernel
theorem dX9_shiftNumber_1 : decode cX9_shiftNumber 1 = .ok (.getfield 12, 3) := by decide +kernel
theorem dX9_shiftNumber_4 : decode cX9_shiftNumber 4 = .ok (.aload_n 0, 1) := by decide +kernel
theorem dX9_shiftNumber_5 : decode cX9_shiftNumber 5 = .ok (.getfield 45, 3) := by decide +kernel
theorem dX9_shiftNumber_8 : decode cX9_shiftNumber 8 = .ok (.aload_n 0, 1) := by decide +kernel
theorem dX9_shiftNumber_9 : decode cX9_shiftNumber 9 = .ok (.getfield 106, 3) := by decide +kernel
theorem dX9_shiftNumber_12 : decode cX9_shiftNumber 12 = .ok (.aload_n 0, 1) := by decide +kernel
theorem dX9_shiftNumber_13 : decode cX9_shiftNumber 13 = .ok (.getfield 52, 3) := by decide +kernel
theorem dX9_shiftNumber_16 : decode cX9_shiftNumber 16 = .ok (.getfield 118, 3) := by decide +kernel
theorem dX9_shiftNumber_19 : decode cX9_shiftNumber 19 = .ok (.invokevirtual 244, 3) := by decide +kernel
theorem dX9_shiftNumber_22 : decode cX9_shiftNumber 22 = .ok (.aload_n 0, 1) := by decide +kernel
theorem dX9_shiftNumber_23 : decode cX9_shiftNumber 23 = .ok (.getfield 52, 3) := by decide +kernel
theorem dX9_shiftNumber_26 : decode cX9_shiftNumber 26 = .ok (.getfield 235, 3) := by decide +kernel
theorem dX9_shiftNumber_29 : decode cX9_shiftNumber 29 = .ok (.ifCond .lt 24, 3) := by decide +kernel
theorem dX9_shiftNumber_32 : decode cX9_shiftNumber 32 = .ok (.aload_n 0, 1) := by decide +kernel
theorem dX9_shiftNumber_33 : decode cX9_shiftNumber 33 = .ok (.getfield 21, 3) := by decide +kernel
theorem dX9_shiftNumber_36 : decode cX9_shiftNumber 36 = .ok (.aload_n 0, 1) := by decide +kernel
theorem dX9_shiftNumber_37 : decode cX9_shiftNumber 37 = .ok (.getfield 12, 3) := by decide +kernel
theorem dX9_shiftNumber_40 : decode cX9_shiftNumber 40 = .ok (.aload_n 0, 1) := by decide +kernel
theorem dX9_shiftNumber_41 : decode cX9_shiftNumber 41 = .ok (.getfield 52, 3) := by decide +kernel
theorem dX9_shiftNumber_44 : decode cX9_shiftNumber 44 = .ok (.getfield 235, 3) := by decide +kernel
theorem dX9_shiftNumber_47 : decode cX9_shiftNumber 47 = .ok (.invokevirtual 277, 3) := by decide +kernel
theorem dX9_shiftNumber_50 : decode cX9_shiftNumber 50 = .ok (.goto 29, 3) := by decide +kernel
theorem dX9_shiftNumber_53 : decode cX9_shiftNumber 53 = .ok (.aload_n 0, 1) := by decide +kernel
theorem dX9_shiftNumber_54 : decode cX9_shiftNumber 54 = .ok (.getfield 21, 3) := by decide +kernel
theorem dX9_shiftNumber_57 : decode cX9_shiftNumber 57 = .ok (.aload_n 0, 1) := by decide +kernel
theorem dX9_shiftNumber_58 : decode cX9_shiftNumber 58 = .ok (.getfield 12, 3) := by decide +kernel
theorem dX9_shiftNumber_61 : decode cX9_shiftNumber 61 = .ok (.aload_n 0, 1) := by decide +kernel
theorem dX9_shiftNumber_62 : decode cX9_shiftNumber 62 = .ok (.getfield 52, 3) := by decide +kernel
theorem dX9_shiftNumber_65 : decode cX9_shiftNumber 65 = .ok (.getfield 235, 3) := by decide +kernel
theorem dX9_shiftNumber_68 : decode cX9_shiftNumber 68 = .ok (.ineg, 1) := by decide +kernel
theorem dX9_shiftNumber_69 : decode cX9_shiftNumber 69 = .ok (.aload_n 0, 1) := by decide +kernel
theorem dX9_shiftNumber_70 : decode cX9_shiftNumber 70 = .ok (.getfield 52, 3) := by decide +kernel
theorem dX9_shiftNumber_73 : decode cX9_shiftNumber 73 = .ok (.getfield 281, 3) := by decide +kernel
theorem dX9_shiftNumber_76 : decode cX9_shiftNumber 76 = .ok (.invokevirtual 284, 3) := by decide +kernel
theorem dX9_shiftNumber_79 : decode cX9_shiftNumber 79 = .ok (.aload_n 0, 1) := by decide +kernel
theorem dX9_shiftNumber_80 : decode cX9_shiftNumber 80 = .ok (.invokevirtual 248, 3) := by decide +kernel
theorem dX9_shiftNumber_83 : decode cX9_shiftNumber 83 = .ok (.ireturn, 1) := by decide +kernel
theorem dX9_edited_0 : decode cX9_edited 0 = .ok (.iload_n 1, 1) := by decide +kernel
theorem dX9_edited_1 : decode cX9_edited 1 = .ok (.ifCond .eq 49, 3) := by decide +kernel
theorem dX9_edited_4 : decode cX9_edited 4 = .ok (.aload_n 0, 1) := by decide +kernel
theorem dX9_edited_5 : decode cX9_edited 5 = .ok (.aload_n 0, 1) := by decide +kernel
theorem dX9_edited_6 : decode cX9_edited 6 = .ok (.getfield 27, 3) := by decide +kernel
theorem dX9_edited_9 : decode cX9_edited 9 = .ok (.invokevirtual 288, 3) := by decide +kernel
theorem dX9_edited_12 : decode cX9_edited 12 = .ok (.putfield 115, 3) := by decide +kernel
theorem dX9_edited_15 : decode cX9_edited 15 = .ok (.aload_n 0, 1) := by decide +kernel
theorem dX9_edited_16 : decode cX9_edited 16 = .ok (.iconst 2, 1) := by decide +kernel
theorem dX9_edited_17 : decode cX9_edited 17 = .ok (.aload_n 0, 1) := by decide +kernel
theorem dX9_edited_18 : decode cX9_edited 18 = .ok (.getfield 115, 3) := by decide +kernel
theorem dX9_edited_21 : decode cX9_edited 21 = .ok (.imul, 1) := by decide +kernel
theorem dX9_edited_22 : decode cX9_edited 22 = .ok (.aload_n 0, 1) := by decide +kernel
theorem dX9_edited_23 : decode cX9_edited 23 = .ok (.getfield 27, 3) := by decide +kernel
theorem dX9_edited_26 : decode cX9_edited 26 = .ok (.invokevirtual 291, 3) := by decide +kernel
theorem dX9_edited_29 : decode cX9_edited 29 = .ok (.iconst 4, 1) := by decide +kernel
theorem dX9_edited_30 : decode cX9_edited 30 = .ok (.ishr, 1) := by decide +kernel
theorem dX9_edited_31 : decode cX9_edited 31 = .ok (.invokevirtual 168, 3) := by decide +kernel
theorem dX9_edited_34 : decode cX9_edited 34 = .ok (.aload_n 0, 1) := by decide +kernel
theorem dX9_edited_35 : decode cX9_edited 35 = .ok (.iload_n 1, 1) := by decide +kernel
theorem dX9_edited_36 : decode cX9_edited 36 = .ok (.iconst 1, 1) := by decide +kernel
theorem dX9_edited_37 : decode cX9_edited 37 = .ok (.invokevirtual 134, 3) := by decide +kernel
theorem dX9_edited_40 : decode cX9_edited 40 = .ok (.pop, 1) := by decide +kernel
theorem dX9_edited_41 : decode cX9_edited 41 = .ok (.aload_n 0, 1) := by decide +kernel
theorem dX9_edited_42 : decode cX9_edited 42 = .ok (.getfield 31, 3) := by decide +kernel
theorem dX9_edited_45 : decode cX9_edited 45 = .ok (.iconst 5, 1) := by decide +kernel
theorem dX9_edited_46 : decode cX9_edited 46 = .ok (.iconst 1, 1) := by decide +kernel
theorem dX9_edited_47 : decode cX9_edited 47 = .ok (.iastore, 1) := by decide +kernel
theorem dX9_edited_48 : decode cX9_edited 48 = .ok (.iload_n 1, 1) := by decide +kernel
theorem dX9_edited_49 : decode cX9_edited 49 = .ok (.ireturn, 1) := by decide +kernel
theorem dX9_edited_50 : decode cX9_edited 50 = .ok (.aload_n 0, 1) := by decide +kernel
theorem dX9_edited_51 : decode cX9_edited 51 = .ok (.getfield 45, 3) := by decide +kernel
theorem dX9_edited_54 : decode cX9_edited 54 = .ok (.sipush 264, 3) := by decide +kernel
theorem dX9_edited_57 : decode cX9_edited 57 = .ok (.aload_n 0, 1) := by decide +kernel
theorem dX9_edited_58 : decode cX9_edited 58 = .ok (.getfield 27, 3) := by decide +kernel
theorem dX9_edited_61 : decode cX9_edited 61 = .ok (.invokevirtual 293, 3) := by decide +kernel
theorem dX9_edited_64 : decode cX9_edited 64 = .ok (.invokevirtual 233, 3) := by decide +kernel
theorem dX9_edited_67 : decode cX9_edited 67 = .ok (.iload_n 2, 1) := by decide +kernel
theorem dX9_edited_68 : decode cX9_edited 68 = .ok (.ifCond .eq 31, 3) := by decide +kernel
theorem dX9_edited_71 : decode cX9_edited 71 = .ok (.aload_n 0, 1) := by decide +kernel
theorem dX9_edited_72 : decode cX9_edited 72 = .ok (.getfield 27, 3) := by decide +kernel
theorem dX9_edited_75 : decode cX9_edited 75 = .ok (.invokevirtual 296, 3) := by decide +kernel
theorem dX9_edited_78 : decode cX9_edited 78 = .ok (.iconst (-1), 1) := by decide +kernel
theorem dX9_edited_79 : decode cX9_edited 79 = .ok (.if_icmp .eq 20, 3) := by decide +kernel
theorem dX9_edited_82 : decode cX9_edited 82 = .ok (.aload_n 0, 1) := by decide +kernel
theorem dX9_edited_83 : decode cX9_edited 83 = .ok (.getfield 45, 3) := by decide +kernel
theorem dX9_edited_86 : decode cX9_edited 86 = .ok (.sipush 257, 3) := by decide +kernel
theorem dX9_edited_89 : decode cX9_edited 89 = .ok (.aload_n 0, 1) := by decide +kernel
theorem dX9_edited_90 : decode cX9_edited 90 = .ok (.getfield 27, 3) := by decide +kernel
theorem dX9_edited_93 : decode cX9_edited 93 = .ok (.invokevirtual 296, 3) := by decide +kernel
theorem dX9_edited_96 : decode cX9_edited 96 = .ok (.invokevirtual 233, 3) := by decide +kernel
theorem dX9_edited_99 : decode cX9_edited 99 = .ok (.iconst 0, 1) := by decide +kernel
theorem dX9_edited_100 : decode cX9_edited 100 = .ok (.ireturn, 1) := by decide +kernel
theorem dX9_toBinary_0 : decode cX9_toBinary 0 = .ok (.aload_n 0, 1) := by decide +kernel
theorem dX9_toBinary_1 : decode cX9_toBinary 1 = .ok (.getfield 12, 3) := by decide +kernel
theorem dX9_toBinary_4 : decode cX9_toBinary 4 = .ok (.aload_n 0, 1) := by decide +kernel
theorem dX9_toBinary_5 : decode cX9_toBinary 5 = .ok (.getfield 45, 3) := by decide +kernel
theorem dX9_toBinary_8 : decode cX9_toBinary 8 = .ok (.aload_n 0, 1) := by decide +kernel
theorem dX9_toBinary_9 : decode cX9_toBinary 9 = .ok (.getfield 106, 3) := by decide +kernel
theorem dX9_toBinary_12 : decode cX9_toBinary 12 = .ok (.aload_n 0, 1) := by decide +kernel
theorem dX9_toBinary_13 : decode cX9_toBinary 13 = .ok (.getfield 52, 3) := by decide +kernel
theorem dX9_toBinary_16 : decode cX9_toBinary 16 = .ok (.getfield 118, 3) := by decide +kernel
theorem dX9_toBinary_19 : decode cX9_toBinary 19 = .ok (.invokevirtual 244, 3) := by decide +kernel
theorem dX9_toBinary_22 : decode cX9_toBinary 22 = .ok (.aload_n 0, 1) := by decide +kernel
theorem dX9_toBinary_23 : decode cX9_toBinary 23 = .ok (.getfield 12, 3) := by decide +kernel
theorem dX9_toBinary_26 : decode cX9_toBinary 26 = .ok (.invokevirtual 299, 3) := by decide +kernel
theorem dX9_toBinary_29 : decode cX9_toBinary 29 = .ok (.lstore_n 1, 1) := by decide +kernel
theorem dX9_toBinary_30 : decode cX9_toBinary 30 = .ok (.lload_n 1, 1) := by decide +kernel
theorem dX9_toBinary_31 : decode cX9_toBinary 31 = .ok (.lload_n 1, 1) := by decide +kernel
theorem dX9_toBinary_32 : decode cX9_toBinary 32 = .ok (.l2i, 1) := by decide +kernel
theorem dX9_toBinary_33 : decode cX9_toBinary 33 = .ok (.i2l, 1) := by decide +kernel
theorem dX9_toBinary_34 : decode cX9_toBinary 34 = .ok (.lcmp, 1) := by decide +kernel
theorem dX9_toBinary_35 : decode cX9_toBinary 35 = .ok (.ifCond .eq 11, 3) := by decide +kernel
theorem dX9_toBinary_38 : decode cX9_toBinary 38 = .ok (.aload_n 0, 1) := by decide +kernel
theorem dX9_toBinary_39 : decode cX9_toBinary 39 = .ok (.bipush 8, 2) := by decide +kernel
theorem dX9_toBinary_41 : decode cX9_toBinary 41 = .ok (.iconst 0, 1) := by decide +kernel
theorem dX9_toBinary_42 : decode cX9_toBinary 42 = .ok (.invokevirtual 134, 3) := by decide +kernel
theorem dX9_toBinary_45 : decode cX9_toBinary 45 = .ok (.ireturn, 1) := by decide +kernel
theorem dX9_toBinary_46 : decode cX9_toBinary 46 = .ok (.aload_n 0, 1) := by decide +kernel
theorem dX9_toBinary_47 : decode cX9_toBinary 47 = .ok (.getfield 45, 3) := by decide +kernel
theorem dX9_toBinary_50 : decode cX9_toBinary 50 = .ok (.sipush 256, 3) := by decide +kernel
theorem dX9_toBinary_53 : decode cX9_toBinary 53 = .ok (.aload_n 0, 1) := by decide +kernel
theorem dX9_toBinary_54 : decode cX9_toBinary 54 = .ok (.getfield 52, 3) := by decide +kernel
theorem dX9_toBinary_57 : decode cX9_toBinary 57 = .ok (.getfield 219, 3) := by decide +kernel
theorem dX9_toBinary_60 : decode cX9_toBinary 60 = .ok (.iadd, 1) := by decide +kernel
theorem dX9_toBinary_61 : decode cX9_toBinary 61 = .ok (.lload_n 1, 1) := by decide +kernel
theorem dX9_toBinary_62 : decode cX9_toBinary 62 = .ok (.l2i, 1) := by decide +kernel
theorem dX9_toBinary_63 : decode cX9_toBinary 63 = .ok (.invokevirtual 233, 3) := by decide +kernel
theorem dX9_toBinary_66 : decode cX9_toBinary 66 = .ok (.iconst 0, 1) := by decide +kernel
theorem dX9_toBinary_67 : decode cX9_toBinary 67 = .ok (.ireturn, 1) := by decide +kernel
theorem dX9_putResult_0 : decode cX9_putResult 0 = .ok (.aload_n 0, 1) := by decide +kernel
theorem dX9_putResult_1 : decode cX9_putResult 1 = .ok (.getfield 21, 3) := by decide +kernel
theorem dX9_putResult_4 : decode cX9_putResult 4 = .ok (.invokevirtual 276, 3) := by decide +kernel
theorem dX9_putResult_7 : decode cX9_putResult 7 = .ok (.iconst 2, 1) := by decide +kernel
theorem dX9_putResult_8 : decode cX9_putResult 8 = .ok (.aload_n 0, 1) := by decide +kernel
theorem dX9_putResult_9 : decode cX9_putResult 9 = .ok (.getfield 52, 3) := by decide +kernel
theorem dX9_putResult_12 : decode cX9_putResult 12 = .ok (.getfield 118, 3) := by decide +kernel
theorem dX9_putResult_15 : decode cX9_putResult 15 = .ok (.imul, 1) := by decide +kernel
theorem dX9_putResult_16 : decode cX9_putResult 16 = .ok (.iconst 1, 1) := by decide +kernel
theorem dX9_putResult_17 : decode cX9_putResult 17 = .ok (.isub, 1) := by decide +kernel
theorem dX9_putResult_18 : decode cX9_putResult 18 = .ok (.if_icmp .le 7, 3) := by decide +kernel
theorem dX9_putResult_21 : decode cX9_putResult 21 = .ok (.iconst 1, 1) := by decide +kernel
theorem dX9_putResult_22 : decode cX9_putResult 22 = .ok (.goto 4, 3) := by decide +kernel
theorem dX9_putResult_25 : decode cX9_putResult 25 = .ok (.iconst 0, 1) := by decide +kernel
theorem dX9_putResult_26 : decode cX9_putResult 26 = .ok (.istore_n 1, 1) := by decide +kernel
theorem dX9_putResult_27 : decode cX9_putResult 27 = .ok (.aload_n 0, 1) := by decide +kernel
theorem dX9_putResult_28 : decode cX9_putResult 28 = .ok (.getfield 21, 3) := by decide +kernel
theorem dX9_putResult_31 : decode cX9_putResult 31 = .ok (.aload_n 0, 1) := by decide +kernel
theorem dX9_putResult_32 : decode cX9_putResult 32 = .ok (.getfield 45, 3) := by decide +kernel
theorem dX9_putResult_35 : decode cX9_putResult 35 = .ok (.aload_n 0, 1) := by decide +kernel
theorem dX9_putResult_36 : decode cX9_putResult 36 = .ok (.getfield 106, 3) := by decide +kernel
theorem dX9_putResult_39 : decode cX9_putResult 39 = .ok (.aload_n 0, 1) := by decide +kernel
theorem dX9_putResult_40 : decode cX9_putResult 40 = .ok (.getfield 52, 3) := by decide +kernel
theorem dX9_putResult_43 : decode cX9_putResult 43 = .ok (.getfield 118, 3) := by decide +kernel
theorem dX9_putResult_46 : decode cX9_putResult 46 = .ok (.aload_n 0, 1) := by decide +kernel
theorem dX9_putResult_47 : decode cX9_putResult 47 = .ok (.getfield 21, 3) := by decide +kernel
theorem dX9_putResult_50 : decode cX9_putResult 50 = .ok (.invokevirtual 226, 3) := by decide +kernel
theorem dX9_putResult_53 : decode cX9_putResult 53 = .ok (.invokevirtual 229, 3) := by decide +kernel
theorem dX9_putResult_56 : decode cX9_putResult 56 = .ok (.aload_n 0, 1) := by decide +kernel
theorem dX9_putResult_57 : decode cX9_putResult 57 = .ok (.getfield 45, 3) := by decide +kernel
theorem dX9_putResult_60 : decode cX9_putResult 60 = .ok (.sipush 264, 3) := by decide +kernel
theorem dX9_putResult_63 : decode cX9_putResult 63 = .ok (.iload_n 1, 1) := by decide +kernel
theorem dX9_putResult_64 : decode cX9_putResult 64 = .ok (.ifCond .eq 7, 3) := by decide +kernel
theorem dX9_putResult_67 : decode cX9_putResult 67 = .ok (.iconst 3, 1) := by decide +kernel
theorem dX9_putResult_68 : decode cX9_putResult 68 = .ok (.goto 10, 3) := by decide +kernel
theorem dX9_putResult_71 : decode cX9_putResult 71 = .ok (.aload_n 0, 1) := by decide +kernel
theorem dX9_putResult_72 : decode cX9_putResult 72 = .ok (.getfield 21, 3) := by decide +kernel
theorem dX9_putResult_75 : decode cX9_putResult 75 = .ok (.invokevirtual 255, 3) := by decide +kernel
theorem dX9_putResult_78 : decode cX9_putResult 78 = .ok (.invokevirtual 233, 3) := by decide +kernel
theorem dX9_putResult_81 : decode cX9_putResult 81 = .ok (.iload_n 1, 1) := by decide +kernel
theorem dX9_putResult_82 : decode cX9_putResult 82 = .ok (.ifCond .eq 13, 3) := by decide +kernel
theorem dX9_putResult_85 : decode cX9_putResult 85 = .ok (.aload_n 0, 1) := by decide +kernel
theorem dX9_putResult_86 : decode cX9_putResult 86 = .ok (.bipush 6, 2) := by decide +kernel
theorem dX9_putResult_88 : decode cX9_putResult 88 = .ok (.iconst 0, 1) := by decide +kernel
theorem dX9_putResult_89 : decode cX9_putResult 89 = .ok (.invokevirtual 134, 3) := by decide +kernel
theorem dX9_putResult_92 : decode cX9_putResult 92 = .ok (.goto 4, 3) := by decide +kernel
theorem dX9_putResult_95 : decode cX9_putResult 95 = .ok (.iconst 0, 1) := by decide +kernel
theorem dX9_putResult_96 : decode cX9_putResult 96 = .ok (.ireturn, 1) := by decide +kernel
theorem dX9_held_0 : decode cX9_held 0 = .ok (.iload_n 1, 1) := by decide +kernel
theorem dX9_held_1 : decode cX9_held 1 = .ok (.iconst (-1), 1) := by decide +kernel
theorem dX9_held_2 : decode cX9_held 2 = .ok (.if_icmp .ne 7, 3) := by decide +kernel
theorem dX9_held_5 : decode cX9_held 5 = .ok (.iconst 0, 1) := by decide +kernel
theorem dX9_held_6 : decode cX9_held 6 = .ok (.goto 15, 3) := by decide +kernel
theorem dX9_held_9 : decode cX9_held 9 = .ok (.aload_n 0, 1) := by decide +kernel
theorem dX9_held_10 : decode cX9_held 10 = .ok (.getfield 45, 3) := by decide +kernel
theorem dX9_held_13 : decode cX9_held 13 = .ok (.sipush 256, 3) := by decide +kernel
theorem dX9_held_16 : decode cX9_held 16 = .ok (.iload_n 1, 1) := by decide +kernel
theorem dX9_held_17 : decode cX9_held 17 = .ok (.iadd, 1) := by decide +kernel
theorem dX9_held_18 : decode cX9_held 18 = .ok (.invokevirtual 64, 3) := by decide +kernel
theorem dX9_held_21 : decode cX9_held 21 = .ok (.ireturn, 1) := by decide +kernel
theorem dX9_blame_0 : decode cX9_blame 0 = .ok (.aload_n 0, 1) := by decide +kernel
theorem dX9_blame_1 : decode cX9_blame 1 = .ok (.getfield 31, 3) := by decide +kernel
theorem dX9_blame_4 : decode cX9_blame 4 = .ok (.iconst 3, 1) := by decide +kernel
theorem dX9_blame_5 : decode cX9_blame 5 = .ok (.iload_n 2, 1) := by decide +kernel
theorem dX9_blame_6 : decode cX9_blame 6 = .ok (.iastore, 1) := by decide +kernel
theorem dX9_blame_7 : decode cX9_blame 7 = .ok (.aload_n 0, 1) := by decide +kernel
theorem dX9_blame_8 : decode cX9_blame 8 = .ok (.getfield 31, 3) := by decide +kernel
theorem dX9_blame_11 : decode cX9_blame 11 = .ok (.iconst 4, 1) := by decide +kernel
theorem dX9_blame_12 : decode cX9_blame 12 = .ok (.iload_n 2, 1) := by decide +kernel
theorem dX9_blame_13 : decode cX9_blame 13 = .ok (.ifCond .ne 10, 3) := by decide +kernel
theorem dX9_blame_16 : decode cX9_blame 16 = .ok (.aload_n 0, 1) := by decide +kernel
theorem dX9_blame_17 : decode cX9_blame 17 = .ok (.getfield 106, 3) := by decide +kernel
theorem dX9_blame_20 : decode cX9_blame 20 = .ok (.goto 7, 3) := by decide +kernel
theorem dX9_blame_23 : decode cX9_blame 23 = .ok (.aload_n 0, 1) := by decide +kernel
theorem dX9_blame_24 : decode cX9_blame 24 = .ok (.getfield 115, 3) := by decide +kernel
theorem dX9_blame_27 : decode cX9_blame 27 = .ok (.iastore, 1) := by decide +kernel
theorem dX9_blame_28 : decode cX9_blame 28 = .ok (.aload_n 0, 1) := by decide +kernel
theorem dX9_blame_29 : decode cX9_blame 29 = .ok (.getfield 31, 3) := by decide +kernel
theorem dX9_blame_32 : decode cX9_blame 32 = .ok (.iconst 5, 1) := by decide +kernel
theorem dX9_blame_33 : decode cX9_blame 33 = .ok (.iload_n 2, 1) := by decide +kernel
theorem dX9_blame_34 : decode cX9_blame 34 = .ok (.ifCond .ne 13, 3) := by decide +kernel
theorem dX9_blame_37 : decode cX9_blame 37 = .ok (.aload_n 0, 1) := by decide +kernel
theorem dX9_blame_38 : decode cX9_blame 38 = .ok (.getfield 52, 3) := by decide +kernel
theorem dX9_blame_41 : decode cX9_blame 41 = .ok (.getfield 118, 3) := by decide +kernel
theorem dX9_blame_44 : decode cX9_blame 44 = .ok (.goto 10, 3) := by decide +kernel
theorem dX9_blame_47 : decode cX9_blame 47 = .ok (.aload_n 0, 1) := by decide +kernel
theorem dX9_blame_48 : decode cX9_blame 48 = .ok (.getfield 52, 3) := by decide +kernel
theorem dX9_blame_51 : decode cX9_blame 51 = .ok (.getfield 124, 3) := by decide +kernel
theorem dX9_blame_54 : decode cX9_blame 54 = .ok (.iastore, 1) := by decide +kernel
theorem dX9_blame_55 : decode cX9_blame 55 = .ok (.iload_n 1, 1) := by decide +kernel
theorem dX9_blame_56 : decode cX9_blame 56 = .ok (.ireturn, 1) := by decide +kernel
theorem dX9_blameHalf_0 : decode cX9_blameHalf 0 = .ok (.aload_n 0, 1) := by decide +kernel
theorem dX9_blameHalf_1 : decode cX9_blameHalf 1 = .ok (.getfield 31, 3) := by decide +kernel
theorem dX9_blameHalf_4 : decode cX9_blameHalf 4 = .ok (.bipush 6, 2) := by decide +kernel
theorem dX9_blameHalf_6 : decode cX9_blameHalf 6 = .ok (.iload_n 1, 1) := by decide +kernel
theorem dX9_blameHalf_7 : decode cX9_blameHalf 7 = .ok (.iconst 1, 1) := by decide +kernel
theorem dX9_blameHalf_8 : decode cX9_blameHalf 8 = .ok (.ishr, 1) := by decide +kernel
theorem dX9_blameHalf_9 : decode cX9_blameHalf 9 = .ok (.iastore, 1) := by decide +kernel
theorem dX9_blameHalf_10 : decode cX9_blameHalf 10 = .ok (.aload_n 0, 1) := by decide +kernel
theorem dX9_blameHalf_11 : decode cX9_blameHalf 11 = .ok (.getfield 31, 3) := by decide +kernel
theorem dX9_blameHalf_14 : decode cX9_blameHalf 14 = .ok (.bipush 7, 2) := by decide +kernel
theorem dX9_blameHalf_16 : decode cX9_blameHalf 16 = .ok (.iload_n 1, 1) := by decide +kernel
theorem dX9_blameHalf_17 : decode cX9_blameHalf 17 = .ok (.iconst 1, 1) := by decide +kernel
theorem dX9_blameHalf_18 : decode cX9_blameHalf 18 = .ok (.iand, 1) := by decide +kernel
theorem dX9_blameHalf_19 : decode cX9_blameHalf 19 = .ok (.iastore, 1) := by decide +kernel
theorem dX9_blameHalf_20 : decode cX9_blameHalf 20 = .ok (.aload_n 0, 1) := by decide +kernel
theorem dX9_blameHalf_21 : decode cX9_blameHalf 21 = .ok (.getfield 31, 3) := by decide +kernel
theorem dX9_blameHalf_24 : decode cX9_blameHalf 24 = .ok (.bipush 8, 2) := by decide +kernel
theorem dX9_blameHalf_26 : decode cX9_blameHalf 26 = .ok (.iload_n 2, 1) := by decide +kernel
theorem dX9_blameHalf_27 : decode cX9_blameHalf 27 = .ok (.iastore, 1) := by decide +kernel
theorem dX9_blameHalf_28 : decode cX9_blameHalf 28 = .ok (.return_, 1) := by decide +kernel
theorem dX9_tellWhy_0 : decode cX9_tellWhy 0 = .ok (.aload_n 0, 1) := by decide +kernel
theorem dX9_tellWhy_1 : decode cX9_tellWhy 1 = .ok (.getfield 31, 3) := by decide +kernel
theorem dX9_tellWhy_4 : decode cX9_tellWhy 4 = .ok (.iconst 0, 1) := by decide +kernel
theorem dX9_tellWhy_5 : decode cX9_tellWhy 5 = .ok (.iload_n 1, 1) := by decide +kernel
theorem dX9_tellWhy_6 : decode cX9_tellWhy 6 = .ok (.iastore, 1) := by decide +kernel
theorem dX9_tellWhy_7 : decode cX9_tellWhy 7 = .ok (.aload_n 0, 1) := by decide +kernel
theorem dX9_tellWhy_8 : decode cX9_tellWhy 8 = .ok (.getfield 31, 3) := by decide +kernel
theorem dX9_tellWhy_11 : decode cX9_tellWhy 11 = .ok (.iconst 1, 1) := by decide +kernel
theorem dX9_tellWhy_12 : decode cX9_tellWhy 12 = .ok (.iload_n 2, 1) := by decide +kernel
theorem dX9_tellWhy_13 : decode cX9_tellWhy 13 = .ok (.iastore, 1) := by decide +kernel
theorem dX9_tellWhy_14 : decode cX9_tellWhy 14 = .ok (.aload_n 0, 1) := by decide +kernel
theorem dX9_tellWhy_15 : decode cX9_tellWhy 15 = .ok (.getfield 31, 3) := by decide +kernel
theorem dX9_tellWhy_18 : decode cX9_tellWhy 18 = .ok (.iconst 2, 1) := by decide +kernel
theorem dX9_tellWhy_19 : decode cX9_tellWhy 19 = .ok (.aload_n 0, 1) := by decide +kernel
theorem dX9_tellWhy_20 : decode cX9_tellWhy 20 = .ok (.getfield 45, 3) := by decide +kernel
theorem dX9_tellWhy_23 : decode cX9_tellWhy 23 = .ok (.sipush 276, 3) := by decide +kernel
theorem dX9_tellWhy_26 : decode cX9_tellWhy 26 = .ok (.invokevirtual 64, 3) := by decide +kernel
theorem dX9_tellWhy_29 : decode cX9_tellWhy 29 = .ok (.iastore, 1) := by decide +kernel
theorem dX9_tellWhy_30 : decode cX9_tellWhy 30 = .ok (.iconst 0, 1) := by decide +kernel
theorem dX9_tellWhy_31 : decode cX9_tellWhy 31 = .ok (.istore_n 3, 1) := by decide +kernel
theorem dX9_tellWhy_32 : decode cX9_tellWhy 32 = .ok (.iload_n 3, 1) := by decide +kernel
theorem dX9_tellWhy_33 : decode cX9_tellWhy 33 = .ok (.aload_n 0, 1) := by decide +kernel
theorem dX9_tellWhy_34 : decode cX9_tellWhy 34 = .ok (.getfield 31, 3) := by decide +kernel
theorem dX9_tellWhy_37 : decode cX9_tellWhy 37 = .ok (.arraylength, 1) := by decide +kernel
theorem dX9_tellWhy_38 : decode cX9_tellWhy 38 = .ok (.if_icmp .ge 27, 3) := by decide +kernel
theorem dX9_tellWhy_41 : decode cX9_tellWhy 41 = .ok (.aload_n 0, 1) := by decide +kernel
theorem dX9_tellWhy_42 : decode cX9_tellWhy 42 = .ok (.getfield 45, 3) := by decide +kernel
theorem dX9_tellWhy_45 : decode cX9_tellWhy 45 = .ok (.sipush 278, 3) := by decide +kernel
theorem dX9_tellWhy_48 : decode cX9_tellWhy 48 = .ok (.iload_n 3, 1) := by decide +kernel
theorem dX9_tellWhy_49 : decode cX9_tellWhy 49 = .ok (.iadd, 1) := by decide +kernel
theorem dX9_tellWhy_50 : decode cX9_tellWhy 50 = .ok (.aload_n 0, 1) := by decide +kernel
theorem dX9_tellWhy_51 : decode cX9_tellWhy 51 = .ok (.getfield 31, 3) := by decide +kernel
theorem dX9_tellWhy_54 : decode cX9_tellWhy 54 = .ok (.iload_n 3, 1) := by decide +kernel
theorem dX9_tellWhy_55 : decode cX9_tellWhy 55 = .ok (.iaload, 1) := by decide +kernel
theorem dX9_tellWhy_56 : decode cX9_tellWhy 56 = .ok (.invokevirtual 233, 3) := by decide +kernel
theorem dX9_tellWhy_59 : decode cX9_tellWhy 59 = .ok (.iinc 3 1, 3) := by decide +kernel
theorem dX9_tellWhy_62 : decode cX9_tellWhy 62 = .ok (.goto (-30), 3) := by decide +kernel
theorem dX9_tellWhy_65 : decode cX9_tellWhy 65 = .ok (.aload_n 0, 1) := by decide +kernel
theorem dX9_tellWhy_66 : decode cX9_tellWhy 66 = .ok (.getfield 45, 3) := by decide +kernel
theorem dX9_tellWhy_69 : decode cX9_tellWhy 69 = .ok (.sipush 277, 3) := by decide +kernel
theorem dX9_tellWhy_72 : decode cX9_tellWhy 72 = .ok (.aload_n 0, 1) := by decide +kernel
theorem dX9_tellWhy_73 : decode cX9_tellWhy 73 = .ok (.getfield 45, 3) := by decide +kernel
theorem dX9_tellWhy_76 : decode cX9_tellWhy 76 = .ok (.sipush 277, 3) := by decide +kernel
theorem dX9_tellWhy_79 : decode cX9_tellWhy 79 = .ok (.invokevirtual 64, 3) := by decide +kernel
theorem dX9_tellWhy_82 : decode cX9_tellWhy 82 = .ok (.iconst 1, 1) := by decide +kernel
theorem dX9_tellWhy_83 : decode cX9_tellWhy 83 = .ok (.iadd, 1) := by decide +kernel
theorem dX9_tellWhy_84 : decode cX9_tellWhy 84 = .ok (.invokevirtual 233, 3) := by decide +kernel
theorem dX9_tellWhy_87 : decode cX9_tellWhy 87 = .ok (.return_, 1) := by decide +kernel
theorem dX9_conclude_0 : decode cX9_conclude 0 = .ok (.iload_n 1, 1) := by decide +kernel
theorem dX9_conclude_1 : decode cX9_conclude 1 = .ok (.ifCond .ne 7, 3) := by decide +kernel
theorem dX9_conclude_4 : decode cX9_conclude 4 = .ok (.iconst (-1), 1) := by decide +kernel
theorem dX9_conclude_5 : decode cX9_conclude 5 = .ok (.goto 17, 3) := by decide +kernel
theorem dX9_conclude_8 : decode cX9_conclude 8 = .ok (.aload_n 0, 1) := by decide +kernel
theorem dX9_conclude_9 : decode cX9_conclude 9 = .ok (.getfield 45, 3) := by decide +kernel
theorem dX9_conclude_12 : decode cX9_conclude 12 = .ok (.sipush 268, 3) := by decide +kernel
theorem dX9_conclude_15 : decode cX9_conclude 15 = .ok (.iload_n 1, 1) := by decide +kernel
theorem dX9_conclude_16 : decode cX9_conclude 16 = .ok (.iadd, 1) := by decide +kernel
theorem dX9_conclude_17 : decode cX9_conclude 17 = .ok (.iconst 1, 1) := by decide +kernel
theorem dX9_conclude_18 : decode cX9_conclude 18 = .ok (.isub, 1) := by decide +kernel
theorem dX9_conclude_19 : decode cX9_conclude 19 = .ok (.invokevirtual 64, 3) := by decide +kernel
theorem dX9_conclude_22 : decode cX9_conclude 22 = .ok (.istore_n 3, 1) := by decide +kernel
theorem dX9_conclude_23 : decode cX9_conclude 23 = .ok (.iload_n 1, 1) := by decide +kernel
theorem dX9_conclude_24 : decode cX9_conclude 24 = .ok (.ifCond .eq 20, 3) := by decide +kernel
theorem dX9_conclude_27 : decode cX9_conclude 27 = .ok (.iload_n 3, 1) := by decide +kernel
theorem dX9_conclude_28 : decode cX9_conclude 28 = .ok (.iconst (-1), 1) := by decide +kernel
theorem dX9_conclude_29 : decode cX9_conclude 29 = .ok (.if_icmp .ne 15, 3) := by decide +kernel
theorem dX9_conclude_32 : decode cX9_conclude 32 = .ok (.aload_n 0, 1) := by decide +kernel
theorem dX9_conclude_33 : decode cX9_conclude 33 = .ok (.getfield 45, 3) := by decide +kernel
theorem dX9_conclude_36 : decode cX9_conclude 36 = .ok (.sipush 267, 3) := by decide +kernel
theorem dX9_conclude_39 : decode cX9_conclude 39 = .ok (.iconst 2, 1) := by decide +kernel
theorem dX9_conclude_40 : decode cX9_conclude 40 = .ok (.invokevirtual 233, 3) := by decide +kernel
theorem dX9_conclude_43 : decode cX9_conclude 43 = .ok (.return_, 1) := by decide +kernel
theorem dX9_conclude_44 : decode cX9_conclude 44 = .ok (.iload_n 1, 1) := by decide +kernel
theorem dX9_conclude_45 : decode cX9_conclude 45 = .ok (.ifCond .eq 19, 3) := by decide +kernel
theorem dX9_conclude_48 : decode cX9_conclude 48 = .ok (.aload_n 0, 1) := by decide +kernel
theorem dX9_conclude_49 : decode cX9_conclude 49 = .ok (.getfield 45, 3) := by decide +kernel
theorem dX9_conclude_52 : decode cX9_conclude 52 = .ok (.sipush 266, 3) := by decide +kernel
theorem dX9_conclude_55 : decode cX9_conclude 55 = .ok (.iload_n 2, 1) := by decide +kernel
theorem dX9_conclude_56 : decode cX9_conclude 56 = .ok (.invokevirtual 233, 3) := by decide +kernel
theorem dX9_conclude_59 : decode cX9_conclude 59 = .ok (.aload_n 0, 1) := by decide +kernel
theorem dX9_conclude_60 : decode cX9_conclude 60 = .ok (.iload_n 3, 1) := by decide +kernel
theorem dX9_conclude_61 : decode cX9_conclude 61 = .ok (.putfield 72, 3) := by decide +kernel
theorem dX9_conclude_64 : decode cX9_conclude 64 = .ok (.aload_n 0, 1) := by decide +kernel
theorem dX9_conclude_65 : decode cX9_conclude 65 = .ok (.getfield 45, 3) := by decide +kernel
theorem dX9_conclude_68 : decode cX9_conclude 68 = .ok (.sipush 265, 3) := by decide +kernel
theorem dX9_conclude_71 : decode cX9_conclude 71 = .ok (.aload_n 0, 1) := by decide +kernel
theorem dX9_conclude_72 : decode cX9_conclude 72 = .ok (.getfield 72, 3) := by decide +kernel
theorem dX9_conclude_75 : decode cX9_conclude 75 = .ok (.invokevirtual 233, 3) := by decide +kernel
theorem dX9_conclude_78 : decode cX9_conclude 78 = .ok (.aload_n 0, 1) := by decide +kernel
theorem dX9_conclude_79 : decode cX9_conclude 79 = .ok (.getfield 45, 3) := by decide +kernel
theorem dX9_conclude_82 : decode cX9_conclude 82 = .ok (.sipush 267, 3) := by decide +kernel
theorem dX9_conclude_85 : decode cX9_conclude 85 = .ok (.aload_n 0, 1) := by decide +kernel
theorem dX9_conclude_86 : decode cX9_conclude 86 = .ok (.getfield 76, 3) := by decide +kernel
theorem dX9_conclude_89 : decode cX9_conclude 89 = .ok (.ifCond .ne 17, 3) := by decide +kernel
theorem dX9_conclude_92 : decode cX9_conclude 92 = .ok (.aload_n 0, 1) := by decide +kernel
theorem dX9_conclude_93 : decode cX9_conclude 93 = .ok (.getfield 72, 3) := by decide +kernel
theorem dX9_conclude_96 : decode cX9_conclude 96 = .ok (.aload_n 0, 1) := by decide +kernel
theorem dX9_conclude_97 : decode cX9_conclude 97 = .ok (.getfield 38, 3) := by decide +kernel
theorem dX9_conclude_100 : decode cX9_conclude 100 = .ok (.invokevirtual 56, 3) := by decide +kernel
theorem dX9_conclude_103 : decode cX9_conclude 103 = .ok (.if_icmp .lt 7, 3) := by decide +kernel
theorem dX9_conclude_106 : decode cX9_conclude 106 = .ok (.iconst 1, 1) := by decide +kernel
theorem dX9_conclude_107 : decode cX9_conclude 107 = .ok (.goto 4, 3) := by decide +kernel
theorem dX9_conclude_110 : decode cX9_conclude 110 = .ok (.iconst 0, 1) := by decide +kernel
theorem dX9_conclude_111 : decode cX9_conclude 111 = .ok (.invokevirtual 233, 3) := by decide +kernel
theorem dX9_conclude_114 : decode cX9_conclude 114 = .ok (.return_, 1) := by decide +kernel
