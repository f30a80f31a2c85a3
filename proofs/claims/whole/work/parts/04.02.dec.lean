theorem dX3_looked_0 : decode cX3_looked 0 = .ok (.aload_n 0, 1) := by decide +kernel
theorem dX3_looked_1 : decode cX3_looked 1 = .ok (.getfield 32, 3) := by decide +kernel
theorem dX3_looked_4 : decode cX3_looked 4 = .ok (.ireturn, 1) := by decide +kernel
theorem dX3_held_0 : decode cX3_held 0 = .ok (.aload_n 0, 1) := by decide +kernel
theorem dX3_held_1 : decode cX3_held 1 = .ok (.getfield 36, 3) := by decide +kernel
theorem dX3_held_4 : decode cX3_held 4 = .ok (.ireturn, 1) := by decide +kernel
theorem dX3_condition_0 : decode cX3_condition 0 = .ok (.aload_n 0, 1) := by decide +kernel
theorem dX3_condition_1 : decode cX3_condition 1 = .ok (.getfield 39, 3) := by decide +kernel
theorem dX3_condition_4 : decode cX3_condition 4 = .ok (.ifCond .ne 5, 3) := by decide +kernel
theorem dX3_condition_7 : decode cX3_condition 7 = .ok (.iconst 0, 1) := by decide +kernel
theorem dX3_condition_8 : decode cX3_condition 8 = .ok (.ireturn, 1) := by decide +kernel
theorem dX3_condition_9 : decode cX3_condition 9 = .ok (.aload_n 0, 1) := by decide +kernel
theorem dX3_condition_10 : decode cX3_condition 10 = .ok (.getfield 43, 3) := by decide +kernel
theorem dX3_condition_13 : decode cX3_condition 13 = .ok (.ifCond .eq 7, 3) := by decide +kernel
theorem dX3_condition_16 : decode cX3_condition 16 = .ok (.iconst 1, 1) := by decide +kernel
theorem dX3_condition_17 : decode cX3_condition 17 = .ok (.goto 4, 3) := by decide +kernel
theorem dX3_condition_20 : decode cX3_condition 20 = .ok (.iconst 2, 1) := by decide +kernel
theorem dX3_condition_21 : decode cX3_condition 21 = .ok (.ireturn, 1) := by decide +kernel
theorem dX3_marked_0 : decode cX3_marked 0 = .ok (.aload_n 0, 1) := by decide +kernel
theorem dX3_marked_1 : decode cX3_marked 1 = .ok (.getfield 46, 3) := by decide +kernel
theorem dX3_marked_4 : decode cX3_marked 4 = .ok (.ireturn, 1) := by decide +kernel
theorem dX3_edit_0 : decode cX3_edit 0 = .ok (.aload_n 0, 1) := by decide +kernel
theorem dX3_edit_1 : decode cX3_edit 1 = .ok (.aload_n 1, 1) := by decide +kernel
theorem dX3_edit_2 : decode cX3_edit 2 = .ok (.putfield 28, 3) := by decide +kernel
theorem dX3_edit_5 : decode cX3_edit 5 = .ok (.aload_n 0, 1) := by decide +kernel
theorem dX3_edit_6 : decode cX3_edit 6 = .ok (.aload_n 0, 1) := by decide +kernel
theorem dX3_edit_7 : decode cX3_edit 7 = .ok (.getfield 28, 3) := by decide +kernel
theorem dX3_edit_10 : decode cX3_edit 10 = .ok (.iload_n 2, 1) := by decide +kernel
theorem dX3_edit_11 : decode cX3_edit 11 = .ok (.invokevirtual 49, 3) := by decide +kernel
theorem dX3_edit_14 : decode cX3_edit 14 = .ok (.putfield 53, 3) := by decide +kernel
theorem dX3_edit_17 : decode cX3_edit 17 = .ok (.aload_n 0, 1) := by decide +kernel
theorem dX3_edit_18 : decode cX3_edit 18 = .ok (.iconst 0, 1) := by decide +kernel
theorem dX3_edit_19 : decode cX3_edit 19 = .ok (.putfield 56, 3) := by decide +kernel
theorem dX3_edit_22 : decode cX3_edit 22 = .ok (.aload_n 0, 1) := by decide +kernel
theorem dX3_edit_23 : decode cX3_edit 23 = .ok (.iload 4, 2) := by decide +kernel
theorem dX3_edit_25 : decode cX3_edit 25 = .ok (.iconst 1, 1) := by decide +kernel
theorem dX3_edit_26 : decode cX3_edit 26 = .ok (.isub, 1) := by decide +kernel
theorem dX3_edit_27 : decode cX3_edit 27 = .ok (.putfield 32, 3) := by decide +kernel
theorem dX3_edit_30 : decode cX3_edit 30 = .ok (.aload_n 0, 1) := by decide +kernel
theorem dX3_edit_31 : decode cX3_edit 31 = .ok (.iconst 0, 1) := by decide +kernel
theorem dX3_edit_32 : decode cX3_edit 32 = .ok (.putfield 59, 3) := by decide +kernel
theorem dX3_edit_35 : decode cX3_edit 35 = .ok (.aload_n 0, 1) := by decide +kernel
theorem dX3_edit_36 : decode cX3_edit 36 = .ok (.iconst 0, 1) := by decide +kernel
theorem dX3_edit_37 : decode cX3_edit 37 = .ok (.putfield 43, 3) := by decide +kernel
theorem dX3_edit_40 : decode cX3_edit 40 = .ok (.aload_n 0, 1) := by decide +kernel
theorem dX3_edit_41 : decode cX3_edit 41 = .ok (.iconst 0, 1) := by decide +kernel
theorem dX3_edit_42 : decode cX3_edit 42 = .ok (.putfield 39, 3) := by decide +kernel
theorem dX3_edit_45 : decode cX3_edit 45 = .ok (.aload_n 0, 1) := by decide +kernel
theorem dX3_edit_46 : decode cX3_edit 46 = .ok (.iconst (-1), 1) := by decide +kernel
theorem dX3_edit_47 : decode cX3_edit 47 = .ok (.putfield 46, 3) := by decide +kernel
theorem dX3_edit_50 : decode cX3_edit 50 = .ok (.iconst 0, 1) := by decide +kernel
theorem dX3_edit_51 : decode cX3_edit 51 = .ok (.istore 5, 2) := by decide +kernel
theorem dX3_edit_53 : decode cX3_edit 53 = .ok (.iload 5, 2) := by decide +kernel
theorem dX3_edit_55 : decode cX3_edit 55 = .ok (.iload_n 3, 1) := by decide +kernel
theorem dX3_edit_56 : decode cX3_edit 56 = .ok (.if_icmp .ge 34, 3) := by decide +kernel
theorem dX3_edit_59 : decode cX3_edit 59 = .ok (.iload 5, 2) := by decide +kernel
theorem dX3_edit_61 : decode cX3_edit 61 = .ok (.bipush 64, 2) := by decide +kernel
theorem dX3_edit_63 : decode cX3_edit 63 = .ok (.if_icmp .ge 27, 3) := by decide +kernel
theorem dX3_edit_66 : decode cX3_edit 66 = .ok (.aload_n 0, 1) := by decide +kernel
theorem dX3_edit_67 : decode cX3_edit 67 = .ok (.getfield 11, 3) := by decide +kernel
theorem dX3_edit_70 : decode cX3_edit 70 = .ok (.iload 5, 2) := by decide +kernel
theorem dX3_edit_72 : decode cX3_edit 72 = .ok (.aload_n 0, 1) := by decide +kernel
theorem dX3_edit_73 : decode cX3_edit 73 = .ok (.getfield 28, 3) := by decide +kernel
theorem dX3_edit_76 : decode cX3_edit 76 = .ok (.iload_n 2, 1) := by decide +kernel
theorem dX3_edit_77 : decode cX3_edit 77 = .ok (.iload 5, 2) := by decide +kernel
theorem dX3_edit_79 : decode cX3_edit 79 = .ok (.iadd, 1) := by decide +kernel
theorem dX3_edit_80 : decode cX3_edit 80 = .ok (.invokevirtual 49, 3) := by decide +kernel
theorem dX3_edit_83 : decode cX3_edit 83 = .ok (.iastore, 1) := by decide +kernel
theorem dX3_edit_84 : decode cX3_edit 84 = .ok (.iinc 5 1, 3) := by decide +kernel
theorem dX3_edit_87 : decode cX3_edit 87 = .ok (.goto (-34), 3) := by decide +kernel
theorem dX3_edit_90 : decode cX3_edit 90 = .ok (.iconst 0, 1) := by decide +kernel
theorem dX3_edit_91 : decode cX3_edit 91 = .ok (.istore 5, 2) := by decide +kernel
theorem dX3_edit_93 : decode cX3_edit 93 = .ok (.iload 5, 2) := by decide +kernel
theorem dX3_edit_95 : decode cX3_edit 95 = .ok (.iload_n 3, 1) := by decide +kernel
theorem dX3_edit_96 : decode cX3_edit 96 = .ok (.if_icmp .ge 24, 3) := by decide +kernel
theorem dX3_edit_99 : decode cX3_edit 99 = .ok (.aload_n 0, 1) := by decide +kernel
theorem dX3_edit_100 : decode cX3_edit 100 = .ok (.getfield 56, 3) := by decide +kernel
theorem dX3_edit_103 : decode cX3_edit 103 = .ok (.ifCond .ne 17, 3) := by decide +kernel
theorem dX3_edit_106 : decode cX3_edit 106 = .ok (.aload_n 0, 1) := by decide +kernel
theorem dX3_edit_107 : decode cX3_edit 107 = .ok (.iload_n 2, 1) := by decide +kernel
theorem dX3_edit_108 : decode cX3_edit 108 = .ok (.iload 5, 2) := by decide +kernel
theorem dX3_edit_110 : decode cX3_edit 110 = .ok (.iadd, 1) := by decide +kernel
theorem dX3_edit_111 : decode cX3_edit 111 = .ok (.invokevirtual 62, 3) := by decide +kernel
theorem dX3_edit_114 : decode cX3_edit 114 = .ok (.iinc 5 1, 3) := by decide +kernel
theorem dX3_edit_117 : decode cX3_edit 117 = .ok (.goto (-24), 3) := by decide +kernel
theorem dX3_edit_120 : decode cX3_edit 120 = .ok (.iconst 0, 1) := by decide +kernel
theorem dX3_edit_121 : decode cX3_edit 121 = .ok (.istore 5, 2) := by decide +kernel
theorem dX3_edit_123 : decode cX3_edit 123 = .ok (.iload 5, 2) := by decide +kernel
theorem dX3_edit_125 : decode cX3_edit 125 = .ok (.iload_n 3, 1) := by decide +kernel
theorem dX3_edit_126 : decode cX3_edit 126 = .ok (.if_icmp .ge 41, 3) := by decide +kernel
theorem dX3_edit_129 : decode cX3_edit 129 = .ok (.iload 5, 2) := by decide +kernel
theorem dX3_edit_131 : decode cX3_edit 131 = .ok (.bipush 64, 2) := by decide +kernel
theorem dX3_edit_133 : decode cX3_edit 133 = .ok (.if_icmp .ge 34, 3) := by decide +kernel
theorem dX3_edit_136 : decode cX3_edit 136 = .ok (.aload_n 0, 1) := by decide +kernel
theorem dX3_edit_137 : decode cX3_edit 137 = .ok (.getfield 56, 3) := by decide +kernel
theorem dX3_edit_140 : decode cX3_edit 140 = .ok (.ifCond .eq 27, 3) := by decide +kernel
theorem dX3_edit_143 : decode cX3_edit 143 = .ok (.aload_n 0, 1) := by decide +kernel
theorem dX3_edit_144 : decode cX3_edit 144 = .ok (.getfield 28, 3) := by decide +kernel
theorem dX3_edit_147 : decode cX3_edit 147 = .ok (.iload_n 2, 1) := by decide +kernel
theorem dX3_edit_148 : decode cX3_edit 148 = .ok (.iload 5, 2) := by decide +kernel
theorem dX3_edit_150 : decode cX3_edit 150 = .ok (.iadd, 1) := by decide +kernel
theorem dX3_edit_151 : decode cX3_edit 151 = .ok (.aload_n 0, 1) := by decide +kernel
theorem dX3_edit_152 : decode cX3_edit 152 = .ok (.getfield 11, 3) := by decide +kernel
theorem dX3_edit_155 : decode cX3_edit 155 = .ok (.iload 5, 2) := by decide +kernel
theorem dX3_edit_157 : decode cX3_edit 157 = .ok (.iaload, 1) := by decide +kernel
theorem dX3_edit_158 : decode cX3_edit 158 = .ok (.invokevirtual 66, 3) := by decide +kernel
theorem dX3_edit_161 : decode cX3_edit 161 = .ok (.iinc 5 1, 3) := by decide +kernel
theorem dX3_edit_164 : decode cX3_edit 164 = .ok (.goto (-41), 3) := by decide +kernel
theorem dX3_edit_167 : decode cX3_edit 167 = .ok (.aload_n 0, 1) := by decide +kernel
theorem dX3_edit_168 : decode cX3_edit 168 = .ok (.getfield 56, 3) := by decide +kernel
theorem dX3_edit_171 : decode cX3_edit 171 = .ok (.ireturn, 1) := by decide +kernel
theorem dX3_editByte_0 : decode cX3_editByte 0 = .ok (.aload_n 0, 1) := by decide +kernel
theorem dX3_editByte_1 : decode cX3_editByte 1 = .ok (.getfield 28, 3) := by decide +kernel
theorem dX3_editByte_4 : decode cX3_editByte 4 = .ok (.iload_n 1, 1) := by decide +kernel
theorem dX3_editByte_5 : decode cX3_editByte 5 = .ok (.invokevirtual 49, 3) := by decide +kernel
theorem dX3_editByte_8 : decode cX3_editByte 8 = .ok (.istore_n 2, 1) := by decide +kernel
theorem dX3_editByte_9 : decode cX3_editByte 9 = .ok (.iconst 0, 1) := by decide +kernel
theorem dX3_editByte_10 : decode cX3_editByte 10 = .ok (.istore_n 3, 1) := by decide +kernel
theorem dX3_editByte_11 : decode cX3_editByte 11 = .ok (.aload_n 0, 1) := by decide +kernel
theorem dX3_editByte_12 : decode cX3_editByte 12 = .ok (.iconst 0, 1) := by decide +kernel
theorem dX3_editByte_13 : decode cX3_editByte 13 = .ok (.putfield 70, 3) := by decide +kernel
theorem dX3_editByte_16 : decode cX3_editByte 16 = .ok (.iload_n 2, 1) := by decide +kernel
theorem dX3_editByte_17 : decode cX3_editByte 17 = .ok (.invokestatic 73, 3) := by decide +kernel
theorem dX3_editByte_20 : decode cX3_editByte 20 = .ok (.ifCond .eq 54, 3) := by decide +kernel
theorem dX3_editByte_23 : decode cX3_editByte 23 = .ok (.aload_n 0, 1) := by decide +kernel
theorem dX3_editByte_24 : decode cX3_editByte 24 = .ok (.invokevirtual 77, 3) := by decide +kernel
theorem dX3_editByte_27 : decode cX3_editByte 27 = .ok (.istore_n 3, 1) := by decide +kernel
theorem dX3_editByte_28 : decode cX3_editByte 28 = .ok (.aload_n 0, 1) := by decide +kernel
theorem dX3_editByte_29 : decode cX3_editByte 29 = .ok (.aload_n 0, 1) := by decide +kernel
theorem dX3_editByte_30 : decode cX3_editByte 30 = .ok (.getfield 39, 3) := by decide +kernel
theorem dX3_editByte_33 : decode cX3_editByte 33 = .ok (.ifCond .ne 7, 3) := by decide +kernel
theorem dX3_editByte_36 : decode cX3_editByte 36 = .ok (.iload_n 3, 1) := by decide +kernel
theorem dX3_editByte_37 : decode cX3_editByte 37 = .ok (.ifCond .eq 7, 3) := by decide +kernel
theorem dX3_editByte_40 : decode cX3_editByte 40 = .ok (.iconst 1, 1) := by decide +kernel
theorem dX3_editByte_41 : decode cX3_editByte 41 = .ok (.goto 4, 3) := by decide +kernel
theorem dX3_editByte_44 : decode cX3_editByte 44 = .ok (.iconst 0, 1) := by decide +kernel
theorem dX3_editByte_45 : decode cX3_editByte 45 = .ok (.putfield 39, 3) := by decide +kernel
theorem dX3_editByte_48 : decode cX3_editByte 48 = .ok (.aload_n 0, 1) := by decide +kernel
theorem dX3_editByte_49 : decode cX3_editByte 49 = .ok (.iload_n 3, 1) := by decide +kernel
theorem dX3_editByte_50 : decode cX3_editByte 50 = .ok (.ifCond .eq 14, 3) := by decide +kernel
theorem dX3_editByte_53 : decode cX3_editByte 53 = .ok (.aload_n 0, 1) := by decide +kernel
theorem dX3_editByte_54 : decode cX3_editByte 54 = .ok (.getfield 43, 3) := by decide +kernel
theorem dX3_editByte_57 : decode cX3_editByte 57 = .ok (.ifCond .ne 7, 3) := by decide +kernel
theorem dX3_editByte_60 : decode cX3_editByte 60 = .ok (.iload_n 1, 1) := by decide +kernel
theorem dX3_editByte_61 : decode cX3_editByte 61 = .ok (.goto 7, 3) := by decide +kernel
theorem dX3_editByte_64 : decode cX3_editByte 64 = .ok (.aload_n 0, 1) := by decide +kernel
theorem dX3_editByte_65 : decode cX3_editByte 65 = .ok (.getfield 46, 3) := by decide +kernel
theorem dX3_editByte_68 : decode cX3_editByte 68 = .ok (.putfield 46, 3) := by decide +kernel
theorem dX3_editByte_71 : decode cX3_editByte 71 = .ok (.goto 14, 3) := by decide +kernel
theorem dX3_editByte_74 : decode cX3_editByte 74 = .ok (.iload_n 2, 1) := by decide +kernel
theorem dX3_editByte_75 : decode cX3_editByte 75 = .ok (.bipush 34, 2) := by decide +kernel
theorem dX3_editByte_77 : decode cX3_editByte 77 = .ok (.if_icmp .ne 8, 3) := by decide +kernel
theorem dX3_editByte_80 : decode cX3_editByte 80 = .ok (.aload_n 0, 1) := by decide +kernel
theorem dX3_editByte_81 : decode cX3_editByte 81 = .ok (.iconst 0, 1) := by decide +kernel
theorem dX3_editByte_82 : decode cX3_editByte 82 = .ok (.putfield 39, 3) := by decide +kernel
theorem dX3_editByte_85 : decode cX3_editByte 85 = .ok (.aload_n 0, 1) := by decide +kernel
theorem dX3_editByte_86 : decode cX3_editByte 86 = .ok (.getfield 28, 3) := by decide +kernel
theorem dX3_editByte_89 : decode cX3_editByte 89 = .ok (.iload_n 1, 1) := by decide +kernel
theorem dX3_editByte_90 : decode cX3_editByte 90 = .ok (.iload_n 2, 1) := by decide +kernel
theorem dX3_editByte_91 : decode cX3_editByte 91 = .ok (.aload_n 0, 1) := by decide +kernel
theorem dX3_editByte_92 : decode cX3_editByte 92 = .ok (.getfield 53, 3) := by decide +kernel
theorem dX3_editByte_95 : decode cX3_editByte 95 = .ok (.aload_n 0, 1) := by decide +kernel
theorem dX3_editByte_96 : decode cX3_editByte 96 = .ok (.getfield 43, 3) := by decide +kernel
theorem dX3_editByte_99 : decode cX3_editByte 99 = .ok (.iload_n 3, 1) := by decide +kernel
theorem dX3_editByte_100 : decode cX3_editByte 100 = .ok (.invokestatic 81, 3) := by decide +kernel
theorem dX3_editByte_103 : decode cX3_editByte 103 = .ok (.invokevirtual 66, 3) := by decide +kernel
theorem dX3_editByte_106 : decode cX3_editByte 106 = .ok (.aload_n 0, 1) := by decide +kernel
theorem dX3_editByte_107 : decode cX3_editByte 107 = .ok (.iload_n 2, 1) := by decide +kernel
theorem dX3_editByte_108 : decode cX3_editByte 108 = .ok (.aload_n 0, 1) := by decide +kernel
theorem dX3_editByte_109 : decode cX3_editByte 109 = .ok (.getfield 43, 3) := by decide +kernel
theorem dX3_editByte_112 : decode cX3_editByte 112 = .ok (.iload_n 3, 1) := by decide +kernel
theorem dX3_editByte_113 : decode cX3_editByte 113 = .ok (.aload_n 0, 1) := by decide +kernel
theorem dX3_editByte_114 : decode cX3_editByte 114 = .ok (.getfield 70, 3) := by decide +kernel
theorem dX3_editByte_117 : decode cX3_editByte 117 = .ok (.invokestatic 85, 3) := by decide +kernel
theorem dX3_editByte_120 : decode cX3_editByte 120 = .ok (.putfield 43, 3) := by decide +kernel
theorem dX3_editByte_123 : decode cX3_editByte 123 = .ok (.return_, 1) := by decide +kernel
theorem dX3_takeDigit_0 : decode cX3_takeDigit 0 = .ok (.aload_n 0, 1) := by decide +kernel
theorem dX3_takeDigit_1 : decode cX3_takeDigit 1 = .ok (.getfield 59, 3) := by decide +kernel
theorem dX3_takeDigit_4 : decode cX3_takeDigit 4 = .ok (.ifCond .eq 16, 3) := by decide +kernel
theorem dX3_takeDigit_7 : decode cX3_takeDigit 7 = .ok (.aload_n 0, 1) := by decide +kernel
theorem dX3_takeDigit_8 : decode cX3_takeDigit 8 = .ok (.iconst 0, 1) := by decide +kernel
theorem dX3_takeDigit_9 : decode cX3_takeDigit 9 = .ok (.putfield 59, 3) := by decide +kernel
theorem dX3_takeDigit_12 : decode cX3_takeDigit 12 = .ok (.aload_n 0, 1) := by decide +kernel
theorem dX3_takeDigit_13 : decode cX3_takeDigit 13 = .ok (.getfield 36, 3) := by decide +kernel
theorem dX3_takeDigit_16 : decode cX3_takeDigit 16 = .ok (.bipush 15, 2) := by decide +kernel
theorem dX3_takeDigit_18 : decode cX3_takeDigit 18 = .ok (.iand, 1) := by decide +kernel
theorem dX3_takeDigit_19 : decode cX3_takeDigit 19 = .ok (.ireturn, 1) := by decide +kernel
theorem dX3_takeDigit_20 : decode cX3_takeDigit 20 = .ok (.aload_n 0, 1) := by decide +kernel
theorem dX3_takeDigit_21 : decode cX3_takeDigit 21 = .ok (.dup, 1) := by decide +kernel
theorem dX3_takeDigit_22 : decode cX3_takeDigit 22 = .ok (.getfield 32, 3) := by decide +kernel
theorem dX3_takeDigit_25 : decode cX3_takeDigit 25 = .ok (.iconst 1, 1) := by decide +kernel
theorem dX3_takeDigit_26 : decode cX3_takeDigit 26 = .ok (.iadd, 1) := by decide +kernel
theorem dX3_takeDigit_27 : decode cX3_takeDigit 27 = .ok (.putfield 32, 3) := by decide +kernel
theorem dX3_takeDigit_30 : decode cX3_takeDigit 30 = .ok (.aload_n 0, 1) := by decide +kernel
theorem dX3_takeDigit_31 : decode cX3_takeDigit 31 = .ok (.getfield 32, 3) := by decide +kernel
theorem dX3_takeDigit_34 : decode cX3_takeDigit 34 = .ok (.ifCond .lt 13, 3) := by decide +kernel
theorem dX3_takeDigit_37 : decode cX3_takeDigit 37 = .ok (.aload_n 0, 1) := by decide +kernel
theorem dX3_takeDigit_38 : decode cX3_takeDigit 38 = .ok (.getfield 32, 3) := by decide +kernel
theorem dX3_takeDigit_41 : decode cX3_takeDigit 41 = .ok (.sipush 256, 3) := by decide +kernel
theorem dX3_takeDigit_44 : decode cX3_takeDigit 44 = .ok (.if_icmp .lt 10, 3) := by decide +kernel
theorem dX3_takeDigit_47 : decode cX3_takeDigit 47 = .ok (.aload_n 0, 1) := by decide +kernel
theorem dX3_takeDigit_48 : decode cX3_takeDigit 48 = .ok (.iconst 1, 1) := by decide +kernel
theorem dX3_takeDigit_49 : decode cX3_takeDigit 49 = .ok (.putfield 56, 3) := by decide +kernel
theorem dX3_takeDigit_52 : decode cX3_takeDigit 52 = .ok (.iconst 0, 1) := by decide +kernel
theorem dX3_takeDigit_53 : decode cX3_takeDigit 53 = .ok (.ireturn, 1) := by decide +kernel
theorem dX3_takeDigit_54 : decode cX3_takeDigit 54 = .ok (.aload_n 0, 1) := by decide +kernel
theorem dX3_takeDigit_55 : decode cX3_takeDigit 55 = .ok (.aload_n 0, 1) := by decide +kernel
theorem dX3_takeDigit_56 : decode cX3_takeDigit 56 = .ok (.getfield 28, 3) := by decide +kernel
theorem dX3_takeDigit_59 : decode cX3_takeDigit 59 = .ok (.getfield 91, 3) := by decide +kernel
theorem dX3_takeDigit_62 : decode cX3_takeDigit 62 = .ok (.aload_n 0, 1) := by decide +kernel
theorem dX3_takeDigit_63 : decode cX3_takeDigit 63 = .ok (.getfield 32, 3) := by decide +kernel
theorem dX3_takeDigit_66 : decode cX3_takeDigit 66 = .ok (.iaload, 1) := by decide +kernel
theorem dX3_takeDigit_67 : decode cX3_takeDigit 67 = .ok (.putfield 36, 3) := by decide +kernel
theorem dX3_takeDigit_70 : decode cX3_takeDigit 70 = .ok (.aload_n 0, 1) := by decide +kernel
theorem dX3_takeDigit_71 : decode cX3_takeDigit 71 = .ok (.getfield 36, 3) := by decide +kernel
theorem dX3_takeDigit_74 : decode cX3_takeDigit 74 = .ok (.iconst 4, 1) := by decide +kernel
theorem dX3_takeDigit_75 : decode cX3_takeDigit 75 = .ok (.ishr, 1) := by decide +kernel
theorem dX3_takeDigit_76 : decode cX3_takeDigit 76 = .ok (.bipush 9, 2) := by decide +kernel
theorem dX3_takeDigit_78 : decode cX3_takeDigit 78 = .ok (.if_icmp .le 10, 3) := by decide +kernel
theorem dX3_takeDigit_81 : decode cX3_takeDigit 81 = .ok (.aload_n 0, 1) := by decide +kernel
theorem dX3_takeDigit_82 : decode cX3_takeDigit 82 = .ok (.iconst 4, 1) := by decide +kernel
theorem dX3_takeDigit_83 : decode cX3_takeDigit 83 = .ok (.putfield 56, 3) := by decide +kernel
theorem dX3_takeDigit_86 : decode cX3_takeDigit 86 = .ok (.iconst 0, 1) := by decide +kernel
theorem dX3_takeDigit_87 : decode cX3_takeDigit 87 = .ok (.ireturn, 1) := by decide +kernel
theorem dX3_takeDigit_88 : decode cX3_takeDigit 88 = .ok (.aload_n 0, 1) := by decide +kernel
theorem dX3_takeDigit_89 : decode cX3_takeDigit 89 = .ok (.getfield 36, 3) := by decide +kernel
theorem dX3_takeDigit_92 : decode cX3_takeDigit 92 = .ok (.bipush 15, 2) := by decide +kernel
theorem dX3_takeDigit_94 : decode cX3_takeDigit 94 = .ok (.iand, 1) := by decide +kernel
theorem dX3_takeDigit_95 : decode cX3_takeDigit 95 = .ok (.istore_n 1, 1) := by decide +kernel
theorem dX3_takeDigit_96 : decode cX3_takeDigit 96 = .ok (.aload_n 0, 1) := by decide +kernel
theorem dX3_takeDigit_97 : decode cX3_takeDigit 97 = .ok (.iload_n 1, 1) := by decide +kernel
theorem dX3_takeDigit_98 : decode cX3_takeDigit 98 = .ok (.bipush 10, 2) := by decide +kernel
theorem dX3_takeDigit_100 : decode cX3_takeDigit 100 = .ok (.if_icmp .ge 7, 3) := by decide +kernel
theorem dX3_takeDigit_103 : decode cX3_takeDigit 103 = .ok (.iconst 1, 1) := by decide +kernel
theorem dX3_takeDigit_104 : decode cX3_takeDigit 104 = .ok (.goto 4, 3) := by decide +kernel
theorem dX3_takeDigit_107 : decode cX3_takeDigit 107 = .ok (.iconst 0, 1) := by decide +kernel
theorem dX3_takeDigit_108 : decode cX3_takeDigit 108 = .ok (.putfield 59, 3) := by decide +kernel
theorem dX3_takeDigit_111 : decode cX3_takeDigit 111 = .ok (.aload_n 0, 1) := by decide +kernel
theorem dX3_takeDigit_112 : decode cX3_takeDigit 112 = .ok (.iload_n 1, 1) := by decide +kernel
theorem dX3_takeDigit_113 : decode cX3_takeDigit 113 = .ok (.bipush 9, 2) := by decide +kernel
theorem dX3_takeDigit_115 : decode cX3_takeDigit 115 = .ok (.if_icmp .le 19, 3) := by decide +kernel
theorem dX3_takeDigit_118 : decode cX3_takeDigit 118 = .ok (.iload_n 1, 1) := by decide +kernel
theorem dX3_takeDigit_119 : decode cX3_takeDigit 119 = .ok (.bipush 11, 2) := by decide +kernel
theorem dX3_takeDigit_121 : decode cX3_takeDigit 121 = .ok (.if_icmp .eq 13, 3) := by decide +kernel
theorem dX3_takeDigit_124 : decode cX3_takeDigit 124 = .ok (.iload_n 1, 1) := by decide +kernel
theorem dX3_takeDigit_125 : decode cX3_takeDigit 125 = .ok (.bipush 13, 2) := by decide +kernel
theorem dX3_takeDigit_127 : decode cX3_takeDigit 127 = .ok (.if_icmp .eq 7, 3) := by decide +kernel
theorem dX3_takeDigit_130 : decode cX3_takeDigit 130 = .ok (.iconst 1, 1) := by decide +kernel
theorem dX3_takeDigit_131 : decode cX3_takeDigit 131 = .ok (.goto 4, 3) := by decide +kernel
theorem dX3_takeDigit_134 : decode cX3_takeDigit 134 = .ok (.iconst 0, 1) := by decide +kernel
theorem dX3_takeDigit_135 : decode cX3_takeDigit 135 = .ok (.putfield 70, 3) := by decide +kernel
theorem dX3_takeDigit_138 : decode cX3_takeDigit 138 = .ok (.aload_n 0, 1) := by decide +kernel
theorem dX3_takeDigit_139 : decode cX3_takeDigit 139 = .ok (.getfield 36, 3) := by decide +kernel
theorem dX3_takeDigit_142 : decode cX3_takeDigit 142 = .ok (.iconst 4, 1) := by decide +kernel
theorem dX3_takeDigit_143 : decode cX3_takeDigit 143 = .ok (.ishr, 1) := by decide +kernel
theorem dX3_takeDigit_144 : decode cX3_takeDigit 144 = .ok (.ireturn, 1) := by decide +kernel
theorem dX3_takesDigit_0 : decode cX3_takesDigit 0 = .ok (.iload_n 0, 1) := by decide +kernel
theorem dX3_takesDigit_1 : decode cX3_takesDigit 1 = .ok (.bipush 32, 2) := by decide +kernel
theorem dX3_takesDigit_3 : decode cX3_takesDigit 3 = .ok (.if_icmp .eq 9, 3) := by decide +kernel
theorem dX3_takesDigit_6 : decode cX3_takesDigit 6 = .ok (.iload_n 0, 1) := by decide +kernel
theorem dX3_takesDigit_7 : decode cX3_takesDigit 7 = .ok (.bipush 33, 2) := by decide +kernel
theorem dX3_takesDigit_9 : decode cX3_takesDigit 9 = .ok (.if_icmp .ne 7, 3) := by decide +kernel
theorem dX3_takesDigit_12 : decode cX3_takesDigit 12 = .ok (.iconst 1, 1) := by decide +kernel
theorem dX3_takesDigit_13 : decode cX3_takesDigit 13 = .ok (.goto 4, 3) := by decide +kernel
theorem dX3_takesDigit_16 : decode cX3_takesDigit 16 = .ok (.iconst 0, 1) := by decide +kernel
theorem dX3_takesDigit_17 : decode cX3_takesDigit 17 = .ok (.ireturn, 1) := by decide +kernel
theorem dX3_laid_0 : decode cX3_laid 0 = .ok (.iload_n 0, 1) := by decide +kernel
theorem dX3_laid_1 : decode cX3_laid 1 = .ok (.bipush 32, 2) := by decide +kernel
theorem dX3_laid_3 : decode cX3_laid 3 = .ok (.if_icmp .eq 9, 3) := by decide +kernel
theorem dX3_laid_6 : decode cX3_laid 6 = .ok (.iload_n 0, 1) := by decide +kernel
theorem dX3_laid_7 : decode cX3_laid 7 = .ok (.bipush 33, 2) := by decide +kernel
theorem dX3_laid_9 : decode cX3_laid 9 = .ok (.if_icmp .ne 21, 3) := by decide +kernel
theorem dX3_laid_12 : decode cX3_laid 12 = .ok (.iload_n 3, 1) := by decide +kernel
theorem dX3_laid_13 : decode cX3_laid 13 = .ok (.ifCond .ne 11, 3) := by decide +kernel
theorem dX3_laid_16 : decode cX3_laid 16 = .ok (.iload_n 2, 1) := by decide +kernel
theorem dX3_laid_17 : decode cX3_laid 17 = .ok (.ifCond .ne 7, 3) := by decide +kernel
theorem dX3_laid_20 : decode cX3_laid 20 = .ok (.iload_n 1, 1) := by decide +kernel
theorem dX3_laid_21 : decode cX3_laid 21 = .ok (.goto 8, 3) := by decide +kernel
theorem dX3_laid_24 : decode cX3_laid 24 = .ok (.sipush 240, 3) := by decide +kernel
theorem dX3_laid_27 : decode cX3_laid 27 = .ok (.iload_n 3, 1) := by decide +kernel
theorem dX3_laid_28 : decode cX3_laid 28 = .ok (.ior, 1) := by decide +kernel
theorem dX3_laid_29 : decode cX3_laid 29 = .ok (.ireturn, 1) := by decide +kernel
theorem dX3_laid_30 : decode cX3_laid 30 = .ok (.iload_n 0, 1) := by decide +kernel
theorem dX3_laid_31 : decode cX3_laid 31 = .ok (.bipush 34, 2) := by decide +kernel
theorem dX3_laid_33 : decode cX3_laid 33 = .ok (.if_icmp .eq 7, 3) := by decide +kernel
theorem dX3_laid_36 : decode cX3_laid 36 = .ok (.iload_n 2, 1) := by decide +kernel
theorem dX3_laid_37 : decode cX3_laid 37 = .ok (.ifCond .ne 7, 3) := by decide +kernel
theorem dX3_laid_40 : decode cX3_laid 40 = .ok (.iload_n 1, 1) := by decide +kernel
theorem dX3_laid_41 : decode cX3_laid 41 = .ok (.goto 4, 3) := by decide +kernel
theorem dX3_laid_44 : decode cX3_laid 44 = .ok (.iload_n 0, 1) := by decide +kernel
theorem dX3_laid_45 : decode cX3_laid 45 = .ok (.ireturn, 1) := by decide +kernel
theorem dX3_seenBehind_0 : decode cX3_seenBehind 0 = .ok (.iload_n 0, 1) := by decide +kernel
theorem dX3_seenBehind_1 : decode cX3_seenBehind 1 = .ok (.bipush 32, 2) := by decide +kernel
theorem dX3_seenBehind_3 : decode cX3_seenBehind 3 = .ok (.if_icmp .eq 9, 3) := by decide +kernel
theorem dX3_seenBehind_6 : decode cX3_seenBehind 6 = .ok (.iload_n 0, 1) := by decide +kernel
theorem dX3_seenBehind_7 : decode cX3_seenBehind 7 = .ok (.bipush 33, 2) := by decide +kernel
theorem dX3_seenBehind_9 : decode cX3_seenBehind 9 = .ok (.if_icmp .ne 27, 3) := by decide +kernel
theorem dX3_seenBehind_12 : decode cX3_seenBehind 12 = .ok (.iload_n 3, 1) := by decide +kernel
theorem dX3_seenBehind_13 : decode cX3_seenBehind 13 = .ok (.ifCond .ne 21, 3) := by decide +kernel
theorem dX3_seenBehind_16 : decode cX3_seenBehind 16 = .ok (.iload_n 1, 1) := by decide +kernel
theorem dX3_seenBehind_17 : decode cX3_seenBehind 17 = .ok (.ifCond .ne 13, 3) := by decide +kernel
theorem dX3_seenBehind_20 : decode cX3_seenBehind 20 = .ok (.iload_n 2, 1) := by decide +kernel
theorem dX3_seenBehind_21 : decode cX3_seenBehind 21 = .ok (.ifCond .ne 9, 3) := by decide +kernel
theorem dX3_seenBehind_24 : decode cX3_seenBehind 24 = .ok (.iload_n 0, 1) := by decide +kernel
theorem dX3_seenBehind_25 : decode cX3_seenBehind 25 = .ok (.bipush 33, 2) := by decide +kernel
theorem dX3_seenBehind_27 : decode cX3_seenBehind 27 = .ok (.if_icmp .ne 7, 3) := by decide +kernel
theorem dX3_seenBehind_30 : decode cX3_seenBehind 30 = .ok (.iconst 1, 1) := by decide +kernel
theorem dX3_seenBehind_31 : decode cX3_seenBehind 31 = .ok (.goto 4, 3) := by decide +kernel
theorem dX3_seenBehind_34 : decode cX3_seenBehind 34 = .ok (.iconst 0, 1) := by decide +kernel
theorem dX3_seenBehind_35 : decode cX3_seenBehind 35 = .ok (.ireturn, 1) := by decide +kernel
theorem dX3_seenBehind_36 : decode cX3_seenBehind 36 = .ok (.iload_n 0, 1) := by decide +kernel
theorem dX3_seenBehind_37 : decode cX3_seenBehind 37 = .ok (.bipush 34, 2) := by decide +kernel
theorem dX3_seenBehind_39 : decode cX3_seenBehind 39 = .ok (.if_icmp .eq 11, 3) := by decide +kernel
theorem dX3_seenBehind_42 : decode cX3_seenBehind 42 = .ok (.iload_n 1, 1) := by decide +kernel
theorem dX3_seenBehind_43 : decode cX3_seenBehind 43 = .ok (.ifCond .eq 7, 3) := by decide +kernel
theorem dX3_seenBehind_46 : decode cX3_seenBehind 46 = .ok (.iconst 1, 1) := by decide +kernel
theorem dX3_seenBehind_47 : decode cX3_seenBehind 47 = .ok (.goto 4, 3) := by decide +kernel
theorem dX3_seenBehind_50 : decode cX3_seenBehind 50 = .ok (.iconst 0, 1) := by decide +kernel
theorem dX3_seenBehind_51 : decode cX3_seenBehind 51 = .ok (.ireturn, 1) := by decide +kernel
theorem dX3_sources_0 : decode cX3_sources 0 = .ok (.aload_n 0, 1) := by decide +kernel
theorem dX3_sources_1 : decode cX3_sources 1 = .ok (.iload_n 3, 1) := by decide +kernel
theorem dX3_sources_2 : decode cX3_sources 2 = .ok (.bipush 32, 2) := by decide +kernel
theorem dX3_sources_4 : decode cX3_sources 4 = .ok (.invokestatic 94, 3) := by decide +kernel
theorem dX3_sources_7 : decode cX3_sources 7 = .ok (.putfield 100, 3) := by decide +kernel
theorem dX3_sources_10 : decode cX3_sources 10 = .ok (.aload_n 0, 1) := by decide +kernel
theorem dX3_sources_11 : decode cX3_sources 11 = .ok (.aload_n 1, 1) := by decide +kernel
theorem dX3_sources_12 : decode cX3_sources 12 = .ok (.iload_n 2, 1) := by decide +kernel
theorem dX3_sources_13 : decode cX3_sources 13 = .ok (.invokevirtual 49, 3) := by decide +kernel
theorem dX3_sources_16 : decode cX3_sources 16 = .ok (.putfield 53, 3) := by decide +kernel
theorem dX3_sources_19 : decode cX3_sources 19 = .ok (.aload_n 0, 1) := by decide +kernel
theorem dX3_sources_20 : decode cX3_sources 20 = .ok (.iconst 0, 1) := by decide +kernel
theorem dX3_sources_21 : decode cX3_sources 21 = .ok (.putfield 103, 3) := by decide +kernel
theorem dX3_sources_24 : decode cX3_sources 24 = .ok (.aload_n 0, 1) := by decide +kernel
theorem dX3_sources_25 : decode cX3_sources 25 = .ok (.iconst (-1), 1) := by decide +kernel
theorem dX3_sources_26 : decode cX3_sources 26 = .ok (.putfield 106, 3) := by decide +kernel
theorem dX3_sources_29 : decode cX3_sources 29 = .ok (.iconst 0, 1) := by decide +kernel
theorem dX3_sources_30 : decode cX3_sources 30 = .ok (.istore 5, 2) := by decide +kernel
theorem dX3_sources_32 : decode cX3_sources 32 = .ok (.iload 5, 2) := by decide +kernel
theorem dX3_sources_34 : decode cX3_sources 34 = .ok (.aload_n 0, 1) := by decide +kernel
theorem dX3_sources_35 : decode cX3_sources 35 = .ok (.getfield 100, 3) := by decide +kernel
theorem dX3_sources_38 : decode cX3_sources 38 = .ok (.if_icmp .ge 69, 3) := by decide +kernel
theorem dX3_sources_41 : decode cX3_sources 41 = .ok (.aload_n 0, 1) := by decide +kernel
theorem dX3_sources_42 : decode cX3_sources 42 = .ok (.getfield 15, 3) := by decide +kernel
theorem dX3_sources_45 : decode cX3_sources 45 = .ok (.iload 5, 2) := by decide +kernel
theorem dX3_sources_47 : decode cX3_sources 47 = .ok (.aload_n 1, 1) := by decide +kernel
theorem dX3_sources_48 : decode cX3_sources 48 = .ok (.iload_n 2, 1) := by decide +kernel
theorem dX3_sources_49 : decode cX3_sources 49 = .ok (.iload 5, 2) := by decide +kernel
theorem dX3_sources_51 : decode cX3_sources 51 = .ok (.iadd, 1) := by decide +kernel
theorem dX3_sources_52 : decode cX3_sources 52 = .ok (.invokevirtual 49, 3) := by decide +kernel
theorem dX3_sources_55 : decode cX3_sources 55 = .ok (.iastore, 1) := by decide +kernel
theorem dX3_sources_56 : decode cX3_sources 56 = .ok (.aload_n 0, 1) := by decide +kernel
theorem dX3_sources_57 : decode cX3_sources 57 = .ok (.getfield 18, 3) := by decide +kernel
theorem dX3_sources_60 : decode cX3_sources 60 = .ok (.iload 5, 2) := by decide +kernel
theorem dX3_sources_62 : decode cX3_sources 62 = .ok (.aload_n 1, 1) := by decide +kernel
theorem dX3_sources_63 : decode cX3_sources 63 = .ok (.iload 4, 2) := by decide +kernel
theorem dX3_sources_65 : decode cX3_sources 65 = .ok (.iload 5, 2) := by decide +kernel
theorem dX3_sources_67 : decode cX3_sources 67 = .ok (.iadd, 1) := by decide +kernel
theorem dX3_sources_68 : decode cX3_sources 68 = .ok (.invokevirtual 49, 3) := by decide +kernel
theorem dX3_sources_71 : decode cX3_sources 71 = .ok (.iastore, 1) := by decide +kernel
theorem dX3_sources_72 : decode cX3_sources 72 = .ok (.aload_n 0, 1) := by decide +kernel
theorem dX3_sources_73 : decode cX3_sources 73 = .ok (.getfield 15, 3) := by decide +kernel
theorem dX3_sources_76 : decode cX3_sources 76 = .ok (.iload 5, 2) := by decide +kernel
theorem dX3_sources_78 : decode cX3_sources 78 = .ok (.iaload, 1) := by decide +kernel
theorem dX3_sources_79 : decode cX3_sources 79 = .ok (.invokestatic 73, 3) := by decide +kernel
theorem dX3_sources_82 : decode cX3_sources 82 = .ok (.ifCond .eq 19, 3) := by decide +kernel
theorem dX3_sources_85 : decode cX3_sources 85 = .ok (.aload_n 0, 1) := by decide +kernel
theorem dX3_sources_86 : decode cX3_sources 86 = .ok (.dup, 1) := by decide +kernel
theorem dX3_sources_87 : decode cX3_sources 87 = .ok (.getfield 103, 3) := by decide +kernel
theorem dX3_sources_90 : decode cX3_sources 90 = .ok (.iconst 1, 1) := by decide +kernel
theorem dX3_sources_91 : decode cX3_sources 91 = .ok (.iadd, 1) := by decide +kernel
theorem dX3_sources_92 : decode cX3_sources 92 = .ok (.putfield 103, 3) := by decide +kernel
theorem dX3_sources_95 : decode cX3_sources 95 = .ok (.aload_n 0, 1) := by decide +kernel
theorem dX3_sources_96 : decode cX3_sources 96 = .ok (.iload 5, 2) := by decide +kernel
theorem dX3_sources_98 : decode cX3_sources 98 = .ok (.putfield 106, 3) := by decide +kernel
theorem dX3_sources_101 : decode cX3_sources 101 = .ok (.iinc 5 1, 3) := by decide +kernel
theorem dX3_sources_104 : decode cX3_sources 104 = .ok (.goto (-72), 3) := by decide +kernel
theorem dX3_sources_107 : decode cX3_sources 107 = .ok (.aload_n 0, 1) := by decide +kernel
theorem dX3_sources_108 : decode cX3_sources 108 = .ok (.getfield 100, 3) := by decide +kernel
theorem dX3_sources_111 : decode cX3_sources 111 = .ok (.istore 5, 2) := by decide +kernel
theorem dX3_sources_113 : decode cX3_sources 113 = .ok (.iload 5, 2) := by decide +kernel
theorem dX3_sources_115 : decode cX3_sources 115 = .ok (.ifCond .lt 57, 3) := by decide +kernel
theorem dX3_sources_118 : decode cX3_sources 118 = .ok (.iconst 0, 1) := by decide +kernel
theorem dX3_sources_119 : decode cX3_sources 119 = .ok (.istore 6, 2) := by decide +kernel
theorem dX3_sources_121 : decode cX3_sources 121 = .ok (.iload 6, 2) := by decide +kernel
theorem dX3_sources_123 : decode cX3_sources 123 = .ok (.iconst 4, 1) := by decide +kernel
theorem dX3_sources_124 : decode cX3_sources 124 = .ok (.if_icmp .ge 42, 3) := by decide +kernel
theorem dX3_sources_127 : decode cX3_sources 127 = .ok (.aload_n 0, 1) := by decide +kernel
theorem dX3_sources_128 : decode cX3_sources 128 = .ok (.getfield 21, 3) := by decide +kernel
theorem dX3_sources_131 : decode cX3_sources 131 = .ok (.iconst 4, 1) := by decide +kernel
theorem dX3_sources_132 : decode cX3_sources 132 = .ok (.iload 5, 2) := by decide +kernel
theorem dX3_sources_134 : decode cX3_sources 134 = .ok (.imul, 1) := by decide +kernel
theorem dX3_sources_135 : decode cX3_sources 135 = .ok (.iload 6, 2) := by decide +kernel
theorem dX3_sources_137 : decode cX3_sources 137 = .ok (.iadd, 1) := by decide +kernel
theorem dX3_sources_138 : decode cX3_sources 138 = .ok (.iload 5, 2) := by decide +kernel
theorem dX3_sources_140 : decode cX3_sources 140 = .ok (.aload_n 0, 1) := by decide +kernel
theorem dX3_sources_141 : decode cX3_sources 141 = .ok (.getfield 100, 3) := by decide +kernel
theorem dX3_sources_144 : decode cX3_sources 144 = .ok (.if_icmp .ne 7, 3) := by decide +kernel
theorem dX3_sources_147 : decode cX3_sources 147 = .ok (.lconst 1, 1) := by decide +kernel
theorem dX3_sources_148 : decode cX3_sources 148 = .ok (.goto 11, 3) := by decide +kernel
theorem dX3_sources_151 : decode cX3_sources 151 = .ok (.aload_n 0, 1) := by decide +kernel
theorem dX3_sources_152 : decode cX3_sources 152 = .ok (.iload 5, 2) := by decide +kernel
theorem dX3_sources_154 : decode cX3_sources 154 = .ok (.iload 6, 2) := by decide +kernel
theorem dX3_sources_156 : decode cX3_sources 156 = .ok (.invokevirtual 109, 3) := by decide +kernel
theorem dX3_sources_159 : decode cX3_sources 159 = .ok (.lastore, 1) := by decide +kernel
theorem dX3_sources_160 : decode cX3_sources 160 = .ok (.iinc 6 1, 3) := by decide +kernel
theorem dX3_sources_163 : decode cX3_sources 163 = .ok (.goto (-42), 3) := by decide +kernel
theorem dX3_sources_166 : decode cX3_sources 166 = .ok (.iinc 5 (-1), 3) := by decide +kernel
theorem dX3_sources_169 : decode cX3_sources 169 = .ok (.goto (-56), 3) := by decide +kernel
theorem dX3_sources_172 : decode cX3_sources 172 = .ok (.aload_n 0, 1) := by decide +kernel
theorem dX3_sources_173 : decode cX3_sources 173 = .ok (.getfield 21, 3) := by decide +kernel
theorem dX3_sources_176 : decode cX3_sources 176 = .ok (.iconst 0, 1) := by decide +kernel
theorem dX3_sources_177 : decode cX3_sources 177 = .ok (.laload, 1) := by decide +kernel
theorem dX3_sources_178 : decode cX3_sources 178 = .ok (.aload_n 0, 1) := by decide +kernel
theorem dX3_sources_179 : decode cX3_sources 179 = .ok (.getfield 21, 3) := by decide +kernel
theorem dX3_sources_182 : decode cX3_sources 182 = .ok (.iconst 2, 1) := by decide +kernel
theorem dX3_sources_183 : decode cX3_sources 183 = .ok (.laload, 1) := by decide +kernel
theorem dX3_sources_184 : decode cX3_sources 184 = .ok (.ladd, 1) := by decide +kernel
theorem dX3_sources_185 : decode cX3_sources 185 = .ok (.lreturn, 1) := by decide +kernel
theorem dX3_digits_0 : decode cX3_digits 0 = .ok (.aload_n 0, 1) := by decide +kernel
theorem dX3_digits_1 : decode cX3_digits 1 = .ok (.getfield 103, 3) := by decide +kernel
theorem dX3_digits_4 : decode cX3_digits 4 = .ok (.ireturn, 1) := by decide +kernel
theorem dX3_firstSource_0 : decode cX3_firstSource 0 = .ok (.aload_n 0, 1) := by decide +kernel
theorem dX3_firstSource_1 : decode cX3_firstSource 1 = .ok (.getfield 21, 3) := by decide +kernel
theorem dX3_firstSource_4 : decode cX3_firstSource 4 = .ok (.iconst 0, 1) := by decide +kernel
theorem dX3_firstSource_5 : decode cX3_firstSource 5 = .ok (.laload, 1) := by decide +kernel
theorem dX3_firstSource_6 : decode cX3_firstSource 6 = .ok (.lconst 0, 1) := by decide +kernel
theorem dX3_firstSource_7 : decode cX3_firstSource 7 = .ok (.lcmp, 1) := by decide +kernel
theorem dX3_firstSource_8 : decode cX3_firstSource 8 = .ok (.ifCond .le 7, 3) := by decide +kernel
theorem dX3_firstSource_11 : decode cX3_firstSource 11 = .ok (.iconst 0, 1) := by decide +kernel
theorem dX3_firstSource_12 : decode cX3_firstSource 12 = .ok (.goto 4, 3) := by decide +kernel
theorem dX3_firstSource_15 : decode cX3_firstSource 15 = .ok (.iconst (-1), 1) := by decide +kernel
theorem dX3_firstSource_16 : decode cX3_firstSource 16 = .ok (.istore_n 2, 1) := by decide +kernel
theorem dX3_firstSource_17 : decode cX3_firstSource 17 = .ok (.aload_n 0, 1) := by decide +kernel
theorem dX3_firstSource_18 : decode cX3_firstSource 18 = .ok (.getfield 21, 3) := by decide +kernel
theorem dX3_firstSource_21 : decode cX3_firstSource 21 = .ok (.iconst 2, 1) := by decide +kernel
theorem dX3_firstSource_22 : decode cX3_firstSource 22 = .ok (.laload, 1) := by decide +kernel
theorem dX3_firstSource_23 : decode cX3_firstSource 23 = .ok (.lconst 0, 1) := by decide +kernel
theorem dX3_firstSource_24 : decode cX3_firstSource 24 = .ok (.lcmp, 1) := by decide +kernel
theorem dX3_firstSource_25 : decode cX3_firstSource 25 = .ok (.ifCond .le 7, 3) := by decide +kernel
theorem dX3_firstSource_28 : decode cX3_firstSource 28 = .ok (.iconst 2, 1) := by decide +kernel
theorem dX3_firstSource_29 : decode cX3_firstSource 29 = .ok (.goto 4, 3) := by decide +kernel
theorem dX3_firstSource_32 : decode cX3_firstSource 32 = .ok (.iconst (-1), 1) := by decide +kernel
theorem dX3_firstSource_33 : decode cX3_firstSource 33 = .ok (.istore_n 3, 1) := by decide +kernel
theorem dX3_firstSource_34 : decode cX3_firstSource 34 = .ok (.iconst 0, 1) := by decide +kernel
theorem dX3_firstSource_35 : decode cX3_firstSource 35 = .ok (.istore 4, 2) := by decide +kernel
theorem dX3_firstSource_37 : decode cX3_firstSource 37 = .ok (.iconst 0, 1) := by decide +kernel
theorem dX3_firstSource_38 : decode cX3_firstSource 38 = .ok (.istore 5, 2) := by decide +kernel
theorem dX3_firstSource_40 : decode cX3_firstSource 40 = .ok (.iload 5, 2) := by decide +kernel
theorem dX3_firstSource_42 : decode cX3_firstSource 42 = .ok (.aload_n 0, 1) := by decide +kernel
theorem dX3_firstSource_43 : decode cX3_firstSource 43 = .ok (.getfield 100, 3) := by decide +kernel
theorem dX3_firstSource_46 : decode cX3_firstSource 46 = .ok (.if_icmp .ge 96, 3) := by decide +kernel
theorem dX3_firstSource_49 : decode cX3_firstSource 49 = .ok (.iconst 0, 1) := by decide +kernel
theorem dX3_firstSource_50 : decode cX3_firstSource 50 = .ok (.istore 6, 2) := by decide +kernel
theorem dX3_firstSource_52 : decode cX3_firstSource 52 = .ok (.iload 6, 2) := by decide +kernel
theorem dX3_firstSource_54 : decode cX3_firstSource 54 = .ok (.bipush 9, 2) := by decide +kernel
theorem dX3_firstSource_56 : decode cX3_firstSource 56 = .ok (.if_icmp .ge 35, 3) := by decide +kernel
theorem dX3_firstSource_59 : decode cX3_firstSource 59 = .ok (.aload_n 0, 1) := by decide +kernel
theorem dX3_firstSource_60 : decode cX3_firstSource 60 = .ok (.iload 5, 2) := by decide +kernel
theorem dX3_firstSource_62 : decode cX3_firstSource 62 = .ok (.iload_n 2, 1) := by decide +kernel
theorem dX3_firstSource_63 : decode cX3_firstSource 63 = .ok (.iload 6, 2) := by decide +kernel
theorem dX3_firstSource_65 : decode cX3_firstSource 65 = .ok (.invokevirtual 113, 3) := by decide +kernel
theorem dX3_firstSource_68 : decode cX3_firstSource 68 = .ok (.iconst (-1), 1) := by decide +kernel
theorem dX3_firstSource_69 : decode cX3_firstSource 69 = .ok (.if_icmp .ne 22, 3) := by decide +kernel
theorem dX3_firstSource_72 : decode cX3_firstSource 72 = .ok (.aload_n 0, 1) := by decide +kernel
theorem dX3_firstSource_73 : decode cX3_firstSource 73 = .ok (.iload 5, 2) := by decide +kernel
theorem dX3_firstSource_75 : decode cX3_firstSource 75 = .ok (.iload_n 3, 1) := by decide +kernel
theorem dX3_firstSource_76 : decode cX3_firstSource 76 = .ok (.iload 6, 2) := by decide +kernel
theorem dX3_firstSource_78 : decode cX3_firstSource 78 = .ok (.invokevirtual 113, 3) := by decide +kernel
theorem dX3_firstSource_81 : decode cX3_firstSource 81 = .ok (.iconst (-1), 1) := by decide +kernel
theorem dX3_firstSource_82 : decode cX3_firstSource 82 = .ok (.if_icmp .ne 9, 3) := by decide +kernel
theorem dX3_firstSource_85 : decode cX3_firstSource 85 = .ok (.iinc 6 1, 3) := by decide +kernel
theorem dX3_firstSource_88 : decode cX3_firstSource 88 = .ok (.goto (-36), 3) := by decide +kernel
theorem dX3_firstSource_91 : decode cX3_firstSource 91 = .ok (.aload_n 0, 1) := by decide +kernel
theorem dX3_firstSource_92 : decode cX3_firstSource 92 = .ok (.getfield 15, 3) := by decide +kernel
theorem dX3_firstSource_95 : decode cX3_firstSource 95 = .ok (.iload 5, 2) := by decide +kernel
theorem dX3_firstSource_97 : decode cX3_firstSource 97 = .ok (.iaload, 1) := by decide +kernel
theorem dX3_firstSource_98 : decode cX3_firstSource 98 = .ok (.invokestatic 73, 3) := by decide +kernel
theorem dX3_firstSource_101 : decode cX3_firstSource 101 = .ok (.ifCond .eq 15, 3) := by decide +kernel
theorem dX3_firstSource_104 : decode cX3_firstSource 104 = .ok (.iload 4, 2) := by decide +kernel
theorem dX3_firstSource_106 : decode cX3_firstSource 106 = .ok (.iload_n 1, 1) := by decide +kernel
theorem dX3_firstSource_107 : decode cX3_firstSource 107 = .ok (.if_icmp .ne 6, 3) := by decide +kernel
theorem dX3_firstSource_110 : decode cX3_firstSource 110 = .ok (.iload 6, 2) := by decide +kernel
theorem dX3_firstSource_112 : decode cX3_firstSource 112 = .ok (.ireturn, 1) := by decide +kernel
theorem dX3_firstSource_113 : decode cX3_firstSource 113 = .ok (.iinc 4 1, 3) := by decide +kernel
theorem dX3_firstSource_116 : decode cX3_firstSource 116 = .ok (.aload_n 0, 1) := by decide +kernel
theorem dX3_firstSource_117 : decode cX3_firstSource 117 = .ok (.iload 5, 2) := by decide +kernel
theorem dX3_firstSource_119 : decode cX3_firstSource 119 = .ok (.iload_n 2, 1) := by decide +kernel
theorem dX3_firstSource_120 : decode cX3_firstSource 120 = .ok (.iload 6, 2) := by decide +kernel
theorem dX3_firstSource_122 : decode cX3_firstSource 122 = .ok (.invokevirtual 113, 3) := by decide +kernel
theorem dX3_firstSource_125 : decode cX3_firstSource 125 = .ok (.istore_n 2, 1) := by decide +kernel
theorem dX3_firstSource_126 : decode cX3_firstSource 126 = .ok (.aload_n 0, 1) := by decide +kernel
theorem dX3_firstSource_127 : decode cX3_firstSource 127 = .ok (.iload 5, 2) := by decide +kernel
theorem dX3_firstSource_129 : decode cX3_firstSource 129 = .ok (.iload_n 3, 1) := by decide +kernel
theorem dX3_firstSource_130 : decode cX3_firstSource 130 = .ok (.iload 6, 2) := by decide +kernel
theorem dX3_firstSource_132 : decode cX3_firstSource 132 = .ok (.invokevirtual 113, 3) := by decide +kernel
theorem dX3_firstSource_135 : decode cX3_firstSource 135 = .ok (.istore_n 3, 1) := by decide +kernel
theorem dX3_firstSource_136 : decode cX3_firstSource 136 = .ok (.iinc 5 1, 3) := by decide +kernel
theorem dX3_firstSource_139 : decode cX3_firstSource 139 = .ok (.goto (-99), 3) := by decide +kernel
theorem dX3_firstSource_142 : decode cX3_firstSource 142 = .ok (.iload_n 2, 1) := by decide +kernel
theorem dX3_firstSource_143 : decode cX3_firstSource 143 = .ok (.iconst (-1), 1) := by decide +kernel
theorem dX3_firstSource_144 : decode cX3_firstSource 144 = .ok (.if_icmp .eq 7, 3) := by decide +kernel
theorem dX3_firstSource_147 : decode cX3_firstSource 147 = .ok (.iconst 0, 1) := by decide +kernel
theorem dX3_firstSource_148 : decode cX3_firstSource 148 = .ok (.goto 4, 3) := by decide +kernel
theorem dX3_firstSource_151 : decode cX3_firstSource 151 = .ok (.iconst 1, 1) := by decide +kernel
theorem dX3_firstSource_152 : decode cX3_firstSource 152 = .ok (.ireturn, 1) := by decide +kernel
theorem dX3_waysFrom_0 : decode cX3_waysFrom 0 = .ok (.aload_n 0, 1) := by decide +kernel
theorem dX3_waysFrom_1 : decode cX3_waysFrom 1 = .ok (.getfield 15, 3) := by decide +kernel
theorem dX3_waysFrom_4 : decode cX3_waysFrom 4 = .ok (.iload_n 1, 1) := by decide +kernel
theorem dX3_waysFrom_5 : decode cX3_waysFrom 5 = .ok (.iaload, 1) := by decide +kernel
theorem dX3_waysFrom_6 : decode cX3_waysFrom 6 = .ok (.invokestatic 73, 3) := by decide +kernel
theorem dX3_waysFrom_9 : decode cX3_waysFrom 9 = .ok (.ifCond .eq 8, 3) := by decide +kernel
theorem dX3_waysFrom_12 : decode cX3_waysFrom 12 = .ok (.bipush 9, 2) := by decide +kernel
theorem dX3_waysFrom_14 : decode cX3_waysFrom 14 = .ok (.goto 4, 3) := by decide +kernel
theorem dX3_waysFrom_17 : decode cX3_waysFrom 17 = .ok (.iconst 0, 1) := by decide +kernel
theorem dX3_waysFrom_18 : decode cX3_waysFrom 18 = .ok (.istore_n 3, 1) := by decide +kernel
theorem dX3_waysFrom_19 : decode cX3_waysFrom 19 = .ok (.lconst 0, 1) := by decide +kernel
theorem dX3_waysFrom_20 : decode cX3_waysFrom 20 = .ok (.lstore 4, 2) := by decide +kernel
theorem dX3_waysFrom_22 : decode cX3_waysFrom 22 = .ok (.iconst 0, 1) := by decide +kernel
theorem dX3_waysFrom_23 : decode cX3_waysFrom 23 = .ok (.istore 6, 2) := by decide +kernel
theorem dX3_waysFrom_25 : decode cX3_waysFrom 25 = .ok (.iload 6, 2) := by decide +kernel
theorem dX3_waysFrom_27 : decode cX3_waysFrom 27 = .ok (.iload_n 3, 1) := by decide +kernel
theorem dX3_waysFrom_28 : decode cX3_waysFrom 28 = .ok (.if_icmp .gt 47, 3) := by decide +kernel
theorem dX3_waysFrom_31 : decode cX3_waysFrom 31 = .ok (.aload_n 0, 1) := by decide +kernel
theorem dX3_waysFrom_32 : decode cX3_waysFrom 32 = .ok (.iload_n 1, 1) := by decide +kernel
theorem dX3_waysFrom_33 : decode cX3_waysFrom 33 = .ok (.iload_n 2, 1) := by decide +kernel
theorem dX3_waysFrom_34 : decode cX3_waysFrom 34 = .ok (.iload 6, 2) := by decide +kernel
theorem dX3_waysFrom_36 : decode cX3_waysFrom 36 = .ok (.invokevirtual 117, 3) := by decide +kernel
theorem dX3_waysFrom_39 : decode cX3_waysFrom 39 = .ok (.istore 7, 2) := by decide +kernel
theorem dX3_waysFrom_41 : decode cX3_waysFrom 41 = .ok (.lload 4, 2) := by decide +kernel
theorem dX3_waysFrom_43 : decode cX3_waysFrom 43 = .ok (.iload 7, 2) := by decide +kernel
theorem dX3_waysFrom_45 : decode cX3_waysFrom 45 = .ok (.iconst (-1), 1) := by decide +kernel
theorem dX3_waysFrom_46 : decode cX3_waysFrom 46 = .ok (.if_icmp .ne 7, 3) := by decide +kernel
theorem dX3_waysFrom_49 : decode cX3_waysFrom 49 = .ok (.lconst 0, 1) := by decide +kernel
theorem dX3_waysFrom_50 : decode cX3_waysFrom 50 = .ok (.goto 16, 3) := by decide +kernel
theorem dX3_waysFrom_53 : decode cX3_waysFrom 53 = .ok (.aload_n 0, 1) := by decide +kernel
theorem dX3_waysFrom_54 : decode cX3_waysFrom 54 = .ok (.getfield 21, 3) := by decide +kernel
theorem dX3_waysFrom_57 : decode cX3_waysFrom 57 = .ok (.iconst 4, 1) := by decide +kernel
theorem dX3_waysFrom_58 : decode cX3_waysFrom 58 = .ok (.iload_n 1, 1) := by decide +kernel
theorem dX3_waysFrom_59 : decode cX3_waysFrom 59 = .ok (.iconst 1, 1) := by decide +kernel
theorem dX3_waysFrom_60 : decode cX3_waysFrom 60 = .ok (.iadd, 1) := by decide +kernel
theorem dX3_waysFrom_61 : decode cX3_waysFrom 61 = .ok (.imul, 1) := by decide +kernel
theorem dX3_waysFrom_62 : decode cX3_waysFrom 62 = .ok (.iload 7, 2) := by decide +kernel
theorem dX3_waysFrom_64 : decode cX3_waysFrom 64 = .ok (.iadd, 1) := by decide +kernel
theorem dX3_waysFrom_65 : decode cX3_waysFrom 65 = .ok (.laload, 1) := by decide +kernel
theorem dX3_waysFrom_66 : decode cX3_waysFrom 66 = .ok (.ladd, 1) := by decide +kernel
theorem dX3_waysFrom_67 : decode cX3_waysFrom 67 = .ok (.lstore 4, 2) := by decide +kernel
theorem dX3_waysFrom_69 : decode cX3_waysFrom 69 = .ok (.iinc 6 1, 3) := by decide +kernel
theorem dX3_waysFrom_72 : decode cX3_waysFrom 72 = .ok (.goto (-47), 3) := by decide +kernel
theorem dX3_waysFrom_75 : decode cX3_waysFrom 75 = .ok (.lload 4, 2) := by decide +kernel
theorem dX3_waysFrom_77 : decode cX3_waysFrom 77 = .ok (.lreturn, 1) := by decide +kernel
theorem dX3_way_0 : decode cX3_way 0 = .ok (.iload_n 2, 1) := by decide +kernel
theorem dX3_way_1 : decode cX3_way 1 = .ok (.iconst (-1), 1) := by decide +kernel
theorem dX3_way_2 : decode cX3_way 2 = .ok (.if_icmp .ne 7, 3) := by decide +kernel
theorem dX3_way_5 : decode cX3_way 5 = .ok (.iconst (-1), 1) := by decide +kernel
theorem dX3_way_6 : decode cX3_way 6 = .ok (.goto 10, 3) := by decide +kernel
theorem dX3_way_9 : decode cX3_way 9 = .ok (.aload_n 0, 1) := by decide +kernel
theorem dX3_way_10 : decode cX3_way 10 = .ok (.iload_n 1, 1) := by decide +kernel
theorem dX3_way_11 : decode cX3_way 11 = .ok (.iload_n 2, 1) := by decide +kernel
theorem dX3_way_12 : decode cX3_way 12 = .ok (.iload_n 3, 1) := by decide +kernel
theorem dX3_way_13 : decode cX3_way 13 = .ok (.invokevirtual 117, 3) := by decide +kernel
theorem dX3_way_16 : decode cX3_way 16 = .ok (.istore 4, 2) := by decide +kernel
theorem dX3_way_18 : decode cX3_way 18 = .ok (.iload 4, 2) := by decide +kernel
theorem dX3_way_20 : decode cX3_way 20 = .ok (.iconst (-1), 1) := by decide +kernel
theorem dX3_way_21 : decode cX3_way 21 = .ok (.if_icmp .eq 21, 3) := by decide +kernel
theorem dX3_way_24 : decode cX3_way 24 = .ok (.aload_n 0, 1) := by decide +kernel
theorem dX3_way_25 : decode cX3_way 25 = .ok (.getfield 21, 3) := by decide +kernel
theorem dX3_way_28 : decode cX3_way 28 = .ok (.iconst 4, 1) := by decide +kernel
theorem dX3_way_29 : decode cX3_way 29 = .ok (.iload_n 1, 1) := by decide +kernel
theorem dX3_way_30 : decode cX3_way 30 = .ok (.iconst 1, 1) := by decide +kernel
theorem dX3_way_31 : decode cX3_way 31 = .ok (.iadd, 1) := by decide +kernel
theorem dX3_way_32 : decode cX3_way 32 = .ok (.imul, 1) := by decide +kernel
theorem dX3_way_33 : decode cX3_way 33 = .ok (.iload 4, 2) := by decide +kernel
theorem dX3_way_35 : decode cX3_way 35 = .ok (.iadd, 1) := by decide +kernel
theorem dX3_way_36 : decode cX3_way 36 = .ok (.laload, 1) := by decide +kernel
theorem dX3_way_37 : decode cX3_way 37 = .ok (.lconst 0, 1) := by decide +kernel
theorem dX3_way_38 : decode cX3_way 38 = .ok (.lcmp, 1) := by decide +kernel
theorem dX3_way_39 : decode cX3_way 39 = .ok (.ifCond .ne 7, 3) := by decide +kernel
theorem dX3_way_42 : decode cX3_way 42 = .ok (.iconst (-1), 1) := by decide +kernel
theorem dX3_way_43 : decode cX3_way 43 = .ok (.goto 5, 3) := by decide +kernel
theorem dX3_way_46 : decode cX3_way 46 = .ok (.iload 4, 2) := by decide +kernel
theorem dX3_way_48 : decode cX3_way 48 = .ok (.ireturn, 1) := by decide +kernel
theorem dX3_stateBehind_0 : decode cX3_stateBehind 0 = .ok (.iload_n 2, 1) := by decide +kernel
theorem dX3_stateBehind_1 : decode cX3_stateBehind 1 = .ok (.iconst 1, 1) := by decide +kernel
theorem dX3_stateBehind_2 : decode cX3_stateBehind 2 = .ok (.iand, 1) := by decide +kernel
theorem dX3_stateBehind_3 : decode cX3_stateBehind 3 = .ok (.ifCond .eq 7, 3) := by decide +kernel
theorem dX3_stateBehind_6 : decode cX3_stateBehind 6 = .ok (.iconst 1, 1) := by decide +kernel
theorem dX3_stateBehind_7 : decode cX3_stateBehind 7 = .ok (.goto 4, 3) := by decide +kernel
theorem dX3_stateBehind_10 : decode cX3_stateBehind 10 = .ok (.iconst 0, 1) := by decide +kernel
theorem dX3_stateBehind_11 : decode cX3_stateBehind 11 = .ok (.istore 4, 2) := by decide +kernel
theorem dX3_stateBehind_13 : decode cX3_stateBehind 13 = .ok (.aload_n 0, 1) := by decide +kernel
theorem dX3_stateBehind_14 : decode cX3_stateBehind 14 = .ok (.getfield 15, 3) := by decide +kernel
theorem dX3_stateBehind_17 : decode cX3_stateBehind 17 = .ok (.iload_n 1, 1) := by decide +kernel
theorem dX3_stateBehind_18 : decode cX3_stateBehind 18 = .ok (.iaload, 1) := by decide +kernel
theorem dX3_stateBehind_19 : decode cX3_stateBehind 19 = .ok (.aload_n 0, 1) := by decide +kernel
theorem dX3_stateBehind_20 : decode cX3_stateBehind 20 = .ok (.getfield 53, 3) := by decide +kernel
theorem dX3_stateBehind_23 : decode cX3_stateBehind 23 = .ok (.iload 4, 2) := by decide +kernel
theorem dX3_stateBehind_25 : decode cX3_stateBehind 25 = .ok (.iload_n 3, 1) := by decide +kernel
theorem dX3_stateBehind_26 : decode cX3_stateBehind 26 = .ok (.invokestatic 81, 3) := by decide +kernel
theorem dX3_stateBehind_29 : decode cX3_stateBehind 29 = .ok (.aload_n 0, 1) := by decide +kernel
theorem dX3_stateBehind_30 : decode cX3_stateBehind 30 = .ok (.getfield 18, 3) := by decide +kernel
theorem dX3_stateBehind_33 : decode cX3_stateBehind 33 = .ok (.iload_n 1, 1) := by decide +kernel
theorem dX3_stateBehind_34 : decode cX3_stateBehind 34 = .ok (.iaload, 1) := by decide +kernel
theorem dX3_stateBehind_35 : decode cX3_stateBehind 35 = .ok (.if_icmp .eq 5, 3) := by decide +kernel
theorem dX3_stateBehind_38 : decode cX3_stateBehind 38 = .ok (.iconst (-1), 1) := by decide +kernel
theorem dX3_stateBehind_39 : decode cX3_stateBehind 39 = .ok (.ireturn, 1) := by decide +kernel
theorem dX3_stateBehind_40 : decode cX3_stateBehind 40 = .ok (.iload_n 1, 1) := by decide +kernel
theorem dX3_stateBehind_41 : decode cX3_stateBehind 41 = .ok (.aload_n 0, 1) := by decide +kernel
theorem dX3_stateBehind_42 : decode cX3_stateBehind 42 = .ok (.getfield 106, 3) := by decide +kernel
theorem dX3_stateBehind_45 : decode cX3_stateBehind 45 = .ok (.if_icmp .ne 12, 3) := by decide +kernel
theorem dX3_stateBehind_48 : decode cX3_stateBehind 48 = .ok (.iload_n 2, 1) := by decide +kernel
theorem dX3_stateBehind_49 : decode cX3_stateBehind 49 = .ok (.iconst 2, 1) := by decide +kernel
theorem dX3_stateBehind_50 : decode cX3_stateBehind 50 = .ok (.if_icmp .ge 7, 3) := by decide +kernel
theorem dX3_stateBehind_53 : decode cX3_stateBehind 53 = .ok (.iconst 1, 1) := by decide +kernel
theorem dX3_stateBehind_54 : decode cX3_stateBehind 54 = .ok (.goto 4, 3) := by decide +kernel
theorem dX3_stateBehind_57 : decode cX3_stateBehind 57 = .ok (.iconst 0, 1) := by decide +kernel
theorem dX3_stateBehind_58 : decode cX3_stateBehind 58 = .ok (.istore 5, 2) := by decide +kernel
theorem dX3_stateBehind_60 : decode cX3_stateBehind 60 = .ok (.iload_n 2, 1) := by decide +kernel
theorem dX3_stateBehind_61 : decode cX3_stateBehind 61 = .ok (.iconst 2, 1) := by decide +kernel
theorem dX3_stateBehind_62 : decode cX3_stateBehind 62 = .ok (.iand, 1) := by decide +kernel
theorem dX3_stateBehind_63 : decode cX3_stateBehind 63 = .ok (.aload_n 0, 1) := by decide +kernel
theorem dX3_stateBehind_64 : decode cX3_stateBehind 64 = .ok (.getfield 15, 3) := by decide +kernel
theorem dX3_stateBehind_67 : decode cX3_stateBehind 67 = .ok (.iload_n 1, 1) := by decide +kernel
theorem dX3_stateBehind_68 : decode cX3_stateBehind 68 = .ok (.iaload, 1) := by decide +kernel
theorem dX3_stateBehind_69 : decode cX3_stateBehind 69 = .ok (.iload 4, 2) := by decide +kernel
theorem dX3_stateBehind_71 : decode cX3_stateBehind 71 = .ok (.iload_n 3, 1) := by decide +kernel
theorem dX3_stateBehind_72 : decode cX3_stateBehind 72 = .ok (.iload 5, 2) := by decide +kernel
theorem dX3_stateBehind_74 : decode cX3_stateBehind 74 = .ok (.invokestatic 85, 3) := by decide +kernel
theorem dX3_stateBehind_77 : decode cX3_stateBehind 77 = .ok (.ifCond .eq 7, 3) := by decide +kernel
theorem dX3_stateBehind_80 : decode cX3_stateBehind 80 = .ok (.iconst 1, 1) := by decide +kernel
theorem dX3_stateBehind_81 : decode cX3_stateBehind 81 = .ok (.goto 4, 3) := by decide +kernel
theorem dX3_stateBehind_84 : decode cX3_stateBehind 84 = .ok (.iconst 0, 1) := by decide +kernel
theorem dX3_stateBehind_85 : decode cX3_stateBehind 85 = .ok (.ior, 1) := by decide +kernel
theorem dX3_stateBehind_86 : decode cX3_stateBehind 86 = .ok (.ireturn, 1) := by decide +kernel
