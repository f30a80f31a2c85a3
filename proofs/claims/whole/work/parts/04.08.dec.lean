theorem dX13_unedited_57 : decode cX13_unedited 57 = .ok (.iconst 1, 1) := by decide +kernel
theorem dX13_unedited_58 : decode cX13_unedited 58 = .ok (.invokevirtual 621, 3) := by decide +kernel
theorem dX13_unedited_61 : decode cX13_unedited 61 = .ok (.laload, 1) := by decide +kernel
theorem dX13_unedited_62 : decode cX13_unedited 62 = .ok (.ladd, 1) := by decide +kernel
theorem dX13_unedited_63 : decode cX13_unedited 63 = .ok (.lstore 5, 2) := by decide +kernel
theorem dX13_unedited_65 : decode cX13_unedited 65 = .ok (.iload 4, 2) := by decide +kernel
theorem dX13_unedited_67 : decode cX13_unedited 67 = .ok (.iconst (-1), 1) := by decide +kernel
theorem dX13_unedited_68 : decode cX13_unedited 68 = .ok (.if_icmp .ne 6, 3) := by decide +kernel
theorem dX13_unedited_71 : decode cX13_unedited 71 = .ok (.lload 5, 2) := by decide +kernel
theorem dX13_unedited_73 : decode cX13_unedited 73 = .ok (.lreturn, 1) := by decide +kernel
theorem dX13_unedited_74 : decode cX13_unedited 74 = .ok (.lload 5, 2) := by decide +kernel
theorem dX13_unedited_76 : decode cX13_unedited 76 = .ok (.lconst 0, 1) := by decide +kernel
theorem dX13_unedited_77 : decode cX13_unedited 77 = .ok (.lcmp, 1) := by decide +kernel
theorem dX13_unedited_78 : decode cX13_unedited 78 = .ok (.ifCond .ne 10, 3) := by decide +kernel
theorem dX13_unedited_81 : decode cX13_unedited 81 = .ok (.aload_n 0, 1) := by decide +kernel
theorem dX13_unedited_82 : decode cX13_unedited 82 = .ok (.iconst 1, 1) := by decide +kernel
theorem dX13_unedited_83 : decode cX13_unedited 83 = .ok (.invokevirtual 329, 3) := by decide +kernel
theorem dX13_unedited_86 : decode cX13_unedited 86 = .ok (.i2l, 1) := by decide +kernel
theorem dX13_unedited_87 : decode cX13_unedited 87 = .ok (.lreturn, 1) := by decide +kernel
theorem dX13_unedited_88 : decode cX13_unedited 88 = .ok (.aload_n 0, 1) := by decide +kernel
theorem dX13_unedited_89 : decode cX13_unedited 89 = .ok (.iload_n 1, 1) := by decide +kernel
theorem dX13_unedited_90 : decode cX13_unedited 90 = .ok (.iload_n 2, 1) := by decide +kernel
theorem dX13_unedited_91 : decode cX13_unedited 91 = .ok (.iload_n 3, 1) := by decide +kernel
theorem dX13_unedited_92 : decode cX13_unedited 92 = .ok (.invokevirtual 646, 3) := by decide +kernel
theorem dX13_unedited_95 : decode cX13_unedited 95 = .ok (.iload 4, 2) := by decide +kernel
theorem dX13_unedited_97 : decode cX13_unedited 97 = .ok (.bipush (-2), 2) := by decide +kernel
theorem dX13_unedited_99 : decode cX13_unedited 99 = .ok (.if_icmp .ne 11, 3) := by decide +kernel
theorem dX13_unedited_102 : decode cX13_unedited 102 = .ok (.aload_n 0, 1) := by decide +kernel
theorem dX13_unedited_103 : decode cX13_unedited 103 = .ok (.getfield 640, 3) := by decide +kernel
theorem dX13_unedited_106 : decode cX13_unedited 106 = .ok (.i2l, 1) := by decide +kernel
theorem dX13_unedited_107 : decode cX13_unedited 107 = .ok (.goto 37, 3) := by decide +kernel
theorem dX13_unedited_110 : decode cX13_unedited 110 = .ok (.iload 4, 2) := by decide +kernel
theorem dX13_unedited_112 : decode cX13_unedited 112 = .ok (.i2l, 1) := by decide +kernel
theorem dX13_unedited_113 : decode cX13_unedited 113 = .ok (.lconst 0, 1) := by decide +kernel
theorem dX13_unedited_114 : decode cX13_unedited 114 = .ok (.aload_n 0, 1) := by decide +kernel
theorem dX13_unedited_115 : decode cX13_unedited 115 = .ok (.getfield 637, 3) := by decide +kernel
theorem dX13_unedited_118 : decode cX13_unedited 118 = .ok (.iconst 1, 1) := by decide +kernel
theorem dX13_unedited_119 : decode cX13_unedited 119 = .ok (.isub, 1) := by decide +kernel
theorem dX13_unedited_120 : decode cX13_unedited 120 = .ok (.i2l, 1) := by decide +kernel
theorem dX13_unedited_121 : decode cX13_unedited 121 = .ok (.invokestatic 287, 3) := by decide +kernel
theorem dX13_unedited_124 : decode cX13_unedited 124 = .ok (.ifCond .eq 14, 3) := by decide +kernel
theorem dX13_unedited_127 : decode cX13_unedited 127 = .ok (.aload_n 0, 1) := by decide +kernel
theorem dX13_unedited_128 : decode cX13_unedited 128 = .ok (.getfield 145, 3) := by decide +kernel
theorem dX13_unedited_131 : decode cX13_unedited 131 = .ok (.iload 4, 2) := by decide +kernel
theorem dX13_unedited_133 : decode cX13_unedited 133 = .ok (.iaload, 1) := by decide +kernel
theorem dX13_unedited_134 : decode cX13_unedited 134 = .ok (.i2l, 1) := by decide +kernel
theorem dX13_unedited_135 : decode cX13_unedited 135 = .ok (.goto 9, 3) := by decide +kernel
theorem dX13_unedited_138 : decode cX13_unedited 138 = .ok (.aload_n 0, 1) := by decide +kernel
theorem dX13_unedited_139 : decode cX13_unedited 139 = .ok (.iconst 1, 1) := by decide +kernel
theorem dX13_unedited_140 : decode cX13_unedited 140 = .ok (.invokevirtual 329, 3) := by decide +kernel
theorem dX13_unedited_143 : decode cX13_unedited 143 = .ok (.i2l, 1) := by decide +kernel
theorem dX13_unedited_144 : decode cX13_unedited 144 = .ok (.lreturn, 1) := by decide +kernel
theorem dX13_refuse_0 : decode cX13_refuse 0 = .ok (.aload_n 0, 1) := by decide +kernel
theorem dX13_refuse_1 : decode cX13_refuse 1 = .ok (.getfield 80, 3) := by decide +kernel
theorem dX13_refuse_4 : decode cX13_refuse 4 = .ok (.iload_n 1, 1) := by decide +kernel
theorem dX13_refuse_5 : decode cX13_refuse 5 = .ok (.dup2, 1) := by decide +kernel
theorem dX13_refuse_6 : decode cX13_refuse 6 = .ok (.iaload, 1) := by decide +kernel
theorem dX13_refuse_7 : decode cX13_refuse 7 = .ok (.iconst 1, 1) := by decide +kernel
theorem dX13_refuse_8 : decode cX13_refuse 8 = .ok (.iadd, 1) := by decide +kernel
theorem dX13_refuse_9 : decode cX13_refuse 9 = .ok (.iastore, 1) := by decide +kernel
theorem dX13_refuse_10 : decode cX13_refuse 10 = .ok (.iconst (-1), 1) := by decide +kernel
theorem dX13_refuse_11 : decode cX13_refuse 11 = .ok (.ireturn, 1) := by decide +kernel
theorem dX13_copyTo_0 : decode cX13_copyTo 0 = .ok (.iconst 0, 1) := by decide +kernel
theorem dX13_copyTo_1 : decode cX13_copyTo 1 = .ok (.istore_n 2, 1) := by decide +kernel
theorem dX13_copyTo_2 : decode cX13_copyTo 2 = .ok (.iload_n 2, 1) := by decide +kernel
theorem dX13_copyTo_3 : decode cX13_copyTo 3 = .ok (.aload_n 0, 1) := by decide +kernel
theorem dX13_copyTo_4 : decode cX13_copyTo 4 = .ok (.arraylength, 1) := by decide +kernel
theorem dX13_copyTo_5 : decode cX13_copyTo 5 = .ok (.if_icmp .ge 15, 3) := by decide +kernel
theorem dX13_copyTo_8 : decode cX13_copyTo 8 = .ok (.aload_n 0, 1) := by decide +kernel
theorem dX13_copyTo_9 : decode cX13_copyTo 9 = .ok (.iload_n 2, 1) := by decide +kernel
theorem dX13_copyTo_10 : decode cX13_copyTo 10 = .ok (.aload_n 1, 1) := by decide +kernel
theorem dX13_copyTo_11 : decode cX13_copyTo 11 = .ok (.iload_n 2, 1) := by decide +kernel
theorem dX13_copyTo_12 : decode cX13_copyTo 12 = .ok (.iaload, 1) := by decide +kernel
theorem dX13_copyTo_13 : decode cX13_copyTo 13 = .ok (.iastore, 1) := by decide +kernel
theorem dX13_copyTo_14 : decode cX13_copyTo 14 = .ok (.iinc 2 1, 3) := by decide +kernel
theorem dX13_copyTo_17 : decode cX13_copyTo 17 = .ok (.goto (-15), 3) := by decide +kernel
theorem dX13_copyTo_20 : decode cX13_copyTo 20 = .ok (.return_, 1) := by decide +kernel
theorem dX13_keep_0 : decode cX13_keep 0 = .ok (.aload_n 0, 1) := by decide +kernel
theorem dX13_keep_1 : decode cX13_keep 1 = .ok (.getfield 348, 3) := by decide +kernel
theorem dX13_keep_4 : decode cX13_keep 4 = .ok (.bipush 40, 2) := by decide +kernel
theorem dX13_keep_6 : decode cX13_keep 6 = .ok (.if_icmp .ne 48, 3) := by decide +kernel
theorem dX13_keep_9 : decode cX13_keep 9 = .ok (.sipush 414, 3) := by decide +kernel
theorem dX13_keep_12 : decode cX13_keep 12 = .ok (.istore_n 1, 1) := by decide +kernel
theorem dX13_keep_13 : decode cX13_keep 13 = .ok (.iload_n 1, 1) := by decide +kernel
theorem dX13_keep_14 : decode cX13_keep 14 = .ok (.aload_n 0, 1) := by decide +kernel
theorem dX13_keep_15 : decode cX13_keep 15 = .ok (.getfield 148, 3) := by decide +kernel
theorem dX13_keep_18 : decode cX13_keep 18 = .ok (.arraylength, 1) := by decide +kernel
theorem dX13_keep_19 : decode cX13_keep 19 = .ok (.if_icmp .ge 25, 3) := by decide +kernel
theorem dX13_keep_22 : decode cX13_keep 22 = .ok (.aload_n 0, 1) := by decide +kernel
theorem dX13_keep_23 : decode cX13_keep 23 = .ok (.getfield 148, 3) := by decide +kernel
theorem dX13_keep_26 : decode cX13_keep 26 = .ok (.iload_n 1, 1) := by decide +kernel
theorem dX13_keep_27 : decode cX13_keep 27 = .ok (.sipush 414, 3) := by decide +kernel
theorem dX13_keep_30 : decode cX13_keep 30 = .ok (.isub, 1) := by decide +kernel
theorem dX13_keep_31 : decode cX13_keep 31 = .ok (.aload_n 0, 1) := by decide +kernel
theorem dX13_keep_32 : decode cX13_keep 32 = .ok (.getfield 148, 3) := by decide +kernel
theorem dX13_keep_35 : decode cX13_keep 35 = .ok (.iload_n 1, 1) := by decide +kernel
theorem dX13_keep_36 : decode cX13_keep 36 = .ok (.iaload, 1) := by decide +kernel
theorem dX13_keep_37 : decode cX13_keep 37 = .ok (.iastore, 1) := by decide +kernel
theorem dX13_keep_38 : decode cX13_keep 38 = .ok (.iinc 1 1, 3) := by decide +kernel
theorem dX13_keep_41 : decode cX13_keep 41 = .ok (.goto (-28), 3) := by decide +kernel
theorem dX13_keep_44 : decode cX13_keep 44 = .ok (.aload_n 0, 1) := by decide +kernel
theorem dX13_keep_45 : decode cX13_keep 45 = .ok (.dup, 1) := by decide +kernel
theorem dX13_keep_46 : decode cX13_keep 46 = .ok (.getfield 348, 3) := by decide +kernel
theorem dX13_keep_49 : decode cX13_keep 49 = .ok (.iconst 1, 1) := by decide +kernel
theorem dX13_keep_50 : decode cX13_keep 50 = .ok (.isub, 1) := by decide +kernel
theorem dX13_keep_51 : decode cX13_keep 51 = .ok (.putfield 348, 3) := by decide +kernel
theorem dX13_keep_54 : decode cX13_keep 54 = .ok (.iconst 0, 1) := by decide +kernel
theorem dX13_keep_55 : decode cX13_keep 55 = .ok (.istore_n 1, 1) := by decide +kernel
theorem dX13_keep_56 : decode cX13_keep 56 = .ok (.iload_n 1, 1) := by decide +kernel
theorem dX13_keep_57 : decode cX13_keep 57 = .ok (.sipush 414, 3) := by decide +kernel
theorem dX13_keep_60 : decode cX13_keep 60 = .ok (.if_icmp .ge 30, 3) := by decide +kernel
theorem dX13_keep_63 : decode cX13_keep 63 = .ok (.aload_n 0, 1) := by decide +kernel
theorem dX13_keep_64 : decode cX13_keep 64 = .ok (.getfield 148, 3) := by decide +kernel
theorem dX13_keep_67 : decode cX13_keep 67 = .ok (.sipush 414, 3) := by decide +kernel
theorem dX13_keep_70 : decode cX13_keep 70 = .ok (.aload_n 0, 1) := by decide +kernel
theorem dX13_keep_71 : decode cX13_keep 71 = .ok (.getfield 348, 3) := by decide +kernel
theorem dX13_keep_74 : decode cX13_keep 74 = .ok (.imul, 1) := by decide +kernel
theorem dX13_keep_75 : decode cX13_keep 75 = .ok (.iload_n 1, 1) := by decide +kernel
theorem dX13_keep_76 : decode cX13_keep 76 = .ok (.iadd, 1) := by decide +kernel
theorem dX13_keep_77 : decode cX13_keep 77 = .ok (.aload_n 0, 1) := by decide +kernel
theorem dX13_keep_78 : decode cX13_keep 78 = .ok (.getfield 76, 3) := by decide +kernel
theorem dX13_keep_81 : decode cX13_keep 81 = .ok (.iload_n 1, 1) := by decide +kernel
theorem dX13_keep_82 : decode cX13_keep 82 = .ok (.iaload, 1) := by decide +kernel
theorem dX13_keep_83 : decode cX13_keep 83 = .ok (.iastore, 1) := by decide +kernel
theorem dX13_keep_84 : decode cX13_keep 84 = .ok (.iinc 1 1, 3) := by decide +kernel
theorem dX13_keep_87 : decode cX13_keep 87 = .ok (.goto (-31), 3) := by decide +kernel
theorem dX13_keep_90 : decode cX13_keep 90 = .ok (.aload_n 0, 1) := by decide +kernel
theorem dX13_keep_91 : decode cX13_keep 91 = .ok (.dup, 1) := by decide +kernel
theorem dX13_keep_92 : decode cX13_keep 92 = .ok (.getfield 348, 3) := by decide +kernel
theorem dX13_keep_95 : decode cX13_keep 95 = .ok (.iconst 1, 1) := by decide +kernel
theorem dX13_keep_96 : decode cX13_keep 96 = .ok (.iadd, 1) := by decide +kernel
theorem dX13_keep_97 : decode cX13_keep 97 = .ok (.putfield 348, 3) := by decide +kernel
theorem dX13_keep_100 : decode cX13_keep 100 = .ok (.return_, 1) := by decide +kernel
theorem dX13_steps_0 : decode cX13_steps 0 = .ok (.aload_n 0, 1) := by decide +kernel
theorem dX13_steps_1 : decode cX13_steps 1 = .ok (.iconst 0, 1) := by decide +kernel
theorem dX13_steps_2 : decode cX13_steps 2 = .ok (.putfield 187, 3) := by decide +kernel
theorem dX13_steps_5 : decode cX13_steps 5 = .ok (.aload_n 0, 1) := by decide +kernel
theorem dX13_steps_6 : decode cX13_steps 6 = .ok (.getfield 76, 3) := by decide +kernel
theorem dX13_steps_9 : decode cX13_steps 9 = .ok (.sipush 276, 3) := by decide +kernel
theorem dX13_steps_12 : decode cX13_steps 12 = .ok (.iaload, 1) := by decide +kernel
theorem dX13_steps_13 : decode cX13_steps 13 = .ok (.ifCond .ne 31, 3) := by decide +kernel
theorem dX13_steps_16 : decode cX13_steps 16 = .ok (.iload_n 1, 1) := by decide +kernel
theorem dX13_steps_17 : decode cX13_steps 17 = .ok (.i2l, 1) := by decide +kernel
theorem dX13_steps_18 : decode cX13_steps 18 = .ok (.lconst 1, 1) := by decide +kernel
theorem dX13_steps_19 : decode cX13_steps 19 = .ok (.ldc2_w 649, 3) := by decide +kernel
theorem dX13_steps_22 : decode cX13_steps 22 = .ok (.invokestatic 287, 3) := by decide +kernel
theorem dX13_steps_25 : decode cX13_steps 25 = .ok (.ifCond .eq 19, 3) := by decide +kernel
theorem dX13_steps_28 : decode cX13_steps 28 = .ok (.aload_n 0, 1) := by decide +kernel
theorem dX13_steps_29 : decode cX13_steps 29 = .ok (.getfield 76, 3) := by decide +kernel
theorem dX13_steps_32 : decode cX13_steps 32 = .ok (.sipush 277, 3) := by decide +kernel
theorem dX13_steps_35 : decode cX13_steps 35 = .ok (.iaload, 1) := by decide +kernel
theorem dX13_steps_36 : decode cX13_steps 36 = .ok (.iload_n 1, 1) := by decide +kernel
theorem dX13_steps_37 : decode cX13_steps 37 = .ok (.iadd, 1) := by decide +kernel
theorem dX13_steps_38 : decode cX13_steps 38 = .ok (.sipush 20000, 3) := by decide +kernel
theorem dX13_steps_41 : decode cX13_steps 41 = .ok (.if_icmp .le 9, 3) := by decide +kernel
theorem dX13_steps_44 : decode cX13_steps 44 = .ok (.aload_n 0, 1) := by decide +kernel
theorem dX13_steps_45 : decode cX13_steps 45 = .ok (.iconst 1, 1) := by decide +kernel
theorem dX13_steps_46 : decode cX13_steps 46 = .ok (.invokevirtual 651, 3) := by decide +kernel
theorem dX13_steps_49 : decode cX13_steps 49 = .ok (.ireturn, 1) := by decide +kernel
theorem dX13_steps_50 : decode cX13_steps 50 = .ok (.aload_n 0, 1) := by decide +kernel
theorem dX13_steps_51 : decode cX13_steps 51 = .ok (.invokevirtual 654, 3) := by decide +kernel
theorem dX13_steps_54 : decode cX13_steps 54 = .ok (.aload_n 0, 1) := by decide +kernel
theorem dX13_steps_55 : decode cX13_steps 55 = .ok (.getfield 76, 3) := by decide +kernel
theorem dX13_steps_58 : decode cX13_steps 58 = .ok (.sipush 277, 3) := by decide +kernel
theorem dX13_steps_61 : decode cX13_steps 61 = .ok (.iaload, 1) := by decide +kernel
theorem dX13_steps_62 : decode cX13_steps 62 = .ok (.istore_n 2, 1) := by decide +kernel
theorem dX13_steps_63 : decode cX13_steps 63 = .ok (.aload_n 0, 1) := by decide +kernel
theorem dX13_steps_64 : decode cX13_steps 64 = .ok (.iload_n 1, 1) := by decide +kernel
theorem dX13_steps_65 : decode cX13_steps 65 = .ok (.invokevirtual 657, 3) := by decide +kernel
theorem dX13_steps_68 : decode cX13_steps 68 = .ok (.aload_n 0, 1) := by decide +kernel
theorem dX13_steps_69 : decode cX13_steps 69 = .ok (.getfield 76, 3) := by decide +kernel
theorem dX13_steps_72 : decode cX13_steps 72 = .ok (.sipush 277, 3) := by decide +kernel
theorem dX13_steps_75 : decode cX13_steps 75 = .ok (.iaload, 1) := by decide +kernel
theorem dX13_steps_76 : decode cX13_steps 76 = .ok (.iload_n 2, 1) := by decide +kernel
theorem dX13_steps_77 : decode cX13_steps 77 = .ok (.isub, 1) := by decide +kernel
theorem dX13_steps_78 : decode cX13_steps 78 = .ok (.ireturn, 1) := by decide +kernel
theorem dX13_lay_0 : decode cX13_lay 0 = .ok (.aload_n 0, 1) := by decide +kernel
theorem dX13_lay_1 : decode cX13_lay 1 = .ok (.iconst 0, 1) := by decide +kernel
theorem dX13_lay_2 : decode cX13_lay 2 = .ok (.putfield 187, 3) := by decide +kernel
theorem dX13_lay_5 : decode cX13_lay 5 = .ok (.iload_n 1, 1) := by decide +kernel
theorem dX13_lay_6 : decode cX13_lay 6 = .ok (.i2l, 1) := by decide +kernel
theorem dX13_lay_7 : decode cX13_lay 7 = .ok (.lconst 0, 1) := by decide +kernel
theorem dX13_lay_8 : decode cX13_lay 8 = .ok (.ldc2_w 593, 3) := by decide +kernel
theorem dX13_lay_11 : decode cX13_lay 11 = .ok (.invokestatic 287, 3) := by decide +kernel
theorem dX13_lay_14 : decode cX13_lay 14 = .ok (.ifCond .eq 25, 3) := by decide +kernel
theorem dX13_lay_17 : decode cX13_lay 17 = .ok (.iload_n 2, 1) := by decide +kernel
theorem dX13_lay_18 : decode cX13_lay 18 = .ok (.i2l, 1) := by decide +kernel
theorem dX13_lay_19 : decode cX13_lay 19 = .ok (.lconst 0, 1) := by decide +kernel
theorem dX13_lay_20 : decode cX13_lay 20 = .ok (.ldc2_w 593, 3) := by decide +kernel
theorem dX13_lay_23 : decode cX13_lay 23 = .ok (.invokestatic 287, 3) := by decide +kernel
theorem dX13_lay_26 : decode cX13_lay 26 = .ok (.ifCond .eq 13, 3) := by decide +kernel
theorem dX13_lay_29 : decode cX13_lay 29 = .ok (.aload_n 0, 1) := by decide +kernel
theorem dX13_lay_30 : decode cX13_lay 30 = .ok (.getfield 76, 3) := by decide +kernel
theorem dX13_lay_33 : decode cX13_lay 33 = .ok (.iload_n 1, 1) := by decide +kernel
theorem dX13_lay_34 : decode cX13_lay 34 = .ok (.iaload, 1) := by decide +kernel
theorem dX13_lay_35 : decode cX13_lay 35 = .ok (.iload_n 2, 1) := by decide +kernel
theorem dX13_lay_36 : decode cX13_lay 36 = .ok (.if_icmp .ne 9, 3) := by decide +kernel
theorem dX13_lay_39 : decode cX13_lay 39 = .ok (.aload_n 0, 1) := by decide +kernel
theorem dX13_lay_40 : decode cX13_lay 40 = .ok (.iconst 1, 1) := by decide +kernel
theorem dX13_lay_41 : decode cX13_lay 41 = .ok (.invokevirtual 651, 3) := by decide +kernel
theorem dX13_lay_44 : decode cX13_lay 44 = .ok (.ireturn, 1) := by decide +kernel
theorem dX13_lay_45 : decode cX13_lay 45 = .ok (.aload_n 0, 1) := by decide +kernel
theorem dX13_lay_46 : decode cX13_lay 46 = .ok (.invokevirtual 654, 3) := by decide +kernel
theorem dX13_lay_49 : decode cX13_lay 49 = .ok (.aload_n 0, 1) := by decide +kernel
theorem dX13_lay_50 : decode cX13_lay 50 = .ok (.getfield 76, 3) := by decide +kernel
theorem dX13_lay_53 : decode cX13_lay 53 = .ok (.iload_n 1, 1) := by decide +kernel
theorem dX13_lay_54 : decode cX13_lay 54 = .ok (.iaload, 1) := by decide +kernel
theorem dX13_lay_55 : decode cX13_lay 55 = .ok (.istore_n 3, 1) := by decide +kernel
theorem dX13_lay_56 : decode cX13_lay 56 = .ok (.aload_n 0, 1) := by decide +kernel
theorem dX13_lay_57 : decode cX13_lay 57 = .ok (.getfield 76, 3) := by decide +kernel
theorem dX13_lay_60 : decode cX13_lay 60 = .ok (.iload_n 1, 1) := by decide +kernel
theorem dX13_lay_61 : decode cX13_lay 61 = .ok (.iload_n 2, 1) := by decide +kernel
theorem dX13_lay_62 : decode cX13_lay 62 = .ok (.iastore, 1) := by decide +kernel
theorem dX13_lay_63 : decode cX13_lay 63 = .ok (.iload_n 3, 1) := by decide +kernel
theorem dX13_lay_64 : decode cX13_lay 64 = .ok (.ireturn, 1) := by decide +kernel
theorem dX13_set_0 : decode cX13_set 0 = .ok (.aload_n 0, 1) := by decide +kernel
theorem dX13_set_1 : decode cX13_set 1 = .ok (.iconst 0, 1) := by decide +kernel
theorem dX13_set_2 : decode cX13_set 2 = .ok (.putfield 187, 3) := by decide +kernel
theorem dX13_set_5 : decode cX13_set 5 = .ok (.iload_n 1, 1) := by decide +kernel
theorem dX13_set_6 : decode cX13_set 6 = .ok (.i2l, 1) := by decide +kernel
theorem dX13_set_7 : decode cX13_set 7 = .ok (.lconst 0, 1) := by decide +kernel
theorem dX13_set_8 : decode cX13_set 8 = .ok (.ldc2_w 595, 3) := by decide +kernel
theorem dX13_set_11 : decode cX13_set 11 = .ok (.invokestatic 287, 3) := by decide +kernel
theorem dX13_set_14 : decode cX13_set 14 = .ok (.ifCond .eq 17, 3) := by decide +kernel
theorem dX13_set_17 : decode cX13_set 17 = .ok (.aload_n 0, 1) := by decide +kernel
theorem dX13_set_18 : decode cX13_set 18 = .ok (.getfield 76, 3) := by decide +kernel
theorem dX13_set_21 : decode cX13_set 21 = .ok (.sipush 256, 3) := by decide +kernel
theorem dX13_set_24 : decode cX13_set 24 = .ok (.iload_n 1, 1) := by decide +kernel
theorem dX13_set_25 : decode cX13_set 25 = .ok (.iadd, 1) := by decide +kernel
theorem dX13_set_26 : decode cX13_set 26 = .ok (.iaload, 1) := by decide +kernel
theorem dX13_set_27 : decode cX13_set 27 = .ok (.iload_n 2, 1) := by decide +kernel
theorem dX13_set_28 : decode cX13_set 28 = .ok (.if_icmp .ne 11, 3) := by decide +kernel
theorem dX13_set_31 : decode cX13_set 31 = .ok (.aload_n 0, 1) := by decide +kernel
theorem dX13_set_32 : decode cX13_set 32 = .ok (.iconst 1, 1) := by decide +kernel
theorem dX13_set_33 : decode cX13_set 33 = .ok (.invokevirtual 651, 3) := by decide +kernel
theorem dX13_set_36 : decode cX13_set 36 = .ok (.pop, 1) := by decide +kernel
theorem dX13_set_37 : decode cX13_set 37 = .ok (.iconst 0, 1) := by decide +kernel
theorem dX13_set_38 : decode cX13_set 38 = .ok (.ireturn, 1) := by decide +kernel
theorem dX13_set_39 : decode cX13_set 39 = .ok (.aload_n 0, 1) := by decide +kernel
theorem dX13_set_40 : decode cX13_set 40 = .ok (.invokevirtual 654, 3) := by decide +kernel
theorem dX13_set_43 : decode cX13_set 43 = .ok (.aload_n 0, 1) := by decide +kernel
theorem dX13_set_44 : decode cX13_set 44 = .ok (.getfield 76, 3) := by decide +kernel
theorem dX13_set_47 : decode cX13_set 47 = .ok (.sipush 256, 3) := by decide +kernel
theorem dX13_set_50 : decode cX13_set 50 = .ok (.iload_n 1, 1) := by decide +kernel
theorem dX13_set_51 : decode cX13_set 51 = .ok (.iadd, 1) := by decide +kernel
theorem dX13_set_52 : decode cX13_set 52 = .ok (.iload_n 2, 1) := by decide +kernel
theorem dX13_set_53 : decode cX13_set 53 = .ok (.iastore, 1) := by decide +kernel
theorem dX13_set_54 : decode cX13_set 54 = .ok (.iconst 1, 1) := by decide +kernel
theorem dX13_set_55 : decode cX13_set 55 = .ok (.ireturn, 1) := by decide +kernel
theorem dX13_next_0 : decode cX13_next 0 = .ok (.aload_n 0, 1) := by decide +kernel
theorem dX13_next_1 : decode cX13_next 1 = .ok (.iconst 0, 1) := by decide +kernel
theorem dX13_next_2 : decode cX13_next 2 = .ok (.putfield 187, 3) := by decide +kernel
theorem dX13_next_5 : decode cX13_next 5 = .ok (.iload_n 1, 1) := by decide +kernel
theorem dX13_next_6 : decode cX13_next 6 = .ok (.i2l, 1) := by decide +kernel
theorem dX13_next_7 : decode cX13_next 7 = .ok (.lconst 0, 1) := by decide +kernel
theorem dX13_next_8 : decode cX13_next 8 = .ok (.aload_n 0, 1) := by decide +kernel
theorem dX13_next_9 : decode cX13_next 9 = .ok (.getfield 345, 3) := by decide +kernel
theorem dX13_next_12 : decode cX13_next 12 = .ok (.i2l, 1) := by decide +kernel
theorem dX13_next_13 : decode cX13_next 13 = .ok (.invokestatic 287, 3) := by decide +kernel
theorem dX13_next_16 : decode cX13_next 16 = .ok (.ifCond .ne 9, 3) := by decide +kernel
theorem dX13_next_19 : decode cX13_next 19 = .ok (.aload_n 0, 1) := by decide +kernel
theorem dX13_next_20 : decode cX13_next 20 = .ok (.iconst 1, 1) := by decide +kernel
theorem dX13_next_21 : decode cX13_next 21 = .ok (.invokevirtual 651, 3) := by decide +kernel
theorem dX13_next_24 : decode cX13_next 24 = .ok (.ireturn, 1) := by decide +kernel
theorem dX13_next_25 : decode cX13_next 25 = .ok (.aload_n 0, 1) := by decide +kernel
theorem dX13_next_26 : decode cX13_next 26 = .ok (.invokevirtual 654, 3) := by decide +kernel
theorem dX13_next_29 : decode cX13_next 29 = .ok (.aload_n 0, 1) := by decide +kernel
theorem dX13_next_30 : decode cX13_next 30 = .ok (.getfield 76, 3) := by decide +kernel
theorem dX13_next_33 : decode cX13_next 33 = .ok (.sipush 265, 3) := by decide +kernel
theorem dX13_next_36 : decode cX13_next 36 = .ok (.iload_n 1, 1) := by decide +kernel
theorem dX13_next_37 : decode cX13_next 37 = .ok (.iastore, 1) := by decide +kernel
theorem dX13_next_38 : decode cX13_next 38 = .ok (.aload_n 0, 1) := by decide +kernel
theorem dX13_next_39 : decode cX13_next 39 = .ok (.getfield 76, 3) := by decide +kernel
theorem dX13_next_42 : decode cX13_next 42 = .ok (.sipush 276, 3) := by decide +kernel
theorem dX13_next_45 : decode cX13_next 45 = .ok (.iload_n 1, 1) := by decide +kernel
theorem dX13_next_46 : decode cX13_next 46 = .ok (.aload_n 0, 1) := by decide +kernel
theorem dX13_next_47 : decode cX13_next 47 = .ok (.getfield 345, 3) := by decide +kernel
theorem dX13_next_50 : decode cX13_next 50 = .ok (.if_icmp .ne 7, 3) := by decide +kernel
theorem dX13_next_53 : decode cX13_next 53 = .ok (.iconst 1, 1) := by decide +kernel
theorem dX13_next_54 : decode cX13_next 54 = .ok (.goto 4, 3) := by decide +kernel
theorem dX13_next_57 : decode cX13_next 57 = .ok (.iconst 0, 1) := by decide +kernel
theorem dX13_next_58 : decode cX13_next 58 = .ok (.iastore, 1) := by decide +kernel
theorem dX13_next_59 : decode cX13_next 59 = .ok (.aload_n 0, 1) := by decide +kernel
theorem dX13_next_60 : decode cX13_next 60 = .ok (.getfield 76, 3) := by decide +kernel
theorem dX13_next_63 : decode cX13_next 63 = .ok (.sipush 276, 3) := by decide +kernel
theorem dX13_next_66 : decode cX13_next 66 = .ok (.iaload, 1) := by decide +kernel
theorem dX13_next_67 : decode cX13_next 67 = .ok (.ireturn, 1) := by decide +kernel
theorem dX13_begin_0 : decode cX13_begin 0 = .ok (.aload_n 0, 1) := by decide +kernel
theorem dX13_begin_1 : decode cX13_begin 1 = .ok (.iconst 0, 1) := by decide +kernel
theorem dX13_begin_2 : decode cX13_begin 2 = .ok (.putfield 187, 3) := by decide +kernel
theorem dX13_begin_5 : decode cX13_begin 5 = .ok (.aload_n 0, 1) := by decide +kernel
theorem dX13_begin_6 : decode cX13_begin 6 = .ok (.invokevirtual 654, 3) := by decide +kernel
theorem dX13_begin_9 : decode cX13_begin 9 = .ok (.aload_n 0, 1) := by decide +kernel
theorem dX13_begin_10 : decode cX13_begin 10 = .ok (.invokevirtual 184, 3) := by decide +kernel
theorem dX13_begin_13 : decode cX13_begin 13 = .ok (.aload_n 0, 1) := by decide +kernel
theorem dX13_begin_14 : decode cX13_begin 14 = .ok (.getfield 76, 3) := by decide +kernel
theorem dX13_begin_17 : decode cX13_begin 17 = .ok (.sipush 276, 3) := by decide +kernel
theorem dX13_begin_20 : decode cX13_begin 20 = .ok (.iaload, 1) := by decide +kernel
theorem dX13_begin_21 : decode cX13_begin 21 = .ok (.ireturn, 1) := by decide +kernel
theorem dX13_undo_0 : decode cX13_undo 0 = .ok (.aload_n 0, 1) := by decide +kernel
theorem dX13_undo_1 : decode cX13_undo 1 = .ok (.iconst 0, 1) := by decide +kernel
theorem dX13_undo_2 : decode cX13_undo 2 = .ok (.putfield 187, 3) := by decide +kernel
theorem dX13_undo_5 : decode cX13_undo 5 = .ok (.aload_n 0, 1) := by decide +kernel
theorem dX13_undo_6 : decode cX13_undo 6 = .ok (.getfield 348, 3) := by decide +kernel
theorem dX13_undo_9 : decode cX13_undo 9 = .ok (.ifCond .ne 5, 3) := by decide +kernel
theorem dX13_undo_12 : decode cX13_undo 12 = .ok (.iconst (-1), 1) := by decide +kernel
theorem dX13_undo_13 : decode cX13_undo 13 = .ok (.ireturn, 1) := by decide +kernel
theorem dX13_undo_14 : decode cX13_undo 14 = .ok (.aload_n 0, 1) := by decide +kernel
theorem dX13_undo_15 : decode cX13_undo 15 = .ok (.dup, 1) := by decide +kernel
theorem dX13_undo_16 : decode cX13_undo 16 = .ok (.getfield 348, 3) := by decide +kernel
theorem dX13_undo_19 : decode cX13_undo 19 = .ok (.iconst 1, 1) := by decide +kernel
theorem dX13_undo_20 : decode cX13_undo 20 = .ok (.isub, 1) := by decide +kernel
theorem dX13_undo_21 : decode cX13_undo 21 = .ok (.putfield 348, 3) := by decide +kernel
theorem dX13_undo_24 : decode cX13_undo 24 = .ok (.iconst 0, 1) := by decide +kernel
theorem dX13_undo_25 : decode cX13_undo 25 = .ok (.istore_n 1, 1) := by decide +kernel
theorem dX13_undo_26 : decode cX13_undo 26 = .ok (.iload_n 1, 1) := by decide +kernel
theorem dX13_undo_27 : decode cX13_undo 27 = .ok (.sipush 414, 3) := by decide +kernel
theorem dX13_undo_30 : decode cX13_undo 30 = .ok (.if_icmp .ge 30, 3) := by decide +kernel
theorem dX13_undo_33 : decode cX13_undo 33 = .ok (.aload_n 0, 1) := by decide +kernel
theorem dX13_undo_34 : decode cX13_undo 34 = .ok (.getfield 76, 3) := by decide +kernel
theorem dX13_undo_37 : decode cX13_undo 37 = .ok (.iload_n 1, 1) := by decide +kernel
theorem dX13_undo_38 : decode cX13_undo 38 = .ok (.aload_n 0, 1) := by decide +kernel
theorem dX13_undo_39 : decode cX13_undo 39 = .ok (.getfield 148, 3) := by decide +kernel
theorem dX13_undo_42 : decode cX13_undo 42 = .ok (.sipush 414, 3) := by decide +kernel
theorem dX13_undo_45 : decode cX13_undo 45 = .ok (.aload_n 0, 1) := by decide +kernel
theorem dX13_undo_46 : decode cX13_undo 46 = .ok (.getfield 348, 3) := by decide +kernel
theorem dX13_undo_49 : decode cX13_undo 49 = .ok (.imul, 1) := by decide +kernel
theorem dX13_undo_50 : decode cX13_undo 50 = .ok (.iload_n 1, 1) := by decide +kernel
theorem dX13_undo_51 : decode cX13_undo 51 = .ok (.iadd, 1) := by decide +kernel
theorem dX13_undo_52 : decode cX13_undo 52 = .ok (.iaload, 1) := by decide +kernel
theorem dX13_undo_53 : decode cX13_undo 53 = .ok (.iastore, 1) := by decide +kernel
theorem dX13_undo_54 : decode cX13_undo 54 = .ok (.iinc 1 1, 3) := by decide +kernel
theorem dX13_undo_57 : decode cX13_undo 57 = .ok (.goto (-31), 3) := by decide +kernel
theorem dX13_undo_60 : decode cX13_undo 60 = .ok (.aload_n 0, 1) := by decide +kernel
theorem dX13_undo_61 : decode cX13_undo 61 = .ok (.getfield 348, 3) := by decide +kernel
theorem dX13_undo_64 : decode cX13_undo 64 = .ok (.ireturn, 1) := by decide +kernel
theorem dX13_rememberNow_0 : decode cX13_rememberNow 0 = .ok (.aload_n 0, 1) := by decide +kernel
theorem dX13_rememberNow_1 : decode cX13_rememberNow 1 = .ok (.getfield 151, 3) := by decide +kernel
theorem dX13_rememberNow_4 : decode cX13_rememberNow 4 = .ok (.aload_n 0, 1) := by decide +kernel
theorem dX13_rememberNow_5 : decode cX13_rememberNow 5 = .ok (.getfield 76, 3) := by decide +kernel
theorem dX13_rememberNow_8 : decode cX13_rememberNow 8 = .ok (.invokestatic 660, 3) := by decide +kernel
theorem dX13_rememberNow_11 : decode cX13_rememberNow 11 = .ok (.return_, 1) := by decide +kernel
theorem dX13_back_0 : decode cX13_back 0 = .ok (.aload_n 0, 1) := by decide +kernel
theorem dX13_back_1 : decode cX13_back 1 = .ok (.getfield 76, 3) := by decide +kernel
theorem dX13_back_4 : decode cX13_back 4 = .ok (.aload_n 0, 1) := by decide +kernel
theorem dX13_back_5 : decode cX13_back 5 = .ok (.getfield 151, 3) := by decide +kernel
theorem dX13_back_8 : decode cX13_back 8 = .ok (.invokestatic 660, 3) := by decide +kernel
theorem dX13_back_11 : decode cX13_back 11 = .ok (.iload_n 1, 1) := by decide +kernel
theorem dX13_back_12 : decode cX13_back 12 = .ok (.ireturn, 1) := by decide +kernel
theorem dX13_behind_0 : decode cX13_behind 0 = .ok (.aload_n 0, 1) := by decide +kernel
theorem dX13_behind_1 : decode cX13_behind 1 = .ok (.invokevirtual 664, 3) := by decide +kernel
theorem dX13_behind_4 : decode cX13_behind 4 = .ok (.aload_n 0, 1) := by decide +kernel
theorem dX13_behind_5 : decode cX13_behind 5 = .ok (.iload_n 1, 1) := by decide +kernel
theorem dX13_behind_6 : decode cX13_behind 6 = .ok (.invokevirtual 657, 3) := by decide +kernel
theorem dX13_behind_9 : decode cX13_behind 9 = .ok (.aload_n 0, 1) := by decide +kernel
theorem dX13_behind_10 : decode cX13_behind 10 = .ok (.aload_n 0, 1) := by decide +kernel
theorem dX13_behind_11 : decode cX13_behind 11 = .ok (.getfield 76, 3) := by decide +kernel
theorem dX13_behind_14 : decode cX13_behind 14 = .ok (.iload_n 2, 1) := by decide +kernel
theorem dX13_behind_15 : decode cX13_behind 15 = .ok (.iaload, 1) := by decide +kernel
theorem dX13_behind_16 : decode cX13_behind 16 = .ok (.invokevirtual 667, 3) := by decide +kernel
theorem dX13_behind_19 : decode cX13_behind 19 = .ok (.ireturn, 1) := by decide +kernel
theorem dX13_then_0 : decode cX13_then 0 = .ok (.aload_n 0, 1) := by decide +kernel
theorem dX13_then_1 : decode cX13_then 1 = .ok (.iconst 0, 1) := by decide +kernel
theorem dX13_then_2 : decode cX13_then 2 = .ok (.putfield 187, 3) := by decide +kernel
theorem dX13_then_5 : decode cX13_then 5 = .ok (.iload_n 2, 1) := by decide +kernel
theorem dX13_then_6 : decode cX13_then 6 = .ok (.i2l, 1) := by decide +kernel
theorem dX13_then_7 : decode cX13_then 7 = .ok (.lconst 0, 1) := by decide +kernel
theorem dX13_then_8 : decode cX13_then 8 = .ok (.ldc2_w 593, 3) := by decide +kernel
theorem dX13_then_11 : decode cX13_then 11 = .ok (.invokestatic 287, 3) := by decide +kernel
theorem dX13_then_14 : decode cX13_then 14 = .ok (.ifCond .ne 9, 3) := by decide +kernel
theorem dX13_then_17 : decode cX13_then 17 = .ok (.aload_n 0, 1) := by decide +kernel
theorem dX13_then_18 : decode cX13_then 18 = .ok (.iconst 1, 1) := by decide +kernel
theorem dX13_then_19 : decode cX13_then 19 = .ok (.invokevirtual 329, 3) := by decide +kernel
theorem dX13_then_22 : decode cX13_then 22 = .ok (.ireturn, 1) := by decide +kernel
theorem dX13_then_23 : decode cX13_then 23 = .ok (.iload_n 1, 1) := by decide +kernel
theorem dX13_then_24 : decode cX13_then 24 = .ok (.i2l, 1) := by decide +kernel
theorem dX13_then_25 : decode cX13_then 25 = .ok (.lconst 0, 1) := by decide +kernel
theorem dX13_then_26 : decode cX13_then 26 = .ok (.ldc2_w 669, 3) := by decide +kernel
theorem dX13_then_29 : decode cX13_then 29 = .ok (.invokestatic 287, 3) := by decide +kernel
theorem dX13_then_32 : decode cX13_then 32 = .ok (.ifCond .eq 12, 3) := by decide +kernel
theorem dX13_then_35 : decode cX13_then 35 = .ok (.aload_n 0, 1) := by decide +kernel
theorem dX13_then_36 : decode cX13_then 36 = .ok (.iload_n 1, 1) := by decide +kernel
theorem dX13_then_37 : decode cX13_then 37 = .ok (.iload_n 2, 1) := by decide +kernel
theorem dX13_then_38 : decode cX13_then 38 = .ok (.invokevirtual 671, 3) := by decide +kernel
theorem dX13_then_41 : decode cX13_then 41 = .ok (.goto 8, 3) := by decide +kernel
theorem dX13_then_44 : decode cX13_then 44 = .ok (.aload_n 0, 1) := by decide +kernel
theorem dX13_then_45 : decode cX13_then 45 = .ok (.iconst 2, 1) := by decide +kernel
theorem dX13_then_46 : decode cX13_then 46 = .ok (.invokevirtual 329, 3) := by decide +kernel
theorem dX13_then_49 : decode cX13_then 49 = .ok (.ireturn, 1) := by decide +kernel
theorem dX13_holds_0 : decode cX13_holds 0 = .ok (.aload_n 0, 1) := by decide +kernel
theorem dX13_holds_1 : decode cX13_holds 1 = .ok (.iconst 0, 1) := by decide +kernel
theorem dX13_holds_2 : decode cX13_holds 2 = .ok (.putfield 187, 3) := by decide +kernel
theorem dX13_holds_5 : decode cX13_holds 5 = .ok (.iload_n 2, 1) := by decide +kernel
theorem dX13_holds_6 : decode cX13_holds 6 = .ok (.i2l, 1) := by decide +kernel
theorem dX13_holds_7 : decode cX13_holds 7 = .ok (.lconst 0, 1) := by decide +kernel
theorem dX13_holds_8 : decode cX13_holds 8 = .ok (.ldc2_w 595, 3) := by decide +kernel
theorem dX13_holds_11 : decode cX13_holds 11 = .ok (.invokestatic 287, 3) := by decide +kernel
theorem dX13_holds_14 : decode cX13_holds 14 = .ok (.ifCond .ne 9, 3) := by decide +kernel
theorem dX13_holds_17 : decode cX13_holds 17 = .ok (.aload_n 0, 1) := by decide +kernel
theorem dX13_holds_18 : decode cX13_holds 18 = .ok (.iconst 1, 1) := by decide +kernel
theorem dX13_holds_19 : decode cX13_holds 19 = .ok (.invokevirtual 329, 3) := by decide +kernel
theorem dX13_holds_22 : decode cX13_holds 22 = .ok (.ireturn, 1) := by decide +kernel
theorem dX13_holds_23 : decode cX13_holds 23 = .ok (.iload_n 1, 1) := by decide +kernel
theorem dX13_holds_24 : decode cX13_holds 24 = .ok (.i2l, 1) := by decide +kernel
theorem dX13_holds_25 : decode cX13_holds 25 = .ok (.lconst 0, 1) := by decide +kernel
theorem dX13_holds_26 : decode cX13_holds 26 = .ok (.ldc2_w 669, 3) := by decide +kernel
theorem dX13_holds_29 : decode cX13_holds 29 = .ok (.invokestatic 287, 3) := by decide +kernel
theorem dX13_holds_32 : decode cX13_holds 32 = .ok (.ifCond .eq 16, 3) := by decide +kernel
theorem dX13_holds_35 : decode cX13_holds 35 = .ok (.aload_n 0, 1) := by decide +kernel
theorem dX13_holds_36 : decode cX13_holds 36 = .ok (.iload_n 1, 1) := by decide +kernel
theorem dX13_holds_37 : decode cX13_holds 37 = .ok (.sipush 256, 3) := by decide +kernel
theorem dX13_holds_40 : decode cX13_holds 40 = .ok (.iload_n 2, 1) := by decide +kernel
theorem dX13_holds_41 : decode cX13_holds 41 = .ok (.iadd, 1) := by decide +kernel
theorem dX13_holds_42 : decode cX13_holds 42 = .ok (.invokevirtual 671, 3) := by decide +kernel
theorem dX13_holds_45 : decode cX13_holds 45 = .ok (.goto 8, 3) := by decide +kernel
theorem dX13_holds_48 : decode cX13_holds 48 = .ok (.aload_n 0, 1) := by decide +kernel
theorem dX13_holds_49 : decode cX13_holds 49 = .ok (.iconst 2, 1) := by decide +kernel
theorem dX13_holds_50 : decode cX13_holds 50 = .ok (.invokevirtual 329, 3) := by decide +kernel
theorem dX13_holds_53 : decode cX13_holds 53 = .ok (.ireturn, 1) := by decide +kernel
theorem dX13_where_0 : decode cX13_where 0 = .ok (.aload_n 0, 1) := by decide +kernel
theorem dX13_where_1 : decode cX13_where 1 = .ok (.iconst 0, 1) := by decide +kernel
theorem dX13_where_2 : decode cX13_where 2 = .ok (.putfield 187, 3) := by decide +kernel
theorem dX13_where_5 : decode cX13_where 5 = .ok (.iload_n 2, 1) := by decide +kernel
theorem dX13_where_6 : decode cX13_where 6 = .ok (.i2l, 1) := by decide +kernel
theorem dX13_where_7 : decode cX13_where 7 = .ok (.lconst 0, 1) := by decide +kernel
theorem dX13_where_8 : decode cX13_where 8 = .ok (.ldc2_w 451, 3) := by decide +kernel
theorem dX13_where_11 : decode cX13_where 11 = .ok (.invokestatic 287, 3) := by decide +kernel
theorem dX13_where_14 : decode cX13_where 14 = .ok (.ifCond .ne 9, 3) := by decide +kernel
theorem dX13_where_17 : decode cX13_where 17 = .ok (.aload_n 0, 1) := by decide +kernel
theorem dX13_where_18 : decode cX13_where 18 = .ok (.iconst 1, 1) := by decide +kernel
theorem dX13_where_19 : decode cX13_where 19 = .ok (.invokevirtual 329, 3) := by decide +kernel
theorem dX13_where_22 : decode cX13_where 22 = .ok (.ireturn, 1) := by decide +kernel
theorem dX13_where_23 : decode cX13_where 23 = .ok (.iload_n 1, 1) := by decide +kernel
theorem dX13_where_24 : decode cX13_where 24 = .ok (.i2l, 1) := by decide +kernel
theorem dX13_where_25 : decode cX13_where 25 = .ok (.lconst 0, 1) := by decide +kernel
theorem dX13_where_26 : decode cX13_where 26 = .ok (.ldc2_w 669, 3) := by decide +kernel
theorem dX13_where_29 : decode cX13_where 29 = .ok (.invokestatic 287, 3) := by decide +kernel
theorem dX13_where_32 : decode cX13_where 32 = .ok (.ifCond .eq 46, 3) := by decide +kernel
theorem dX13_where_35 : decode cX13_where 35 = .ok (.aload_n 0, 1) := by decide +kernel
theorem dX13_where_36 : decode cX13_where 36 = .ok (.iload_n 1, 1) := by decide +kernel
theorem dX13_where_37 : decode cX13_where 37 = .ok (.iload_n 2, 1) := by decide +kernel
theorem dX13_where_38 : decode cX13_where 38 = .ok (.ifCond .ne 9, 3) := by decide +kernel
theorem dX13_where_41 : decode cX13_where 41 = .ok (.sipush 265, 3) := by decide +kernel
theorem dX13_where_44 : decode cX13_where 44 = .ok (.goto 28, 3) := by decide +kernel
theorem dX13_where_47 : decode cX13_where 47 = .ok (.iload_n 2, 1) := by decide +kernel
theorem dX13_where_48 : decode cX13_where 48 = .ok (.iconst 1, 1) := by decide +kernel
theorem dX13_where_49 : decode cX13_where 49 = .ok (.if_icmp .ne 9, 3) := by decide +kernel
theorem dX13_where_52 : decode cX13_where 52 = .ok (.sipush 264, 3) := by decide +kernel
theorem dX13_where_55 : decode cX13_where 55 = .ok (.goto 17, 3) := by decide +kernel
theorem dX13_where_58 : decode cX13_where 58 = .ok (.iload_n 2, 1) := by decide +kernel
theorem dX13_where_59 : decode cX13_where 59 = .ok (.iconst 2, 1) := by decide +kernel
theorem dX13_where_60 : decode cX13_where 60 = .ok (.if_icmp .ne 9, 3) := by decide +kernel
theorem dX13_where_63 : decode cX13_where 63 = .ok (.sipush 276, 3) := by decide +kernel
theorem dX13_where_66 : decode cX13_where 66 = .ok (.goto 6, 3) := by decide +kernel
theorem dX13_where_69 : decode cX13_where 69 = .ok (.sipush 278, 3) := by decide +kernel
theorem dX13_where_72 : decode cX13_where 72 = .ok (.invokevirtual 671, 3) := by decide +kernel
theorem dX13_where_75 : decode cX13_where 75 = .ok (.goto 8, 3) := by decide +kernel
theorem dX13_where_78 : decode cX13_where 78 = .ok (.aload_n 0, 1) := by decide +kernel
theorem dX13_where_79 : decode cX13_where 79 = .ok (.iconst 2, 1) := by decide +kernel
theorem dX13_where_80 : decode cX13_where 80 = .ok (.invokevirtual 329, 3) := by decide +kernel
theorem dX13_where_83 : decode cX13_where 83 = .ok (.ireturn, 1) := by decide +kernel
theorem dX13_faults_0 : decode cX13_faults 0 = .ok (.aload_n 0, 1) := by decide +kernel
theorem dX13_faults_1 : decode cX13_faults 1 = .ok (.iconst 0, 1) := by decide +kernel
theorem dX13_faults_2 : decode cX13_faults 2 = .ok (.putfield 187, 3) := by decide +kernel
theorem dX13_faults_5 : decode cX13_faults 5 = .ok (.iload_n 1, 1) := by decide +kernel
theorem dX13_faults_6 : decode cX13_faults 6 = .ok (.i2l, 1) := by decide +kernel
theorem dX13_faults_7 : decode cX13_faults 7 = .ok (.lconst 1, 1) := by decide +kernel
theorem dX13_faults_8 : decode cX13_faults 8 = .ok (.ldc2_w 446, 3) := by decide +kernel
theorem dX13_faults_11 : decode cX13_faults 11 = .ok (.invokestatic 287, 3) := by decide +kernel
theorem dX13_faults_14 : decode cX13_faults 14 = .ok (.ifCond .ne 9, 3) := by decide +kernel
theorem dX13_faults_17 : decode cX13_faults 17 = .ok (.aload_n 0, 1) := by decide +kernel
theorem dX13_faults_18 : decode cX13_faults 18 = .ok (.iconst 1, 1) := by decide +kernel
theorem dX13_faults_19 : decode cX13_faults 19 = .ok (.invokevirtual 329, 3) := by decide +kernel
theorem dX13_faults_22 : decode cX13_faults 22 = .ok (.ireturn, 1) := by decide +kernel
theorem dX13_faults_23 : decode cX13_faults 23 = .ok (.aload_n 0, 1) := by decide +kernel
theorem dX13_faults_24 : decode cX13_faults 24 = .ok (.invokevirtual 664, 3) := by decide +kernel
theorem dX13_faults_27 : decode cX13_faults 27 = .ok (.iconst 1, 1) := by decide +kernel
theorem dX13_faults_28 : decode cX13_faults 28 = .ok (.istore_n 2, 1) := by decide +kernel
theorem dX13_faults_29 : decode cX13_faults 29 = .ok (.iload_n 2, 1) := by decide +kernel
theorem dX13_faults_30 : decode cX13_faults 30 = .ok (.bipush 100, 2) := by decide +kernel
theorem dX13_faults_32 : decode cX13_faults 32 = .ok (.if_icmp .gt 52, 3) := by decide +kernel
theorem dX13_faults_35 : decode cX13_faults 35 = .ok (.aload_n 0, 1) := by decide +kernel
theorem dX13_faults_36 : decode cX13_faults 36 = .ok (.getfield 76, 3) := by decide +kernel
theorem dX13_faults_39 : decode cX13_faults 39 = .ok (.sipush 278, 3) := by decide +kernel
theorem dX13_faults_42 : decode cX13_faults 42 = .ok (.iaload, 1) := by decide +kernel
theorem dX13_faults_43 : decode cX13_faults 43 = .ok (.istore_n 3, 1) := by decide +kernel
theorem dX13_faults_44 : decode cX13_faults 44 = .ok (.aload_n 0, 1) := by decide +kernel
theorem dX13_faults_45 : decode cX13_faults 45 = .ok (.invokevirtual 587, 3) := by decide +kernel
theorem dX13_faults_48 : decode cX13_faults 48 = .ok (.aload_n 0, 1) := by decide +kernel
theorem dX13_faults_49 : decode cX13_faults 49 = .ok (.getfield 76, 3) := by decide +kernel
theorem dX13_faults_52 : decode cX13_faults 52 = .ok (.sipush 278, 3) := by decide +kernel
theorem dX13_faults_55 : decode cX13_faults 55 = .ok (.iaload, 1) := by decide +kernel
theorem dX13_faults_56 : decode cX13_faults 56 = .ok (.iload_n 3, 1) := by decide +kernel
theorem dX13_faults_57 : decode cX13_faults 57 = .ok (.if_icmp .le 21, 3) := by decide +kernel
theorem dX13_faults_60 : decode cX13_faults 60 = .ok (.aload_n 0, 1) := by decide +kernel
theorem dX13_faults_61 : decode cX13_faults 61 = .ok (.getfield 76, 3) := by decide +kernel
theorem dX13_faults_64 : decode cX13_faults 64 = .ok (.sipush 280, 3) := by decide +kernel
theorem dX13_faults_67 : decode cX13_faults 67 = .ok (.iaload, 1) := by decide +kernel
theorem dX13_faults_68 : decode cX13_faults 68 = .ok (.iload_n 1, 1) := by decide +kernel
theorem dX13_faults_69 : decode cX13_faults 69 = .ok (.if_icmp .ne 9, 3) := by decide +kernel
theorem dX13_faults_72 : decode cX13_faults 72 = .ok (.aload_n 0, 1) := by decide +kernel
theorem dX13_faults_73 : decode cX13_faults 73 = .ok (.iload_n 2, 1) := by decide +kernel
theorem dX13_faults_74 : decode cX13_faults 74 = .ok (.invokevirtual 667, 3) := by decide +kernel
theorem dX13_faults_77 : decode cX13_faults 77 = .ok (.ireturn, 1) := by decide +kernel
theorem dX13_faults_78 : decode cX13_faults 78 = .ok (.iinc 2 1, 3) := by decide +kernel
theorem dX13_faults_81 : decode cX13_faults 81 = .ok (.goto (-52), 3) := by decide +kernel
theorem dX13_faults_84 : decode cX13_faults 84 = .ok (.aload_n 0, 1) := by decide +kernel
theorem dX13_faults_85 : decode cX13_faults 85 = .ok (.iconst (-1), 1) := by decide +kernel
theorem dX13_faults_86 : decode cX13_faults 86 = .ok (.invokevirtual 667, 3) := by decide +kernel
theorem dX13_faults_89 : decode cX13_faults 89 = .ok (.ireturn, 1) := by decide +kernel
theorem dX13_halts_0 : decode cX13_halts 0 = .ok (.aload_n 0, 1) := by decide +kernel
theorem dX13_halts_1 : decode cX13_halts 1 = .ok (.iconst 0, 1) := by decide +kernel
theorem dX13_halts_2 : decode cX13_halts 2 = .ok (.putfield 187, 3) := by decide +kernel
theorem dX13_halts_5 : decode cX13_halts 5 = .ok (.aload_n 0, 1) := by decide +kernel
theorem dX13_halts_6 : decode cX13_halts 6 = .ok (.invokevirtual 664, 3) := by decide +kernel
theorem dX13_halts_9 : decode cX13_halts 9 = .ok (.iconst 0, 1) := by decide +kernel
theorem dX13_halts_10 : decode cX13_halts 10 = .ok (.istore_n 1, 1) := by decide +kernel
theorem dX13_halts_11 : decode cX13_halts 11 = .ok (.iload_n 1, 1) := by decide +kernel
theorem dX13_halts_12 : decode cX13_halts 12 = .ok (.bipush 100, 2) := by decide +kernel
theorem dX13_halts_14 : decode cX13_halts 14 = .ok (.if_icmp .gt 30, 3) := by decide +kernel
theorem dX13_halts_17 : decode cX13_halts 17 = .ok (.aload_n 0, 1) := by decide +kernel
theorem dX13_halts_18 : decode cX13_halts 18 = .ok (.getfield 76, 3) := by decide +kernel
theorem dX13_halts_21 : decode cX13_halts 21 = .ok (.sipush 276, 3) := by decide +kernel
theorem dX13_halts_24 : decode cX13_halts 24 = .ok (.iaload, 1) := by decide +kernel
theorem dX13_halts_25 : decode cX13_halts 25 = .ok (.ifCond .eq 9, 3) := by decide +kernel
theorem dX13_halts_28 : decode cX13_halts 28 = .ok (.aload_n 0, 1) := by decide +kernel
theorem dX13_halts_29 : decode cX13_halts 29 = .ok (.iload_n 1, 1) := by decide +kernel
theorem dX13_halts_30 : decode cX13_halts 30 = .ok (.invokevirtual 667, 3) := by decide +kernel
theorem dX13_halts_33 : decode cX13_halts 33 = .ok (.ireturn, 1) := by decide +kernel
theorem dX13_halts_34 : decode cX13_halts 34 = .ok (.aload_n 0, 1) := by decide +kernel
theorem dX13_halts_35 : decode cX13_halts 35 = .ok (.invokevirtual 587, 3) := by decide +kernel
theorem dX13_halts_38 : decode cX13_halts 38 = .ok (.iinc 1 1, 3) := by decide +kernel
theorem dX13_halts_41 : decode cX13_halts 41 = .ok (.goto (-30), 3) := by decide +kernel
theorem dX13_halts_44 : decode cX13_halts 44 = .ok (.aload_n 0, 1) := by decide +kernel
theorem dX13_halts_45 : decode cX13_halts 45 = .ok (.iconst (-1), 1) := by decide +kernel
theorem dX13_halts_46 : decode cX13_halts 46 = .ok (.invokevirtual 667, 3) := by decide +kernel
theorem dX13_halts_49 : decode cX13_halts 49 = .ok (.ireturn, 1) := by decide +kernel
theorem dX13_changes_0 : decode cX13_changes 0 = .ok (.aload_n 0, 1) := by decide +kernel
theorem dX13_changes_1 : decode cX13_changes 1 = .ok (.iconst 0, 1) := by decide +kernel
theorem dX13_changes_2 : decode cX13_changes 2 = .ok (.putfield 187, 3) := by decide +kernel
theorem dX13_changes_5 : decode cX13_changes 5 = .ok (.iload_n 1, 1) := by decide +kernel
theorem dX13_changes_6 : decode cX13_changes 6 = .ok (.i2l, 1) := by decide +kernel
theorem dX13_changes_7 : decode cX13_changes 7 = .ok (.lconst 0, 1) := by decide +kernel
theorem dX13_changes_8 : decode cX13_changes 8 = .ok (.ldc2_w 593, 3) := by decide +kernel
theorem dX13_changes_11 : decode cX13_changes 11 = .ok (.invokestatic 287, 3) := by decide +kernel
theorem dX13_changes_14 : decode cX13_changes 14 = .ok (.ifCond .ne 9, 3) := by decide +kernel
theorem dX13_changes_17 : decode cX13_changes 17 = .ok (.aload_n 0, 1) := by decide +kernel
theorem dX13_changes_18 : decode cX13_changes 18 = .ok (.iconst 1, 1) := by decide +kernel
theorem dX13_changes_19 : decode cX13_changes 19 = .ok (.invokevirtual 329, 3) := by decide +kernel
theorem dX13_changes_22 : decode cX13_changes 22 = .ok (.ireturn, 1) := by decide +kernel
theorem dX13_changes_23 : decode cX13_changes 23 = .ok (.aload_n 0, 1) := by decide +kernel
theorem dX13_changes_24 : decode cX13_changes 24 = .ok (.invokevirtual 664, 3) := by decide +kernel
theorem dX13_changes_27 : decode cX13_changes 27 = .ok (.iconst 1, 1) := by decide +kernel
theorem dX13_changes_28 : decode cX13_changes 28 = .ok (.istore_n 2, 1) := by decide +kernel
theorem dX13_changes_29 : decode cX13_changes 29 = .ok (.iload_n 2, 1) := by decide +kernel
theorem dX13_changes_30 : decode cX13_changes 30 = .ok (.bipush 100, 2) := by decide +kernel
theorem dX13_changes_32 : decode cX13_changes 32 = .ok (.if_icmp .gt 34, 3) := by decide +kernel
theorem dX13_changes_35 : decode cX13_changes 35 = .ok (.aload_n 0, 1) := by decide +kernel
theorem dX13_changes_36 : decode cX13_changes 36 = .ok (.invokevirtual 587, 3) := by decide +kernel
theorem dX13_changes_39 : decode cX13_changes 39 = .ok (.aload_n 0, 1) := by decide +kernel
theorem dX13_changes_40 : decode cX13_changes 40 = .ok (.getfield 76, 3) := by decide +kernel
theorem dX13_changes_43 : decode cX13_changes 43 = .ok (.iload_n 1, 1) := by decide +kernel
theorem dX13_changes_44 : decode cX13_changes 44 = .ok (.iaload, 1) := by decide +kernel
theorem dX13_changes_45 : decode cX13_changes 45 = .ok (.aload_n 0, 1) := by decide +kernel
theorem dX13_changes_46 : decode cX13_changes 46 = .ok (.getfield 151, 3) := by decide +kernel
theorem dX13_changes_49 : decode cX13_changes 49 = .ok (.iload_n 1, 1) := by decide +kernel
theorem dX13_changes_50 : decode cX13_changes 50 = .ok (.iaload, 1) := by decide +kernel
theorem dX13_changes_51 : decode cX13_changes 51 = .ok (.if_icmp .eq 9, 3) := by decide +kernel
theorem dX13_changes_54 : decode cX13_changes 54 = .ok (.aload_n 0, 1) := by decide +kernel
theorem dX13_changes_55 : decode cX13_changes 55 = .ok (.iload_n 2, 1) := by decide +kernel
theorem dX13_changes_56 : decode cX13_changes 56 = .ok (.invokevirtual 667, 3) := by decide +kernel
theorem dX13_changes_59 : decode cX13_changes 59 = .ok (.ireturn, 1) := by decide +kernel
theorem dX13_changes_60 : decode cX13_changes 60 = .ok (.iinc 2 1, 3) := by decide +kernel
theorem dX13_changes_63 : decode cX13_changes 63 = .ok (.goto (-34), 3) := by decide +kernel
theorem dX13_changes_66 : decode cX13_changes 66 = .ok (.aload_n 0, 1) := by decide +kernel
theorem dX13_changes_67 : decode cX13_changes 67 = .ok (.iconst (-1), 1) := by decide +kernel
theorem dX13_changes_68 : decode cX13_changes 68 = .ok (.invokevirtual 667, 3) := by decide +kernel
theorem dX13_changes_71 : decode cX13_changes 71 = .ok (.ireturn, 1) := by decide +kernel
theorem dX13_isAlike_0 : decode cX13_isAlike 0 = .ok (.iconst 0, 1) := by decide +kernel
theorem dX13_isAlike_1 : decode cX13_isAlike 1 = .ok (.istore_n 3, 1) := by decide +kernel
theorem dX13_isAlike_2 : decode cX13_isAlike 2 = .ok (.iload_n 3, 1) := by decide +kernel
theorem dX13_isAlike_3 : decode cX13_isAlike 3 = .ok (.sipush 277, 3) := by decide +kernel
theorem dX13_isAlike_6 : decode cX13_isAlike 6 = .ok (.if_icmp .ge 28, 3) := by decide +kernel
theorem dX13_isAlike_9 : decode cX13_isAlike 9 = .ok (.iload_n 3, 1) := by decide +kernel
theorem dX13_isAlike_10 : decode cX13_isAlike 10 = .ok (.iload_n 2, 1) := by decide +kernel
theorem dX13_isAlike_11 : decode cX13_isAlike 11 = .ok (.if_icmp .eq 17, 3) := by decide +kernel
theorem dX13_isAlike_14 : decode cX13_isAlike 14 = .ok (.aload_n 1, 1) := by decide +kernel
theorem dX13_isAlike_15 : decode cX13_isAlike 15 = .ok (.iload_n 3, 1) := by decide +kernel
theorem dX13_isAlike_16 : decode cX13_isAlike 16 = .ok (.iaload, 1) := by decide +kernel
theorem dX13_isAlike_17 : decode cX13_isAlike 17 = .ok (.aload_n 0, 1) := by decide +kernel
theorem dX13_isAlike_18 : decode cX13_isAlike 18 = .ok (.getfield 76, 3) := by decide +kernel
theorem dX13_isAlike_21 : decode cX13_isAlike 21 = .ok (.iload_n 3, 1) := by decide +kernel
theorem dX13_isAlike_22 : decode cX13_isAlike 22 = .ok (.iaload, 1) := by decide +kernel
theorem dX13_isAlike_23 : decode cX13_isAlike 23 = .ok (.if_icmp .eq 5, 3) := by decide +kernel
theorem dX13_isAlike_26 : decode cX13_isAlike 26 = .ok (.iconst 0, 1) := by decide +kernel
theorem dX13_isAlike_27 : decode cX13_isAlike 27 = .ok (.ireturn, 1) := by decide +kernel
theorem dX13_isAlike_28 : decode cX13_isAlike 28 = .ok (.iinc 3 1, 3) := by decide +kernel
theorem dX13_isAlike_31 : decode cX13_isAlike 31 = .ok (.goto (-29), 3) := by decide +kernel
theorem dX13_isAlike_34 : decode cX13_isAlike 34 = .ok (.iconst 1, 1) := by decide +kernel
theorem dX13_isAlike_35 : decode cX13_isAlike 35 = .ok (.ireturn, 1) := by decide +kernel
theorem dX13_round_0 : decode cX13_round 0 = .ok (.aload_n 0, 1) := by decide +kernel
theorem dX13_round_1 : decode cX13_round 1 = .ok (.iconst 0, 1) := by decide +kernel
theorem dX13_round_2 : decode cX13_round 2 = .ok (.putfield 187, 3) := by decide +kernel
theorem dX13_round_5 : decode cX13_round 5 = .ok (.aload_n 0, 1) := by decide +kernel
theorem dX13_round_6 : decode cX13_round 6 = .ok (.invokevirtual 664, 3) := by decide +kernel
theorem dX13_round_9 : decode cX13_round 9 = .ok (.iconst 1, 1) := by decide +kernel
theorem dX13_round_10 : decode cX13_round 10 = .ok (.istore_n 1, 1) := by decide +kernel
theorem dX13_round_11 : decode cX13_round 11 = .ok (.iload_n 1, 1) := by decide +kernel
theorem dX13_round_12 : decode cX13_round 12 = .ok (.bipush 100, 2) := by decide +kernel
theorem dX13_round_14 : decode cX13_round 14 = .ok (.if_icmp .gt 31, 3) := by decide +kernel
theorem dX13_round_17 : decode cX13_round 17 = .ok (.aload_n 0, 1) := by decide +kernel
theorem dX13_round_18 : decode cX13_round 18 = .ok (.invokevirtual 587, 3) := by decide +kernel
theorem dX13_round_21 : decode cX13_round 21 = .ok (.aload_n 0, 1) := by decide +kernel
theorem dX13_round_22 : decode cX13_round 22 = .ok (.aload_n 0, 1) := by decide +kernel
theorem dX13_round_23 : decode cX13_round 23 = .ok (.getfield 151, 3) := by decide +kernel
theorem dX13_round_26 : decode cX13_round 26 = .ok (.iconst (-1), 1) := by decide +kernel
theorem dX13_round_27 : decode cX13_round 27 = .ok (.invokevirtual 674, 3) := by decide +kernel
theorem dX13_round_30 : decode cX13_round 30 = .ok (.ifCond .eq 9, 3) := by decide +kernel
theorem dX13_round_33 : decode cX13_round 33 = .ok (.aload_n 0, 1) := by decide +kernel
theorem dX13_round_34 : decode cX13_round 34 = .ok (.iload_n 1, 1) := by decide +kernel
theorem dX13_round_35 : decode cX13_round 35 = .ok (.invokevirtual 667, 3) := by decide +kernel
theorem dX13_round_38 : decode cX13_round 38 = .ok (.ireturn, 1) := by decide +kernel
theorem dX13_round_39 : decode cX13_round 39 = .ok (.iinc 1 1, 3) := by decide +kernel
theorem dX13_round_42 : decode cX13_round 42 = .ok (.goto (-31), 3) := by decide +kernel
theorem dX13_round_45 : decode cX13_round 45 = .ok (.aload_n 0, 1) := by decide +kernel
theorem dX13_round_46 : decode cX13_round 46 = .ok (.iconst (-1), 1) := by decide +kernel
theorem dX13_round_47 : decode cX13_round 47 = .ok (.invokevirtual 667, 3) := by decide +kernel
theorem dX13_round_50 : decode cX13_round 50 = .ok (.ireturn, 1) := by decide +kernel
theorem dX13_goToFault_0 : decode cX13_goToFault 0 = .ok (.aload_n 0, 1) := by decide +kernel
theorem dX13_goToFault_1 : decode cX13_goToFault 1 = .ok (.getfield 76, 3) := by decide +kernel
theorem dX13_goToFault_4 : decode cX13_goToFault 4 = .ok (.sipush 278, 3) := by decide +kernel
theorem dX13_goToFault_7 : decode cX13_goToFault 7 = .ok (.iaload, 1) := by decide +kernel
theorem dX13_goToFault_8 : decode cX13_goToFault 8 = .ok (.istore_n 2, 1) := by decide +kernel
theorem dX13_goToFault_9 : decode cX13_goToFault 9 = .ok (.iconst 0, 1) := by decide +kernel
theorem dX13_goToFault_10 : decode cX13_goToFault 10 = .ok (.istore_n 3, 1) := by decide +kernel
theorem dX13_goToFault_11 : decode cX13_goToFault 11 = .ok (.iload_n 3, 1) := by decide +kernel
theorem dX13_goToFault_12 : decode cX13_goToFault 12 = .ok (.iload_n 1, 1) := by decide +kernel
theorem dX13_goToFault_13 : decode cX13_goToFault 13 = .ok (.if_icmp .ge 25, 3) := by decide +kernel
theorem dX13_goToFault_16 : decode cX13_goToFault 16 = .ok (.aload_n 0, 1) := by decide +kernel
theorem dX13_goToFault_17 : decode cX13_goToFault 17 = .ok (.getfield 76, 3) := by decide +kernel
theorem dX13_goToFault_20 : decode cX13_goToFault 20 = .ok (.sipush 278, 3) := by decide +kernel
theorem dX13_goToFault_23 : decode cX13_goToFault 23 = .ok (.iaload, 1) := by decide +kernel
theorem dX13_goToFault_24 : decode cX13_goToFault 24 = .ok (.iload_n 2, 1) := by decide +kernel
theorem dX13_goToFault_25 : decode cX13_goToFault 25 = .ok (.if_icmp .ne 13, 3) := by decide +kernel
theorem dX13_goToFault_28 : decode cX13_goToFault 28 = .ok (.aload_n 0, 1) := by decide +kernel
theorem dX13_goToFault_29 : decode cX13_goToFault 29 = .ok (.invokevirtual 587, 3) := by decide +kernel
theorem dX13_goToFault_32 : decode cX13_goToFault 32 = .ok (.iinc 3 1, 3) := by decide +kernel
theorem dX13_goToFault_35 : decode cX13_goToFault 35 = .ok (.goto (-24), 3) := by decide +kernel
theorem dX13_goToFault_38 : decode cX13_goToFault 38 = .ok (.aload_n 0, 1) := by decide +kernel
theorem dX13_goToFault_39 : decode cX13_goToFault 39 = .ok (.getfield 76, 3) := by decide +kernel
theorem dX13_goToFault_42 : decode cX13_goToFault 42 = .ok (.sipush 278, 3) := by decide +kernel
theorem dX13_goToFault_45 : decode cX13_goToFault 45 = .ok (.iaload, 1) := by decide +kernel
theorem dX13_goToFault_46 : decode cX13_goToFault 46 = .ok (.iload_n 2, 1) := by decide +kernel
theorem dX13_goToFault_47 : decode cX13_goToFault 47 = .ok (.if_icmp .le 7, 3) := by decide +kernel
theorem dX13_goToFault_50 : decode cX13_goToFault 50 = .ok (.iconst 1, 1) := by decide +kernel
theorem dX13_goToFault_51 : decode cX13_goToFault 51 = .ok (.goto 4, 3) := by decide +kernel
theorem dX13_goToFault_54 : decode cX13_goToFault 54 = .ok (.iconst 0, 1) := by decide +kernel
theorem dX13_goToFault_55 : decode cX13_goToFault 55 = .ok (.ireturn, 1) := by decide +kernel
theorem dX13_isNamed_0 : decode cX13_isNamed 0 = .ok (.aload_n 0, 1) := by decide +kernel
theorem dX13_isNamed_1 : decode cX13_isNamed 1 = .ok (.getfield 76, 3) := by decide +kernel
theorem dX13_isNamed_4 : decode cX13_isNamed 4 = .ok (.sipush 280, 3) := by decide +kernel
theorem dX13_isNamed_7 : decode cX13_isNamed 7 = .ok (.iaload, 1) := by decide +kernel
theorem dX13_isNamed_8 : decode cX13_isNamed 8 = .ok (.iconst 4, 1) := by decide +kernel
theorem dX13_isNamed_9 : decode cX13_isNamed 9 = .ok (.if_icmp .eq 15, 3) := by decide +kernel
theorem dX13_isNamed_12 : decode cX13_isNamed 12 = .ok (.aload_n 0, 1) := by decide +kernel
theorem dX13_isNamed_13 : decode cX13_isNamed 13 = .ok (.getfield 76, 3) := by decide +kernel
theorem dX13_isNamed_16 : decode cX13_isNamed 16 = .ok (.sipush 280, 3) := by decide +kernel
theorem dX13_isNamed_19 : decode cX13_isNamed 19 = .ok (.iaload, 1) := by decide +kernel
theorem dX13_isNamed_20 : decode cX13_isNamed 20 = .ok (.iconst 5, 1) := by decide +kernel
theorem dX13_isNamed_21 : decode cX13_isNamed 21 = .ok (.if_icmp .ne 35, 3) := by decide +kernel
theorem dX13_isNamed_24 : decode cX13_isNamed 24 = .ok (.aload_n 0, 1) := by decide +kernel
theorem dX13_isNamed_25 : decode cX13_isNamed 25 = .ok (.getfield 76, 3) := by decide +kernel
theorem dX13_isNamed_28 : decode cX13_isNamed 28 = .ok (.sipush 286, 3) := by decide +kernel
theorem dX13_isNamed_31 : decode cX13_isNamed 31 = .ok (.iaload, 1) := by decide +kernel
theorem dX13_isNamed_32 : decode cX13_isNamed 32 = .ok (.iload_n 1, 1) := by decide +kernel
theorem dX13_isNamed_33 : decode cX13_isNamed 33 = .ok (.iconst 2, 1) := by decide +kernel
theorem dX13_isNamed_34 : decode cX13_isNamed 34 = .ok (.idiv, 1) := by decide +kernel
theorem dX13_isNamed_35 : decode cX13_isNamed 35 = .ok (.if_icmp .ne 21, 3) := by decide +kernel
theorem dX13_isNamed_38 : decode cX13_isNamed 38 = .ok (.aload_n 0, 1) := by decide +kernel
theorem dX13_isNamed_39 : decode cX13_isNamed 39 = .ok (.getfield 76, 3) := by decide +kernel
theorem dX13_isNamed_42 : decode cX13_isNamed 42 = .ok (.sipush 287, 3) := by decide +kernel
theorem dX13_isNamed_45 : decode cX13_isNamed 45 = .ok (.iaload, 1) := by decide +kernel
theorem dX13_isNamed_46 : decode cX13_isNamed 46 = .ok (.iload_n 1, 1) := by decide +kernel
theorem dX13_isNamed_47 : decode cX13_isNamed 47 = .ok (.iconst 2, 1) := by decide +kernel
theorem dX13_isNamed_48 : decode cX13_isNamed 48 = .ok (.irem, 1) := by decide +kernel
theorem dX13_isNamed_49 : decode cX13_isNamed 49 = .ok (.if_icmp .ne 7, 3) := by decide +kernel
theorem dX13_isNamed_52 : decode cX13_isNamed 52 = .ok (.iconst 1, 1) := by decide +kernel
theorem dX13_isNamed_53 : decode cX13_isNamed 53 = .ok (.goto 4, 3) := by decide +kernel
theorem dX13_isNamed_56 : decode cX13_isNamed 56 = .ok (.iconst 0, 1) := by decide +kernel
theorem dX13_isNamed_57 : decode cX13_isNamed 57 = .ok (.ireturn, 1) := by decide +kernel
theorem dX13_isHarmless_0 : decode cX13_isHarmless 0 = .ok (.iconst 0, 1) := by decide +kernel
theorem dX13_isHarmless_1 : decode cX13_isHarmless 1 = .ok (.istore_n 2, 1) := by decide +kernel
theorem dX13_isHarmless_2 : decode cX13_isHarmless 2 = .ok (.iload_n 2, 1) := by decide +kernel
theorem dX13_isHarmless_3 : decode cX13_isHarmless 3 = .ok (.sipush 265, 3) := by decide +kernel
theorem dX13_isHarmless_6 : decode cX13_isHarmless 6 = .ok (.if_icmp .gt 31, 3) := by decide +kernel
theorem dX13_isHarmless_9 : decode cX13_isHarmless 9 = .ok (.iload_n 2, 1) := by decide +kernel
theorem dX13_isHarmless_10 : decode cX13_isHarmless 10 = .ok (.iload_n 1, 1) := by decide +kernel
theorem dX13_isHarmless_11 : decode cX13_isHarmless 11 = .ok (.if_icmp .eq 20, 3) := by decide +kernel
theorem dX13_isHarmless_14 : decode cX13_isHarmless 14 = .ok (.aload_n 0, 1) := by decide +kernel
theorem dX13_isHarmless_15 : decode cX13_isHarmless 15 = .ok (.getfield 76, 3) := by decide +kernel
theorem dX13_isHarmless_18 : decode cX13_isHarmless 18 = .ok (.iload_n 2, 1) := by decide +kernel
theorem dX13_isHarmless_19 : decode cX13_isHarmless 19 = .ok (.iaload, 1) := by decide +kernel
theorem dX13_isHarmless_20 : decode cX13_isHarmless 20 = .ok (.aload_n 0, 1) := by decide +kernel
theorem dX13_isHarmless_21 : decode cX13_isHarmless 21 = .ok (.getfield 154, 3) := by decide +kernel
theorem dX13_isHarmless_24 : decode cX13_isHarmless 24 = .ok (.iload_n 2, 1) := by decide +kernel
theorem dX13_isHarmless_25 : decode cX13_isHarmless 25 = .ok (.iaload, 1) := by decide +kernel
theorem dX13_isHarmless_26 : decode cX13_isHarmless 26 = .ok (.if_icmp .eq 5, 3) := by decide +kernel
theorem dX13_isHarmless_29 : decode cX13_isHarmless 29 = .ok (.iconst 0, 1) := by decide +kernel
theorem dX13_isHarmless_30 : decode cX13_isHarmless 30 = .ok (.ireturn, 1) := by decide +kernel
theorem dX13_isHarmless_31 : decode cX13_isHarmless 31 = .ok (.iinc 2 1, 3) := by decide +kernel
theorem dX13_isHarmless_34 : decode cX13_isHarmless 34 = .ok (.goto (-32), 3) := by decide +kernel
theorem dX13_isHarmless_37 : decode cX13_isHarmless 37 = .ok (.iconst 1, 1) := by decide +kernel
theorem dX13_isHarmless_38 : decode cX13_isHarmless 38 = .ok (.ireturn, 1) := by decide +kernel
theorem dX13_spoil_0 : decode cX13_spoil 0 = .ok (.aload_n 0, 1) := by decide +kernel
theorem dX13_spoil_1 : decode cX13_spoil 1 = .ok (.iload_n 1, 1) := by decide +kernel
theorem dX13_spoil_2 : decode cX13_spoil 2 = .ok (.iload_n 2, 1) := by decide +kernel
theorem dX13_spoil_3 : decode cX13_spoil 3 = .ok (.invokevirtual 381, 3) := by decide +kernel
theorem dX13_spoil_6 : decode cX13_spoil 6 = .ok (.aload_n 0, 1) := by decide +kernel
theorem dX13_spoil_7 : decode cX13_spoil 7 = .ok (.iload_n 3, 1) := by decide +kernel
theorem dX13_spoil_8 : decode cX13_spoil 8 = .ok (.invokevirtual 678, 3) := by decide +kernel
theorem dX13_spoil_11 : decode cX13_spoil 11 = .ok (.istore 5, 2) := by decide +kernel
theorem dX13_spoil_13 : decode cX13_spoil 13 = .ok (.iload 5, 2) := by decide +kernel
theorem dX13_spoil_15 : decode cX13_spoil 15 = .ok (.ifCond .eq 15, 3) := by decide +kernel
theorem dX13_spoil_18 : decode cX13_spoil 18 = .ok (.aload_n 0, 1) := by decide +kernel
theorem dX13_spoil_19 : decode cX13_spoil 19 = .ok (.iload_n 1, 1) := by decide +kernel
theorem dX13_spoil_20 : decode cX13_spoil 20 = .ok (.invokevirtual 681, 3) := by decide +kernel
theorem dX13_spoil_23 : decode cX13_spoil 23 = .ok (.ifCond .eq 7, 3) := by decide +kernel
theorem dX13_spoil_26 : decode cX13_spoil 26 = .ok (.iconst 0, 1) := by decide +kernel
theorem dX13_spoil_27 : decode cX13_spoil 27 = .ok (.goto 28, 3) := by decide +kernel
theorem dX13_spoil_30 : decode cX13_spoil 30 = .ok (.iload 5, 2) := by decide +kernel
theorem dX13_spoil_32 : decode cX13_spoil 32 = .ok (.ifCond .ne 22, 3) := by decide +kernel
theorem dX13_spoil_35 : decode cX13_spoil 35 = .ok (.iload 4, 2) := by decide +kernel
theorem dX13_spoil_37 : decode cX13_spoil 37 = .ok (.ifCond .ne 17, 3) := by decide +kernel
theorem dX13_spoil_40 : decode cX13_spoil 40 = .ok (.aload_n 0, 1) := by decide +kernel
theorem dX13_spoil_41 : decode cX13_spoil 41 = .ok (.iload_n 1, 1) := by decide +kernel
theorem dX13_spoil_42 : decode cX13_spoil 42 = .ok (.iconst 2, 1) := by decide +kernel
theorem dX13_spoil_43 : decode cX13_spoil 43 = .ok (.idiv, 1) := by decide +kernel
theorem dX13_spoil_44 : decode cX13_spoil 44 = .ok (.invokevirtual 684, 3) := by decide +kernel
theorem dX13_spoil_47 : decode cX13_spoil 47 = .ok (.ifCond .eq 7, 3) := by decide +kernel
theorem dX13_spoil_50 : decode cX13_spoil 50 = .ok (.iconst 1, 1) := by decide +kernel
theorem dX13_spoil_51 : decode cX13_spoil 51 = .ok (.goto 4, 3) := by decide +kernel
theorem dX13_spoil_54 : decode cX13_spoil 54 = .ok (.iconst 2, 1) := by decide +kernel
theorem dX13_spoil_55 : decode cX13_spoil 55 = .ok (.istore 6, 2) := by decide +kernel
theorem dX13_spoil_57 : decode cX13_spoil 57 = .ok (.aload_n 0, 1) := by decide +kernel
theorem dX13_spoil_58 : decode cX13_spoil 58 = .ok (.iload 6, 2) := by decide +kernel
theorem dX13_spoil_60 : decode cX13_spoil 60 = .ok (.invokevirtual 667, 3) := by decide +kernel
theorem dX13_spoil_63 : decode cX13_spoil 63 = .ok (.ireturn, 1) := by decide +kernel
theorem dX13_spoilt_0 : decode cX13_spoilt 0 = .ok (.aload_n 0, 1) := by decide +kernel
theorem dX13_spoilt_1 : decode cX13_spoilt 1 = .ok (.iconst 0, 1) := by decide +kernel
theorem dX13_spoilt_2 : decode cX13_spoilt 2 = .ok (.putfield 187, 3) := by decide +kernel
theorem dX13_spoilt_5 : decode cX13_spoilt 5 = .ok (.iload 4, 2) := by decide +kernel
theorem dX13_spoilt_7 : decode cX13_spoilt 7 = .ok (.i2l, 1) := by decide +kernel
theorem dX13_spoilt_8 : decode cX13_spoilt 8 = .ok (.lconst 0, 1) := by decide +kernel
theorem dX13_spoilt_9 : decode cX13_spoilt 9 = .ok (.ldc2_w 451, 3) := by decide +kernel
theorem dX13_spoilt_12 : decode cX13_spoilt 12 = .ok (.invokestatic 287, 3) := by decide +kernel
theorem dX13_spoilt_15 : decode cX13_spoilt 15 = .ok (.ifCond .ne 9, 3) := by decide +kernel
theorem dX13_spoilt_18 : decode cX13_spoilt 18 = .ok (.aload_n 0, 1) := by decide +kernel
theorem dX13_spoilt_19 : decode cX13_spoilt 19 = .ok (.iconst 1, 1) := by decide +kernel
theorem dX13_spoilt_20 : decode cX13_spoilt 20 = .ok (.invokevirtual 329, 3) := by decide +kernel
theorem dX13_spoilt_23 : decode cX13_spoilt 23 = .ok (.ireturn, 1) := by decide +kernel
theorem dX13_spoilt_24 : decode cX13_spoilt 24 = .ok (.aload_n 0, 1) := by decide +kernel
theorem dX13_spoilt_25 : decode cX13_spoilt 25 = .ok (.iload_n 1, 1) := by decide +kernel
theorem dX13_spoilt_26 : decode cX13_spoilt 26 = .ok (.iload_n 2, 1) := by decide +kernel
theorem dX13_spoilt_27 : decode cX13_spoilt 27 = .ok (.iconst 3, 1) := by decide +kernel
theorem dX13_spoilt_28 : decode cX13_spoilt 28 = .ok (.invokevirtual 603, 3) := by decide +kernel
theorem dX13_spoilt_31 : decode cX13_spoilt 31 = .ok (.ifCond .eq 15, 3) := by decide +kernel
theorem dX13_spoilt_34 : decode cX13_spoilt 34 = .ok (.iload_n 3, 1) := by decide +kernel
theorem dX13_spoilt_35 : decode cX13_spoilt 35 = .ok (.i2l, 1) := by decide +kernel
theorem dX13_spoilt_36 : decode cX13_spoilt 36 = .ok (.lconst 1, 1) := by decide +kernel
theorem dX13_spoilt_37 : decode cX13_spoilt 37 = .ok (.ldc2_w 687, 3) := by decide +kernel
theorem dX13_spoilt_40 : decode cX13_spoilt 40 = .ok (.invokestatic 287, 3) := by decide +kernel
theorem dX13_spoilt_43 : decode cX13_spoilt 43 = .ok (.ifCond .ne 9, 3) := by decide +kernel
theorem dX13_spoilt_46 : decode cX13_spoilt 46 = .ok (.aload_n 0, 1) := by decide +kernel
theorem dX13_spoilt_47 : decode cX13_spoilt 47 = .ok (.iconst 2, 1) := by decide +kernel
theorem dX13_spoilt_48 : decode cX13_spoilt 48 = .ok (.invokevirtual 329, 3) := by decide +kernel
theorem dX13_spoilt_51 : decode cX13_spoilt 51 = .ok (.ireturn, 1) := by decide +kernel
theorem dX13_spoilt_52 : decode cX13_spoilt 52 = .ok (.iconst 0, 1) := by decide +kernel
theorem dX13_spoilt_53 : decode cX13_spoilt 53 = .ok (.istore 5, 2) := by decide +kernel
theorem dX13_spoilt_55 : decode cX13_spoilt 55 = .ok (.iconst (-1), 1) := by decide +kernel
theorem dX13_spoilt_56 : decode cX13_spoilt 56 = .ok (.istore 6, 2) := by decide +kernel
theorem dX13_spoilt_58 : decode cX13_spoilt 58 = .ok (.aload_n 0, 1) := by decide +kernel
theorem dX13_spoilt_59 : decode cX13_spoilt 59 = .ok (.invokevirtual 664, 3) := by decide +kernel
theorem dX13_spoilt_62 : decode cX13_spoilt 62 = .ok (.aload_n 0, 1) := by decide +kernel
theorem dX13_spoilt_63 : decode cX13_spoilt 63 = .ok (.iload_n 3, 1) := by decide +kernel
theorem dX13_spoilt_64 : decode cX13_spoilt 64 = .ok (.invokevirtual 678, 3) := by decide +kernel
theorem dX13_spoilt_67 : decode cX13_spoilt 67 = .ok (.istore 7, 2) := by decide +kernel
theorem dX13_spoilt_69 : decode cX13_spoilt 69 = .ok (.aload_n 0, 1) := by decide +kernel
theorem dX13_spoilt_70 : decode cX13_spoilt 70 = .ok (.getfield 154, 3) := by decide +kernel
theorem dX13_spoilt_73 : decode cX13_spoilt 73 = .ok (.aload_n 0, 1) := by decide +kernel
theorem dX13_spoilt_74 : decode cX13_spoilt 74 = .ok (.getfield 76, 3) := by decide +kernel
theorem dX13_spoilt_77 : decode cX13_spoilt 77 = .ok (.invokestatic 660, 3) := by decide +kernel
theorem dX13_spoilt_80 : decode cX13_spoilt 80 = .ok (.aload_n 0, 1) := by decide +kernel
theorem dX13_spoilt_81 : decode cX13_spoilt 81 = .ok (.iconst 0, 1) := by decide +kernel
theorem dX13_spoilt_82 : decode cX13_spoilt 82 = .ok (.invokevirtual 667, 3) := by decide +kernel
theorem dX13_spoilt_85 : decode cX13_spoilt 85 = .ok (.pop, 1) := by decide +kernel
theorem dX13_spoilt_86 : decode cX13_spoilt 86 = .ok (.iconst 2, 1) := by decide +kernel
theorem dX13_spoilt_87 : decode cX13_spoilt 87 = .ok (.iload_n 1, 1) := by decide +kernel
theorem dX13_spoilt_88 : decode cX13_spoilt 88 = .ok (.imul, 1) := by decide +kernel
theorem dX13_spoilt_89 : decode cX13_spoilt 89 = .ok (.istore 8, 2) := by decide +kernel
theorem dX13_spoilt_91 : decode cX13_spoilt 91 = .ok (.iload 8, 2) := by decide +kernel
theorem dX13_spoilt_93 : decode cX13_spoilt 93 = .ok (.iconst 2, 1) := by decide +kernel
theorem dX13_spoilt_94 : decode cX13_spoilt 94 = .ok (.iload_n 1, 1) := by decide +kernel
theorem dX13_spoilt_95 : decode cX13_spoilt 95 = .ok (.iload_n 2, 1) := by decide +kernel
theorem dX13_spoilt_96 : decode cX13_spoilt 96 = .ok (.iadd, 1) := by decide +kernel
theorem dX13_spoilt_97 : decode cX13_spoilt 97 = .ok (.imul, 1) := by decide +kernel
theorem dX13_spoilt_98 : decode cX13_spoilt 98 = .ok (.if_icmp .ge 91, 3) := by decide +kernel
theorem dX13_spoilt_101 : decode cX13_spoilt 101 = .ok (.iconst 0, 1) := by decide +kernel
theorem dX13_spoilt_102 : decode cX13_spoilt 102 = .ok (.istore 9, 2) := by decide +kernel
theorem dX13_spoilt_104 : decode cX13_spoilt 104 = .ok (.iload 9, 2) := by decide +kernel
theorem dX13_spoilt_106 : decode cX13_spoilt 106 = .ok (.bipush 16, 2) := by decide +kernel
theorem dX13_spoilt_108 : decode cX13_spoilt 108 = .ok (.if_icmp .ge 75, 3) := by decide +kernel
theorem dX13_spoilt_111 : decode cX13_spoilt 111 = .ok (.iload 9, 2) := by decide +kernel
theorem dX13_spoilt_113 : decode cX13_spoilt 113 = .ok (.aload_n 0, 1) := by decide +kernel
theorem dX13_spoilt_114 : decode cX13_spoilt 114 = .ok (.iload 8, 2) := by decide +kernel
theorem dX13_spoilt_116 : decode cX13_spoilt 116 = .ok (.invokevirtual 374, 3) := by decide +kernel
theorem dX13_spoilt_119 : decode cX13_spoilt 119 = .ok (.if_icmp .ne 6, 3) := by decide +kernel
theorem dX13_spoilt_122 : decode cX13_spoilt 122 = .ok (.goto 55, 3) := by decide +kernel
theorem dX13_spoilt_125 : decode cX13_spoilt 125 = .ok (.aload_n 0, 1) := by decide +kernel
theorem dX13_spoilt_126 : decode cX13_spoilt 126 = .ok (.iload 8, 2) := by decide +kernel
theorem dX13_spoilt_128 : decode cX13_spoilt 128 = .ok (.iload 9, 2) := by decide +kernel
theorem dX13_spoilt_130 : decode cX13_spoilt 130 = .ok (.iload_n 3, 1) := by decide +kernel
theorem dX13_spoilt_131 : decode cX13_spoilt 131 = .ok (.iload 7, 2) := by decide +kernel
theorem dX13_spoilt_133 : decode cX13_spoilt 133 = .ok (.invokevirtual 689, 3) := by decide +kernel
theorem dX13_spoilt_136 : decode cX13_spoilt 136 = .ok (.istore 10, 2) := by decide +kernel
theorem dX13_spoilt_138 : decode cX13_spoilt 138 = .ok (.iload 5, 2) := by decide +kernel
theorem dX13_spoilt_140 : decode cX13_spoilt 140 = .ok (.iload 10, 2) := by decide +kernel
theorem dX13_spoilt_142 : decode cX13_spoilt 142 = .ok (.iload 4, 2) := by decide +kernel
theorem dX13_spoilt_144 : decode cX13_spoilt 144 = .ok (.if_icmp .ne 7, 3) := by decide +kernel
theorem dX13_spoilt_147 : decode cX13_spoilt 147 = .ok (.iconst 1, 1) := by decide +kernel
theorem dX13_spoilt_148 : decode cX13_spoilt 148 = .ok (.goto 4, 3) := by decide +kernel
theorem dX13_spoilt_151 : decode cX13_spoilt 151 = .ok (.iconst 0, 1) := by decide +kernel
theorem dX13_spoilt_152 : decode cX13_spoilt 152 = .ok (.iadd, 1) := by decide +kernel
theorem dX13_spoilt_153 : decode cX13_spoilt 153 = .ok (.istore 5, 2) := by decide +kernel
theorem dX13_spoilt_155 : decode cX13_spoilt 155 = .ok (.iload 10, 2) := by decide +kernel
theorem dX13_spoilt_157 : decode cX13_spoilt 157 = .ok (.iconst 2, 1) := by decide +kernel
theorem dX13_spoilt_158 : decode cX13_spoilt 158 = .ok (.if_icmp .ne 19, 3) := by decide +kernel
theorem dX13_spoilt_161 : decode cX13_spoilt 161 = .ok (.iload 6, 2) := by decide +kernel
theorem dX13_spoilt_163 : decode cX13_spoilt 163 = .ok (.iconst (-1), 1) := by decide +kernel
theorem dX13_spoilt_164 : decode cX13_spoilt 164 = .ok (.if_icmp .ne 13, 3) := by decide +kernel
theorem dX13_spoilt_167 : decode cX13_spoilt 167 = .ok (.bipush 100, 2) := by decide +kernel
theorem dX13_spoilt_169 : decode cX13_spoilt 169 = .ok (.iload 8, 2) := by decide +kernel
theorem dX13_spoilt_171 : decode cX13_spoilt 171 = .ok (.imul, 1) := by decide +kernel
theorem dX13_spoilt_172 : decode cX13_spoilt 172 = .ok (.iload 9, 2) := by decide +kernel
theorem dX13_spoilt_174 : decode cX13_spoilt 174 = .ok (.iadd, 1) := by decide +kernel
theorem dX13_spoilt_175 : decode cX13_spoilt 175 = .ok (.istore 6, 2) := by decide +kernel
theorem dX13_spoilt_177 : decode cX13_spoilt 177 = .ok (.iinc 9 1, 3) := by decide +kernel
theorem dX13_spoilt_180 : decode cX13_spoilt 180 = .ok (.goto (-76), 3) := by decide +kernel
theorem dX13_spoilt_183 : decode cX13_spoilt 183 = .ok (.iinc 8 1, 3) := by decide +kernel
theorem dX13_spoilt_186 : decode cX13_spoilt 186 = .ok (.goto (-95), 3) := by decide +kernel
theorem dX13_spoilt_189 : decode cX13_spoilt 189 = .ok (.iload 4, 2) := by decide +kernel
theorem dX13_spoilt_191 : decode cX13_spoilt 191 = .ok (.iconst 3, 1) := by decide +kernel
theorem dX13_spoilt_192 : decode cX13_spoilt 192 = .ok (.if_icmp .ne 8, 3) := by decide +kernel
theorem dX13_spoilt_195 : decode cX13_spoilt 195 = .ok (.iload 6, 2) := by decide +kernel
theorem dX13_spoilt_197 : decode cX13_spoilt 197 = .ok (.goto 5, 3) := by decide +kernel
theorem dX13_spoilt_200 : decode cX13_spoilt 200 = .ok (.iload 5, 2) := by decide +kernel
theorem dX13_spoilt_202 : decode cX13_spoilt 202 = .ok (.ireturn, 1) := by decide +kernel
theorem dX13_note_0 : decode cX13_note 0 = .ok (.aload_n 0, 1) := by decide +kernel
theorem dX13_note_1 : decode cX13_note 1 = .ok (.iconst 0, 1) := by decide +kernel
theorem dX13_note_2 : decode cX13_note 2 = .ok (.putfield 187, 3) := by decide +kernel
theorem dX13_note_5 : decode cX13_note 5 = .ok (.aload_n 0, 1) := by decide +kernel
theorem dX13_note_6 : decode cX13_note 6 = .ok (.getfield 351, 3) := by decide +kernel
theorem dX13_note_9 : decode cX13_note 9 = .ok (.bipush 8, 2) := by decide +kernel
theorem dX13_note_11 : decode cX13_note 11 = .ok (.if_icmp .eq 39, 3) := by decide +kernel
theorem dX13_note_14 : decode cX13_note 14 = .ok (.iload_n 1, 1) := by decide +kernel
theorem dX13_note_15 : decode cX13_note 15 = .ok (.i2l, 1) := by decide +kernel
theorem dX13_note_16 : decode cX13_note 16 = .ok (.lconst 0, 1) := by decide +kernel
theorem dX13_note_17 : decode cX13_note 17 = .ok (.ldc2_w 687, 3) := by decide +kernel
theorem dX13_note_20 : decode cX13_note 20 = .ok (.invokestatic 287, 3) := by decide +kernel
theorem dX13_note_23 : decode cX13_note 23 = .ok (.ifCond .eq 27, 3) := by decide +kernel
theorem dX13_note_26 : decode cX13_note 26 = .ok (.iload_n 2, 1) := by decide +kernel
theorem dX13_note_27 : decode cX13_note 27 = .ok (.i2l, 1) := by decide +kernel
theorem dX13_note_28 : decode cX13_note 28 = .ok (.lconst 0, 1) := by decide +kernel
theorem dX13_note_29 : decode cX13_note 29 = .ok (.ldc2_w 593, 3) := by decide +kernel
theorem dX13_note_32 : decode cX13_note 32 = .ok (.invokestatic 287, 3) := by decide +kernel
theorem dX13_note_35 : decode cX13_note 35 = .ok (.ifCond .eq 15, 3) := by decide +kernel
theorem dX13_note_38 : decode cX13_note 38 = .ok (.iload_n 3, 1) := by decide +kernel
theorem dX13_note_39 : decode cX13_note 39 = .ok (.i2l, 1) := by decide +kernel
theorem dX13_note_40 : decode cX13_note 40 = .ok (.lconst 0, 1) := by decide +kernel
theorem dX13_note_41 : decode cX13_note 41 = .ok (.ldc2_w 593, 3) := by decide +kernel
theorem dX13_note_44 : decode cX13_note 44 = .ok (.invokestatic 287, 3) := by decide +kernel
theorem dX13_note_47 : decode cX13_note 47 = .ok (.ifCond .ne 9, 3) := by decide +kernel
theorem dX13_note_50 : decode cX13_note 50 = .ok (.aload_n 0, 1) := by decide +kernel
theorem dX13_note_51 : decode cX13_note 51 = .ok (.iconst 2, 1) := by decide +kernel
theorem dX13_note_52 : decode cX13_note 52 = .ok (.invokevirtual 651, 3) := by decide +kernel
theorem dX13_note_55 : decode cX13_note 55 = .ok (.ireturn, 1) := by decide +kernel
theorem dX13_note_56 : decode cX13_note 56 = .ok (.aload_n 0, 1) := by decide +kernel
theorem dX13_note_57 : decode cX13_note 57 = .ok (.getfield 157, 3) := by decide +kernel
theorem dX13_note_60 : decode cX13_note 60 = .ok (.aload_n 0, 1) := by decide +kernel
theorem dX13_note_61 : decode cX13_note 61 = .ok (.getfield 351, 3) := by decide +kernel
theorem dX13_note_64 : decode cX13_note 64 = .ok (.iload_n 1, 1) := by decide +kernel
theorem dX13_note_65 : decode cX13_note 65 = .ok (.iastore, 1) := by decide +kernel
theorem dX13_note_66 : decode cX13_note 66 = .ok (.aload_n 0, 1) := by decide +kernel
theorem dX13_note_67 : decode cX13_note 67 = .ok (.getfield 160, 3) := by decide +kernel
theorem dX13_note_70 : decode cX13_note 70 = .ok (.aload_n 0, 1) := by decide +kernel
theorem dX13_note_71 : decode cX13_note 71 = .ok (.getfield 351, 3) := by decide +kernel
theorem dX13_note_74 : decode cX13_note 74 = .ok (.iload_n 2, 1) := by decide +kernel
theorem dX13_note_75 : decode cX13_note 75 = .ok (.iastore, 1) := by decide +kernel
theorem dX13_note_76 : decode cX13_note 76 = .ok (.aload_n 0, 1) := by decide +kernel
theorem dX13_note_77 : decode cX13_note 77 = .ok (.getfield 163, 3) := by decide +kernel
theorem dX13_note_80 : decode cX13_note 80 = .ok (.aload_n 0, 1) := by decide +kernel
theorem dX13_note_81 : decode cX13_note 81 = .ok (.getfield 351, 3) := by decide +kernel
theorem dX13_note_84 : decode cX13_note 84 = .ok (.iload_n 3, 1) := by decide +kernel
theorem dX13_note_85 : decode cX13_note 85 = .ok (.iastore, 1) := by decide +kernel
theorem dX13_note_86 : decode cX13_note 86 = .ok (.aload_n 0, 1) := by decide +kernel
theorem dX13_note_87 : decode cX13_note 87 = .ok (.dup, 1) := by decide +kernel
theorem dX13_note_88 : decode cX13_note 88 = .ok (.getfield 351, 3) := by decide +kernel
theorem dX13_note_91 : decode cX13_note 91 = .ok (.iconst 1, 1) := by decide +kernel
theorem dX13_note_92 : decode cX13_note 92 = .ok (.iadd, 1) := by decide +kernel
theorem dX13_note_93 : decode cX13_note 93 = .ok (.putfield 351, 3) := by decide +kernel
theorem dX13_note_96 : decode cX13_note 96 = .ok (.aload_n 0, 1) := by decide +kernel
theorem dX13_note_97 : decode cX13_note 97 = .ok (.getfield 351, 3) := by decide +kernel
theorem dX13_note_100 : decode cX13_note 100 = .ok (.ireturn, 1) := by decide +kernel
theorem dX13_forget_0 : decode cX13_forget 0 = .ok (.aload_n 0, 1) := by decide +kernel
theorem dX13_forget_1 : decode cX13_forget 1 = .ok (.iconst 0, 1) := by decide +kernel
theorem dX13_forget_2 : decode cX13_forget 2 = .ok (.putfield 187, 3) := by decide +kernel
theorem dX13_forget_5 : decode cX13_forget 5 = .ok (.aload_n 0, 1) := by decide +kernel
theorem dX13_forget_6 : decode cX13_forget 6 = .ok (.iconst 0, 1) := by decide +kernel
theorem dX13_forget_7 : decode cX13_forget 7 = .ok (.putfield 351, 3) := by decide +kernel
theorem dX13_forget_10 : decode cX13_forget 10 = .ok (.return_, 1) := by decide +kernel
theorem dX13_isAsNoted_0 : decode cX13_isAsNoted 0 = .ok (.iconst 1, 1) := by decide +kernel
theorem dX13_isAsNoted_1 : decode cX13_isAsNoted 1 = .ok (.istore_n 1, 1) := by decide +kernel
theorem dX13_isAsNoted_2 : decode cX13_isAsNoted 2 = .ok (.aload_n 0, 1) := by decide +kernel
theorem dX13_isAsNoted_3 : decode cX13_isAsNoted 3 = .ok (.getfield 76, 3) := by decide +kernel
theorem dX13_isAsNoted_6 : decode cX13_isAsNoted 6 = .ok (.sipush 278, 3) := by decide +kernel
theorem dX13_isAsNoted_9 : decode cX13_isAsNoted 9 = .ok (.iaload, 1) := by decide +kernel
theorem dX13_isAsNoted_10 : decode cX13_isAsNoted 10 = .ok (.istore_n 2, 1) := by decide +kernel
theorem dX13_isAsNoted_11 : decode cX13_isAsNoted 11 = .ok (.iconst 0, 1) := by decide +kernel
theorem dX13_isAsNoted_12 : decode cX13_isAsNoted 12 = .ok (.istore_n 3, 1) := by decide +kernel
theorem dX13_isAsNoted_13 : decode cX13_isAsNoted 13 = .ok (.iload_n 3, 1) := by decide +kernel
theorem dX13_isAsNoted_14 : decode cX13_isAsNoted 14 = .ok (.bipush 60, 2) := by decide +kernel
theorem dX13_isAsNoted_16 : decode cX13_isAsNoted 16 = .ok (.if_icmp .gt 86, 3) := by decide +kernel
theorem dX13_isAsNoted_19 : decode cX13_isAsNoted 19 = .ok (.iconst 0, 1) := by decide +kernel
theorem dX13_isAsNoted_20 : decode cX13_isAsNoted 20 = .ok (.istore 4, 2) := by decide +kernel
theorem dX13_isAsNoted_22 : decode cX13_isAsNoted 22 = .ok (.iload 4, 2) := by decide +kernel
theorem dX13_isAsNoted_24 : decode cX13_isAsNoted 24 = .ok (.aload_n 0, 1) := by decide +kernel
theorem dX13_isAsNoted_25 : decode cX13_isAsNoted 25 = .ok (.getfield 351, 3) := by decide +kernel
theorem dX13_isAsNoted_28 : decode cX13_isAsNoted 28 = .ok (.if_icmp .ge 52, 3) := by decide +kernel
theorem dX13_isAsNoted_31 : decode cX13_isAsNoted 31 = .ok (.iload_n 1, 1) := by decide +kernel
theorem dX13_isAsNoted_32 : decode cX13_isAsNoted 32 = .ok (.ifCond .eq 40, 3) := by decide +kernel
theorem dX13_isAsNoted_35 : decode cX13_isAsNoted 35 = .ok (.aload_n 0, 1) := by decide +kernel
theorem dX13_isAsNoted_36 : decode cX13_isAsNoted 36 = .ok (.getfield 157, 3) := by decide +kernel
theorem dX13_isAsNoted_39 : decode cX13_isAsNoted 39 = .ok (.iload 4, 2) := by decide +kernel
theorem dX13_isAsNoted_41 : decode cX13_isAsNoted 41 = .ok (.iaload, 1) := by decide +kernel
theorem dX13_isAsNoted_42 : decode cX13_isAsNoted 42 = .ok (.iload_n 3, 1) := by decide +kernel
theorem dX13_isAsNoted_43 : decode cX13_isAsNoted 43 = .ok (.if_icmp .ne 25, 3) := by decide +kernel
theorem dX13_isAsNoted_46 : decode cX13_isAsNoted 46 = .ok (.aload_n 0, 1) := by decide +kernel
theorem dX13_isAsNoted_47 : decode cX13_isAsNoted 47 = .ok (.getfield 76, 3) := by decide +kernel
theorem dX13_isAsNoted_50 : decode cX13_isAsNoted 50 = .ok (.aload_n 0, 1) := by decide +kernel
theorem dX13_isAsNoted_51 : decode cX13_isAsNoted 51 = .ok (.getfield 160, 3) := by decide +kernel
theorem dX13_isAsNoted_54 : decode cX13_isAsNoted 54 = .ok (.iload 4, 2) := by decide +kernel
theorem dX13_isAsNoted_56 : decode cX13_isAsNoted 56 = .ok (.iaload, 1) := by decide +kernel
theorem dX13_isAsNoted_57 : decode cX13_isAsNoted 57 = .ok (.iaload, 1) := by decide +kernel
theorem dX13_isAsNoted_58 : decode cX13_isAsNoted 58 = .ok (.aload_n 0, 1) := by decide +kernel
theorem dX13_isAsNoted_59 : decode cX13_isAsNoted 59 = .ok (.getfield 163, 3) := by decide +kernel
theorem dX13_isAsNoted_62 : decode cX13_isAsNoted 62 = .ok (.iload 4, 2) := by decide +kernel
theorem dX13_isAsNoted_64 : decode cX13_isAsNoted 64 = .ok (.iaload, 1) := by decide +kernel
theorem dX13_isAsNoted_65 : decode cX13_isAsNoted 65 = .ok (.if_icmp .ne 7, 3) := by decide +kernel
theorem dX13_isAsNoted_68 : decode cX13_isAsNoted 68 = .ok (.iconst 1, 1) := by decide +kernel
theorem dX13_isAsNoted_69 : decode cX13_isAsNoted 69 = .ok (.goto 4, 3) := by decide +kernel
theorem dX13_isAsNoted_72 : decode cX13_isAsNoted 72 = .ok (.iconst 0, 1) := by decide +kernel
theorem dX13_isAsNoted_73 : decode cX13_isAsNoted 73 = .ok (.istore_n 1, 1) := by decide +kernel
theorem dX13_isAsNoted_74 : decode cX13_isAsNoted 74 = .ok (.iinc 4 1, 3) := by decide +kernel
theorem dX13_isAsNoted_77 : decode cX13_isAsNoted 77 = .ok (.goto (-55), 3) := by decide +kernel
theorem dX13_isAsNoted_80 : decode cX13_isAsNoted 80 = .ok (.aload_n 0, 1) := by decide +kernel
theorem dX13_isAsNoted_81 : decode cX13_isAsNoted 81 = .ok (.getfield 76, 3) := by decide +kernel
theorem dX13_isAsNoted_84 : decode cX13_isAsNoted 84 = .ok (.sipush 278, 3) := by decide +kernel
theorem dX13_isAsNoted_87 : decode cX13_isAsNoted 87 = .ok (.iaload, 1) := by decide +kernel
theorem dX13_isAsNoted_88 : decode cX13_isAsNoted 88 = .ok (.iload_n 2, 1) := by decide +kernel
theorem dX13_isAsNoted_89 : decode cX13_isAsNoted 89 = .ok (.if_icmp .ne 7, 3) := by decide +kernel
theorem dX13_isAsNoted_92 : decode cX13_isAsNoted 92 = .ok (.aload_n 0, 1) := by decide +kernel
theorem dX13_isAsNoted_93 : decode cX13_isAsNoted 93 = .ok (.invokevirtual 587, 3) := by decide +kernel
theorem dX13_isAsNoted_96 : decode cX13_isAsNoted 96 = .ok (.iinc 3 1, 3) := by decide +kernel
theorem dX13_isAsNoted_99 : decode cX13_isAsNoted 99 = .ok (.goto (-86), 3) := by decide +kernel
theorem dX13_isAsNoted_102 : decode cX13_isAsNoted 102 = .ok (.aload_n 0, 1) := by decide +kernel
theorem dX13_isAsNoted_103 : decode cX13_isAsNoted 103 = .ok (.iconst 0, 1) := by decide +kernel
theorem dX13_isAsNoted_104 : decode cX13_isAsNoted 104 = .ok (.invokevirtual 667, 3) := by decide +kernel
theorem dX13_isAsNoted_107 : decode cX13_isAsNoted 107 = .ok (.pop, 1) := by decide +kernel
theorem dX13_isAsNoted_108 : decode cX13_isAsNoted 108 = .ok (.iload_n 1, 1) := by decide +kernel
theorem dX13_isAsNoted_109 : decode cX13_isAsNoted 109 = .ok (.ireturn, 1) := by decide +kernel
theorem dX13_blamed_0 : decode cX13_blamed 0 = .ok (.aload_n 0, 1) := by decide +kernel
theorem dX13_blamed_1 : decode cX13_blamed 1 = .ok (.iconst 0, 1) := by decide +kernel
theorem dX13_blamed_2 : decode cX13_blamed 2 = .ok (.putfield 187, 3) := by decide +kernel
theorem dX13_blamed_5 : decode cX13_blamed 5 = .ok (.iload_n 3, 1) := by decide +kernel
theorem dX13_blamed_6 : decode cX13_blamed 6 = .ok (.i2l, 1) := by decide +kernel
theorem dX13_blamed_7 : decode cX13_blamed 7 = .ok (.lconst 0, 1) := by decide +kernel
theorem dX13_blamed_8 : decode cX13_blamed 8 = .ok (.ldc2_w 597, 3) := by decide +kernel
theorem dX13_blamed_11 : decode cX13_blamed 11 = .ok (.invokestatic 287, 3) := by decide +kernel
theorem dX13_blamed_14 : decode cX13_blamed 14 = .ok (.ifCond .ne 9, 3) := by decide +kernel
theorem dX13_blamed_17 : decode cX13_blamed 17 = .ok (.aload_n 0, 1) := by decide +kernel
theorem dX13_blamed_18 : decode cX13_blamed 18 = .ok (.iconst 1, 1) := by decide +kernel
theorem dX13_blamed_19 : decode cX13_blamed 19 = .ok (.invokevirtual 329, 3) := by decide +kernel
theorem dX13_blamed_22 : decode cX13_blamed 22 = .ok (.ireturn, 1) := by decide +kernel
theorem dX13_blamed_23 : decode cX13_blamed 23 = .ok (.aload_n 0, 1) := by decide +kernel
theorem dX13_blamed_24 : decode cX13_blamed 24 = .ok (.iload_n 1, 1) := by decide +kernel
theorem dX13_blamed_25 : decode cX13_blamed 25 = .ok (.iload_n 2, 1) := by decide +kernel
theorem dX13_blamed_26 : decode cX13_blamed 26 = .ok (.iconst 3, 1) := by decide +kernel
theorem dX13_blamed_27 : decode cX13_blamed 27 = .ok (.invokevirtual 603, 3) := by decide +kernel
theorem dX13_blamed_30 : decode cX13_blamed 30 = .ok (.ifCond .ne 9, 3) := by decide +kernel
theorem dX13_blamed_33 : decode cX13_blamed 33 = .ok (.aload_n 0, 1) := by decide +kernel
theorem dX13_blamed_34 : decode cX13_blamed 34 = .ok (.iconst 2, 1) := by decide +kernel
theorem dX13_blamed_35 : decode cX13_blamed 35 = .ok (.invokevirtual 329, 3) := by decide +kernel
theorem dX13_blamed_38 : decode cX13_blamed 38 = .ok (.ireturn, 1) := by decide +kernel
theorem dX13_blamed_39 : decode cX13_blamed 39 = .ok (.aload_n 0, 1) := by decide +kernel
theorem dX13_blamed_40 : decode cX13_blamed 40 = .ok (.invokevirtual 664, 3) := by decide +kernel
theorem dX13_blamed_43 : decode cX13_blamed 43 = .ok (.iload_n 3, 1) := by decide +kernel
theorem dX13_blamed_44 : decode cX13_blamed 44 = .ok (.iconst 2, 1) := by decide +kernel
theorem dX13_blamed_45 : decode cX13_blamed 45 = .ok (.if_icmp .ne 16, 3) := by decide +kernel
theorem dX13_blamed_48 : decode cX13_blamed 48 = .ok (.aload_n 0, 1) := by decide +kernel
theorem dX13_blamed_49 : decode cX13_blamed 49 = .ok (.invokevirtual 693, 3) := by decide +kernel
theorem dX13_blamed_52 : decode cX13_blamed 52 = .ok (.ifCond .eq 7, 3) := by decide +kernel
theorem dX13_blamed_55 : decode cX13_blamed 55 = .ok (.iconst 1, 1) := by decide +kernel
theorem dX13_blamed_56 : decode cX13_blamed 56 = .ok (.goto 4, 3) := by decide +kernel
theorem dX13_blamed_59 : decode cX13_blamed 59 = .ok (.iconst 0, 1) := by decide +kernel
theorem dX13_blamed_60 : decode cX13_blamed 60 = .ok (.ireturn, 1) := by decide +kernel
theorem dX13_blamed_61 : decode cX13_blamed 61 = .ok (.iconst 0, 1) := by decide +kernel
theorem dX13_blamed_62 : decode cX13_blamed 62 = .ok (.istore 4, 2) := by decide +kernel
theorem dX13_blamed_64 : decode cX13_blamed 64 = .ok (.iconst (-1), 1) := by decide +kernel
theorem dX13_blamed_65 : decode cX13_blamed 65 = .ok (.istore 5, 2) := by decide +kernel
theorem dX13_blamed_67 : decode cX13_blamed 67 = .ok (.iconst 2, 1) := by decide +kernel
theorem dX13_blamed_68 : decode cX13_blamed 68 = .ok (.iload_n 1, 1) := by decide +kernel
theorem dX13_blamed_69 : decode cX13_blamed 69 = .ok (.imul, 1) := by decide +kernel
theorem dX13_blamed_70 : decode cX13_blamed 70 = .ok (.istore 6, 2) := by decide +kernel
theorem dX13_blamed_72 : decode cX13_blamed 72 = .ok (.iload 6, 2) := by decide +kernel
theorem dX13_blamed_74 : decode cX13_blamed 74 = .ok (.iconst 2, 1) := by decide +kernel
theorem dX13_blamed_75 : decode cX13_blamed 75 = .ok (.iload_n 1, 1) := by decide +kernel
theorem dX13_blamed_76 : decode cX13_blamed 76 = .ok (.iload_n 2, 1) := by decide +kernel
theorem dX13_blamed_77 : decode cX13_blamed 77 = .ok (.iadd, 1) := by decide +kernel
theorem dX13_blamed_78 : decode cX13_blamed 78 = .ok (.imul, 1) := by decide +kernel
theorem dX13_blamed_79 : decode cX13_blamed 79 = .ok (.if_icmp .ge 81, 3) := by decide +kernel
theorem dX13_blamed_82 : decode cX13_blamed 82 = .ok (.iconst 0, 1) := by decide +kernel
theorem dX13_blamed_83 : decode cX13_blamed 83 = .ok (.istore 7, 2) := by decide +kernel
theorem dX13_blamed_85 : decode cX13_blamed 85 = .ok (.iload 7, 2) := by decide +kernel
theorem dX13_blamed_87 : decode cX13_blamed 87 = .ok (.bipush 16, 2) := by decide +kernel
theorem dX13_blamed_89 : decode cX13_blamed 89 = .ok (.if_icmp .ge 65, 3) := by decide +kernel
theorem dX13_blamed_92 : decode cX13_blamed 92 = .ok (.iload 7, 2) := by decide +kernel
theorem dX13_blamed_94 : decode cX13_blamed 94 = .ok (.aload_n 0, 1) := by decide +kernel
theorem dX13_blamed_95 : decode cX13_blamed 95 = .ok (.iload 6, 2) := by decide +kernel
theorem dX13_blamed_97 : decode cX13_blamed 97 = .ok (.invokevirtual 374, 3) := by decide +kernel
theorem dX13_blamed_100 : decode cX13_blamed 100 = .ok (.if_icmp .ne 6, 3) := by decide +kernel
theorem dX13_blamed_103 : decode cX13_blamed 103 = .ok (.goto 45, 3) := by decide +kernel
theorem dX13_blamed_106 : decode cX13_blamed 106 = .ok (.aload_n 0, 1) := by decide +kernel
theorem dX13_blamed_107 : decode cX13_blamed 107 = .ok (.iload 6, 2) := by decide +kernel
theorem dX13_blamed_109 : decode cX13_blamed 109 = .ok (.iload 7, 2) := by decide +kernel
theorem dX13_blamed_111 : decode cX13_blamed 111 = .ok (.invokevirtual 381, 3) := by decide +kernel
theorem dX13_blamed_114 : decode cX13_blamed 114 = .ok (.aload_n 0, 1) := by decide +kernel
theorem dX13_blamed_115 : decode cX13_blamed 115 = .ok (.invokevirtual 693, 3) := by decide +kernel
theorem dX13_blamed_118 : decode cX13_blamed 118 = .ok (.ifCond .ne 6, 3) := by decide +kernel
theorem dX13_blamed_121 : decode cX13_blamed 121 = .ok (.goto 27, 3) := by decide +kernel
theorem dX13_blamed_124 : decode cX13_blamed 124 = .ok (.iinc 4 1, 3) := by decide +kernel
theorem dX13_blamed_127 : decode cX13_blamed 127 = .ok (.iload 5, 2) := by decide +kernel
theorem dX13_blamed_129 : decode cX13_blamed 129 = .ok (.iconst (-1), 1) := by decide +kernel
theorem dX13_blamed_130 : decode cX13_blamed 130 = .ok (.if_icmp .ne 14, 3) := by decide +kernel
theorem dX13_blamed_133 : decode cX13_blamed 133 = .ok (.bipush 100, 2) := by decide +kernel
theorem dX13_blamed_135 : decode cX13_blamed 135 = .ok (.iload 6, 2) := by decide +kernel
theorem dX13_blamed_137 : decode cX13_blamed 137 = .ok (.imul, 1) := by decide +kernel
theorem dX13_blamed_138 : decode cX13_blamed 138 = .ok (.iload 7, 2) := by decide +kernel
theorem dX13_blamed_140 : decode cX13_blamed 140 = .ok (.iadd, 1) := by decide +kernel
theorem dX13_blamed_141 : decode cX13_blamed 141 = .ok (.goto 5, 3) := by decide +kernel
theorem dX13_blamed_144 : decode cX13_blamed 144 = .ok (.iload 5, 2) := by decide +kernel
theorem dX13_blamed_146 : decode cX13_blamed 146 = .ok (.istore 5, 2) := by decide +kernel
theorem dX13_blamed_148 : decode cX13_blamed 148 = .ok (.iinc 7 1, 3) := by decide +kernel
theorem dX13_blamed_151 : decode cX13_blamed 151 = .ok (.goto (-66), 3) := by decide +kernel
theorem dX13_blamed_154 : decode cX13_blamed 154 = .ok (.iinc 6 1, 3) := by decide +kernel
theorem dX13_blamed_157 : decode cX13_blamed 157 = .ok (.goto (-85), 3) := by decide +kernel
theorem dX13_blamed_160 : decode cX13_blamed 160 = .ok (.iload_n 3, 1) := by decide +kernel
theorem dX13_blamed_161 : decode cX13_blamed 161 = .ok (.ifCond .ne 8, 3) := by decide +kernel
theorem dX13_blamed_164 : decode cX13_blamed 164 = .ok (.iload 4, 2) := by decide +kernel
theorem dX13_blamed_166 : decode cX13_blamed 166 = .ok (.goto 5, 3) := by decide +kernel
theorem dX13_blamed_169 : decode cX13_blamed 169 = .ok (.iload 5, 2) := by decide +kernel
theorem dX13_blamed_171 : decode cX13_blamed 171 = .ok (.ireturn, 1) := by decide +kernel
theorem dX13_drawOf_0 : decode cX13_drawOf 0 = .ok (.aload_n 0, 1) := by decide +kernel
theorem dX13_drawOf_1 : decode cX13_drawOf 1 = .ok (.aload_n 0, 1) := by decide +kernel
theorem dX13_drawOf_2 : decode cX13_drawOf 2 = .ok (.getfield 696, 3) := by decide +kernel
theorem dX13_drawOf_5 : decode cX13_drawOf 5 = .ok (.ldc_w 699, 3) := by decide +kernel
theorem dX13_drawOf_8 : decode cX13_drawOf 8 = .ok (.imul, 1) := by decide +kernel
theorem dX13_drawOf_9 : decode cX13_drawOf 9 = .ok (.sipush 12345, 3) := by decide +kernel
theorem dX13_drawOf_12 : decode cX13_drawOf 12 = .ok (.iadd, 1) := by decide +kernel
theorem dX13_drawOf_13 : decode cX13_drawOf 13 = .ok (.putfield 696, 3) := by decide +kernel
theorem dX13_drawOf_16 : decode cX13_drawOf 16 = .ok (.aload_n 0, 1) := by decide +kernel
theorem dX13_drawOf_17 : decode cX13_drawOf 17 = .ok (.getfield 696, 3) := by decide +kernel
theorem dX13_drawOf_20 : decode cX13_drawOf 20 = .ok (.bipush 16, 2) := by decide +kernel
theorem dX13_drawOf_22 : decode cX13_drawOf 22 = .ok (.ishr, 1) := by decide +kernel
theorem dX13_drawOf_23 : decode cX13_drawOf 23 = .ok (.sipush 32767, 3) := by decide +kernel
theorem dX13_drawOf_26 : decode cX13_drawOf 26 = .ok (.iand, 1) := by decide +kernel
theorem dX13_drawOf_27 : decode cX13_drawOf 27 = .ok (.iload_n 1, 1) := by decide +kernel
theorem dX13_drawOf_28 : decode cX13_drawOf 28 = .ok (.irem, 1) := by decide +kernel
theorem dX13_drawOf_29 : decode cX13_drawOf 29 = .ok (.ireturn, 1) := by decide +kernel
theorem dX13_years_0 : decode cX13_years 0 = .ok (.aload_n 0, 1) := by decide +kernel
theorem dX13_years_1 : decode cX13_years 1 = .ok (.iconst 0, 1) := by decide +kernel
theorem dX13_years_2 : decode cX13_years 2 = .ok (.putfield 187, 3) := by decide +kernel
theorem dX13_years_5 : decode cX13_years 5 = .ok (.iload_n 3, 1) := by decide +kernel
theorem dX13_years_6 : decode cX13_years 6 = .ok (.i2l, 1) := by decide +kernel
theorem dX13_years_7 : decode cX13_years 7 = .ok (.lconst 0, 1) := by decide +kernel
theorem dX13_years_8 : decode cX13_years 8 = .ok (.ldc2_w 597, 3) := by decide +kernel
theorem dX13_years_11 : decode cX13_years 11 = .ok (.invokestatic 287, 3) := by decide +kernel
theorem dX13_years_14 : decode cX13_years 14 = .ok (.ifCond .ne 9, 3) := by decide +kernel
theorem dX13_years_17 : decode cX13_years 17 = .ok (.aload_n 0, 1) := by decide +kernel
theorem dX13_years_18 : decode cX13_years 18 = .ok (.iconst 1, 1) := by decide +kernel
theorem dX13_years_19 : decode cX13_years 19 = .ok (.invokevirtual 329, 3) := by decide +kernel
theorem dX13_years_22 : decode cX13_years 22 = .ok (.ireturn, 1) := by decide +kernel
theorem dX13_years_23 : decode cX13_years 23 = .ok (.iload_n 2, 1) := by decide +kernel
theorem dX13_years_24 : decode cX13_years 24 = .ok (.i2l, 1) := by decide +kernel
theorem dX13_years_25 : decode cX13_years 25 = .ok (.lconst 0, 1) := by decide +kernel
theorem dX13_years_26 : decode cX13_years 26 = .ok (.ldc2_w 700, 3) := by decide +kernel
theorem dX13_years_29 : decode cX13_years 29 = .ok (.invokestatic 287, 3) := by decide +kernel
theorem dX13_years_32 : decode cX13_years 32 = .ok (.ifCond .ne 9, 3) := by decide +kernel
theorem dX13_years_35 : decode cX13_years 35 = .ok (.aload_n 0, 1) := by decide +kernel
theorem dX13_years_36 : decode cX13_years 36 = .ok (.iconst 2, 1) := by decide +kernel
theorem dX13_years_37 : decode cX13_years 37 = .ok (.invokevirtual 329, 3) := by decide +kernel
theorem dX13_years_40 : decode cX13_years 40 = .ok (.ireturn, 1) := by decide +kernel
theorem dX13_years_41 : decode cX13_years 41 = .ok (.aload_n 0, 1) := by decide +kernel
theorem dX13_years_42 : decode cX13_years 42 = .ok (.invokevirtual 664, 3) := by decide +kernel
theorem dX13_years_45 : decode cX13_years 45 = .ok (.aload_n 0, 1) := by decide +kernel
theorem dX13_years_46 : decode cX13_years 46 = .ok (.iload_n 1, 1) := by decide +kernel
theorem dX13_years_47 : decode cX13_years 47 = .ok (.putfield 696, 3) := by decide +kernel
theorem dX13_years_50 : decode cX13_years 50 = .ok (.iconst 0, 1) := by decide +kernel
theorem dX13_years_51 : decode cX13_years 51 = .ok (.istore 4, 2) := by decide +kernel
theorem dX13_years_53 : decode cX13_years 53 = .ok (.iconst 0, 1) := by decide +kernel
theorem dX13_years_54 : decode cX13_years 54 = .ok (.istore 5, 2) := by decide +kernel
theorem dX13_years_56 : decode cX13_years 56 = .ok (.iload 5, 2) := by decide +kernel
theorem dX13_years_58 : decode cX13_years 58 = .ok (.iload_n 2, 1) := by decide +kernel
theorem dX13_years_59 : decode cX13_years 59 = .ok (.if_icmp .ge 76, 3) := by decide +kernel
theorem dX13_years_62 : decode cX13_years 62 = .ok (.aload_n 0, 1) := by decide +kernel
theorem dX13_years_63 : decode cX13_years 63 = .ok (.iconst 3, 1) := by decide +kernel
theorem dX13_years_64 : decode cX13_years 64 = .ok (.invokevirtual 702, 3) := by decide +kernel
theorem dX13_years_67 : decode cX13_years 67 = .ok (.istore 6, 2) := by decide +kernel
theorem dX13_years_69 : decode cX13_years 69 = .ok (.iload 6, 2) := by decide +kernel
theorem dX13_years_71 : decode cX13_years 71 = .ok (.ifCond .ne 29, 3) := by decide +kernel
theorem dX13_years_74 : decode cX13_years 74 = .ok (.aload_n 0, 1) := by decide +kernel
theorem dX13_years_75 : decode cX13_years 75 = .ok (.sipush 256, 3) := by decide +kernel
theorem dX13_years_78 : decode cX13_years 78 = .ok (.invokevirtual 702, 3) := by decide +kernel
theorem dX13_years_81 : decode cX13_years 81 = .ok (.istore 7, 2) := by decide +kernel
theorem dX13_years_83 : decode cX13_years 83 = .ok (.aload_n 0, 1) := by decide +kernel
theorem dX13_years_84 : decode cX13_years 84 = .ok (.getfield 76, 3) := by decide +kernel
theorem dX13_years_87 : decode cX13_years 87 = .ok (.iload 7, 2) := by decide +kernel
theorem dX13_years_89 : decode cX13_years 89 = .ok (.aload_n 0, 1) := by decide +kernel
theorem dX13_years_90 : decode cX13_years 90 = .ok (.sipush 256, 3) := by decide +kernel
theorem dX13_years_93 : decode cX13_years 93 = .ok (.invokevirtual 702, 3) := by decide +kernel
theorem dX13_years_96 : decode cX13_years 96 = .ok (.iastore, 1) := by decide +kernel
theorem dX13_years_97 : decode cX13_years 97 = .ok (.goto 27, 3) := by decide +kernel
theorem dX13_years_100 : decode cX13_years 100 = .ok (.iload 6, 2) := by decide +kernel
theorem dX13_years_102 : decode cX13_years 102 = .ok (.iconst 1, 1) := by decide +kernel
theorem dX13_years_103 : decode cX13_years 103 = .ok (.if_icmp .ne 21, 3) := by decide +kernel
theorem dX13_years_106 : decode cX13_years 106 = .ok (.aload_n 0, 1) := by decide +kernel
theorem dX13_years_107 : decode cX13_years 107 = .ok (.getfield 76, 3) := by decide +kernel
theorem dX13_years_110 : decode cX13_years 110 = .ok (.sipush 276, 3) := by decide +kernel
theorem dX13_years_113 : decode cX13_years 113 = .ok (.iaload, 1) := by decide +kernel
theorem dX13_years_114 : decode cX13_years 114 = .ok (.ifCond .eq 10, 3) := by decide +kernel
theorem dX13_years_117 : decode cX13_years 117 = .ok (.aload_n 0, 1) := by decide +kernel
theorem dX13_years_118 : decode cX13_years 118 = .ok (.invokevirtual 184, 3) := by decide +kernel
theorem dX13_years_121 : decode cX13_years 121 = .ok (.iinc 4 1, 3) := by decide +kernel
theorem dX13_years_124 : decode cX13_years 124 = .ok (.aload_n 0, 1) := by decide +kernel
theorem dX13_years_125 : decode cX13_years 125 = .ok (.iconst 5, 1) := by decide +kernel
theorem dX13_years_126 : decode cX13_years 126 = .ok (.invokevirtual 657, 3) := by decide +kernel
theorem dX13_years_129 : decode cX13_years 129 = .ok (.iinc 5 1, 3) := by decide +kernel
theorem dX13_years_132 : decode cX13_years 132 = .ok (.goto (-76), 3) := by decide +kernel
theorem dX13_years_135 : decode cX13_years 135 = .ok (.iconst 0, 1) := by decide +kernel
theorem dX13_years_136 : decode cX13_years 136 = .ok (.istore 5, 2) := by decide +kernel
theorem dX13_years_138 : decode cX13_years 138 = .ok (.iconst 0, 1) := by decide +kernel
theorem dX13_years_139 : decode cX13_years 139 = .ok (.istore 6, 2) := by decide +kernel
theorem dX13_years_141 : decode cX13_years 141 = .ok (.iload 6, 2) := by decide +kernel
theorem dX13_years_143 : decode cX13_years 143 = .ok (.sipush 256, 3) := by decide +kernel
theorem dX13_years_146 : decode cX13_years 146 = .ok (.if_icmp .ge 36, 3) := by decide +kernel
theorem dX13_years_149 : decode cX13_years 149 = .ok (.iload 5, 2) := by decide +kernel
theorem dX13_years_151 : decode cX13_years 151 = .ok (.aload_n 0, 1) := by decide +kernel
theorem dX13_years_152 : decode cX13_years 152 = .ok (.getfield 76, 3) := by decide +kernel
theorem dX13_years_155 : decode cX13_years 155 = .ok (.iload 6, 2) := by decide +kernel
theorem dX13_years_157 : decode cX13_years 157 = .ok (.iaload, 1) := by decide +kernel
theorem dX13_years_158 : decode cX13_years 158 = .ok (.aload_n 0, 1) := by decide +kernel
theorem dX13_years_159 : decode cX13_years 159 = .ok (.getfield 151, 3) := by decide +kernel
theorem dX13_years_162 : decode cX13_years 162 = .ok (.iload 6, 2) := by decide +kernel
theorem dX13_years_164 : decode cX13_years 164 = .ok (.iaload, 1) := by decide +kernel
theorem dX13_years_165 : decode cX13_years 165 = .ok (.if_icmp .eq 7, 3) := by decide +kernel
theorem dX13_years_168 : decode cX13_years 168 = .ok (.iconst 1, 1) := by decide +kernel
theorem dX13_years_169 : decode cX13_years 169 = .ok (.goto 4, 3) := by decide +kernel
theorem dX13_years_172 : decode cX13_years 172 = .ok (.iconst 0, 1) := by decide +kernel
theorem dX13_years_173 : decode cX13_years 173 = .ok (.iadd, 1) := by decide +kernel
theorem dX13_years_174 : decode cX13_years 174 = .ok (.istore 5, 2) := by decide +kernel
theorem dX13_years_176 : decode cX13_years 176 = .ok (.iinc 6 1, 3) := by decide +kernel
theorem dX13_years_179 : decode cX13_years 179 = .ok (.goto (-38), 3) := by decide +kernel
theorem dX13_years_182 : decode cX13_years 182 = .ok (.aload_n 0, 1) := by decide +kernel
theorem dX13_years_183 : decode cX13_years 183 = .ok (.iload_n 3, 1) := by decide +kernel
theorem dX13_years_184 : decode cX13_years 184 = .ok (.ifCond .ne 23, 3) := by decide +kernel
theorem dX13_years_187 : decode cX13_years 187 = .ok (.aload_n 0, 1) := by decide +kernel
theorem dX13_years_188 : decode cX13_years 188 = .ok (.getfield 76, 3) := by decide +kernel
theorem dX13_years_191 : decode cX13_years 191 = .ok (.sipush 278, 3) := by decide +kernel
theorem dX13_years_194 : decode cX13_years 194 = .ok (.iaload, 1) := by decide +kernel
theorem dX13_years_195 : decode cX13_years 195 = .ok (.aload_n 0, 1) := by decide +kernel
theorem dX13_years_196 : decode cX13_years 196 = .ok (.getfield 151, 3) := by decide +kernel
theorem dX13_years_199 : decode cX13_years 199 = .ok (.sipush 278, 3) := by decide +kernel
theorem dX13_years_202 : decode cX13_years 202 = .ok (.iaload, 1) := by decide +kernel
theorem dX13_years_203 : decode cX13_years 203 = .ok (.isub, 1) := by decide +kernel
theorem dX13_years_204 : decode cX13_years 204 = .ok (.goto 15, 3) := by decide +kernel
theorem dX13_years_207 : decode cX13_years 207 = .ok (.iload_n 3, 1) := by decide +kernel
theorem dX13_years_208 : decode cX13_years 208 = .ok (.iconst 1, 1) := by decide +kernel
theorem dX13_years_209 : decode cX13_years 209 = .ok (.if_icmp .ne 8, 3) := by decide +kernel
theorem dX13_years_212 : decode cX13_years 212 = .ok (.iload 4, 2) := by decide +kernel
theorem dX13_years_214 : decode cX13_years 214 = .ok (.goto 5, 3) := by decide +kernel
theorem dX13_years_217 : decode cX13_years 217 = .ok (.iload 5, 2) := by decide +kernel
theorem dX13_years_219 : decode cX13_years 219 = .ok (.invokevirtual 667, 3) := by decide +kernel
theorem dX13_years_222 : decode cX13_years 222 = .ok (.ireturn, 1) := by decide +kernel
theorem dX13_image_0 : decode cX13_image 0 = .ok (.aload_n 0, 1) := by decide +kernel
theorem dX13_image_1 : decode cX13_image 1 = .ok (.iconst 0, 1) := by decide +kernel
theorem dX13_image_2 : decode cX13_image 2 = .ok (.putfield 187, 3) := by decide +kernel
theorem dX13_image_5 : decode cX13_image 5 = .ok (.aload_n 0, 1) := by decide +kernel
theorem dX13_image_6 : decode cX13_image 6 = .ok (.iconst 1, 1) := by decide +kernel
theorem dX13_image_7 : decode cX13_image 7 = .ok (.putfield 354, 3) := by decide +kernel
theorem dX13_image_10 : decode cX13_image 10 = .ok (.aload_n 0, 1) := by decide +kernel
theorem dX13_image_11 : decode cX13_image 11 = .ok (.aload_n 0, 1) := by decide +kernel
theorem dX13_image_12 : decode cX13_image 12 = .ok (.getfield 348, 3) := by decide +kernel
theorem dX13_image_15 : decode cX13_image 15 = .ok (.putfield 705, 3) := by decide +kernel
theorem dX13_image_18 : decode cX13_image 18 = .ok (.aload_n 0, 1) := by decide +kernel
theorem dX13_image_19 : decode cX13_image 19 = .ok (.aload_n 0, 1) := by decide +kernel
theorem dX13_image_20 : decode cX13_image 20 = .ok (.getfield 351, 3) := by decide +kernel
theorem dX13_image_23 : decode cX13_image 23 = .ok (.putfield 708, 3) := by decide +kernel
theorem dX13_image_26 : decode cX13_image 26 = .ok (.aload_n 0, 1) := by decide +kernel
theorem dX13_image_27 : decode cX13_image 27 = .ok (.getfield 166, 3) := by decide +kernel
theorem dX13_image_30 : decode cX13_image 30 = .ok (.aload_n 0, 1) := by decide +kernel
theorem dX13_image_31 : decode cX13_image 31 = .ok (.getfield 76, 3) := by decide +kernel
theorem dX13_image_34 : decode cX13_image 34 = .ok (.invokestatic 660, 3) := by decide +kernel
theorem dX13_image_37 : decode cX13_image 37 = .ok (.aload_n 0, 1) := by decide +kernel
theorem dX13_image_38 : decode cX13_image 38 = .ok (.getfield 169, 3) := by decide +kernel
theorem dX13_image_41 : decode cX13_image 41 = .ok (.aload_n 0, 1) := by decide +kernel
theorem dX13_image_42 : decode cX13_image 42 = .ok (.getfield 148, 3) := by decide +kernel
theorem dX13_image_45 : decode cX13_image 45 = .ok (.invokestatic 660, 3) := by decide +kernel
theorem dX13_image_48 : decode cX13_image 48 = .ok (.aload_n 0, 1) := by decide +kernel
theorem dX13_image_49 : decode cX13_image 49 = .ok (.getfield 172, 3) := by decide +kernel
theorem dX13_image_52 : decode cX13_image 52 = .ok (.aload_n 0, 1) := by decide +kernel
theorem dX13_image_53 : decode cX13_image 53 = .ok (.getfield 157, 3) := by decide +kernel
theorem dX13_image_56 : decode cX13_image 56 = .ok (.invokestatic 660, 3) := by decide +kernel
theorem dX13_image_59 : decode cX13_image 59 = .ok (.aload_n 0, 1) := by decide +kernel
theorem dX13_image_60 : decode cX13_image 60 = .ok (.getfield 175, 3) := by decide +kernel
theorem dX13_image_63 : decode cX13_image 63 = .ok (.aload_n 0, 1) := by decide +kernel
theorem dX13_image_64 : decode cX13_image 64 = .ok (.getfield 160, 3) := by decide +kernel
theorem dX13_image_67 : decode cX13_image 67 = .ok (.invokestatic 660, 3) := by decide +kernel
theorem dX13_image_70 : decode cX13_image 70 = .ok (.aload_n 0, 1) := by decide +kernel
theorem dX13_image_71 : decode cX13_image 71 = .ok (.getfield 178, 3) := by decide +kernel
theorem dX13_image_74 : decode cX13_image 74 = .ok (.aload_n 0, 1) := by decide +kernel
theorem dX13_image_75 : decode cX13_image 75 = .ok (.getfield 163, 3) := by decide +kernel
theorem dX13_image_78 : decode cX13_image 78 = .ok (.invokestatic 660, 3) := by decide +kernel
theorem dX13_image_81 : decode cX13_image 81 = .ok (.aload_n 0, 1) := by decide +kernel
theorem dX13_image_82 : decode cX13_image 82 = .ok (.getfield 181, 3) := by decide +kernel
theorem dX13_image_85 : decode cX13_image 85 = .ok (.aload_n 0, 1) := by decide +kernel
theorem dX13_image_86 : decode cX13_image 86 = .ok (.getfield 80, 3) := by decide +kernel
theorem dX13_image_89 : decode cX13_image 89 = .ok (.invokestatic 660, 3) := by decide +kernel
theorem dX13_image_92 : decode cX13_image 92 = .ok (.return_, 1) := by decide +kernel
theorem dX13_restore_0 : decode cX13_restore 0 = .ok (.aload_n 0, 1) := by decide +kernel
theorem dX13_restore_1 : decode cX13_restore 1 = .ok (.iconst 0, 1) := by decide +kernel
theorem dX13_restore_2 : decode cX13_restore 2 = .ok (.putfield 187, 3) := by decide +kernel
theorem dX13_restore_5 : decode cX13_restore 5 = .ok (.aload_n 0, 1) := by decide +kernel
theorem dX13_restore_6 : decode cX13_restore 6 = .ok (.getfield 354, 3) := by decide +kernel
theorem dX13_restore_9 : decode cX13_restore 9 = .ok (.ifCond .ne 5, 3) := by decide +kernel
theorem dX13_restore_12 : decode cX13_restore 12 = .ok (.iconst 0, 1) := by decide +kernel
theorem dX13_restore_13 : decode cX13_restore 13 = .ok (.ireturn, 1) := by decide +kernel
theorem dX13_restore_14 : decode cX13_restore 14 = .ok (.aload_n 0, 1) := by decide +kernel
theorem dX13_restore_15 : decode cX13_restore 15 = .ok (.aload_n 0, 1) := by decide +kernel
theorem dX13_restore_16 : decode cX13_restore 16 = .ok (.getfield 705, 3) := by decide +kernel
theorem dX13_restore_19 : decode cX13_restore 19 = .ok (.putfield 348, 3) := by decide +kernel
theorem dX13_restore_22 : decode cX13_restore 22 = .ok (.aload_n 0, 1) := by decide +kernel
theorem dX13_restore_23 : decode cX13_restore 23 = .ok (.aload_n 0, 1) := by decide +kernel
theorem dX13_restore_24 : decode cX13_restore 24 = .ok (.getfield 708, 3) := by decide +kernel
theorem dX13_restore_27 : decode cX13_restore 27 = .ok (.putfield 351, 3) := by decide +kernel
theorem dX13_restore_30 : decode cX13_restore 30 = .ok (.aload_n 0, 1) := by decide +kernel
theorem dX13_restore_31 : decode cX13_restore 31 = .ok (.getfield 76, 3) := by decide +kernel
theorem dX13_restore_34 : decode cX13_restore 34 = .ok (.aload_n 0, 1) := by decide +kernel
theorem dX13_restore_35 : decode cX13_restore 35 = .ok (.getfield 166, 3) := by decide +kernel
theorem dX13_restore_38 : decode cX13_restore 38 = .ok (.invokestatic 660, 3) := by decide +kernel
theorem dX13_restore_41 : decode cX13_restore 41 = .ok (.aload_n 0, 1) := by decide +kernel
theorem dX13_restore_42 : decode cX13_restore 42 = .ok (.getfield 148, 3) := by decide +kernel
theorem dX13_restore_45 : decode cX13_restore 45 = .ok (.aload_n 0, 1) := by decide +kernel
theorem dX13_restore_46 : decode cX13_restore 46 = .ok (.getfield 169, 3) := by decide +kernel
theorem dX13_restore_49 : decode cX13_restore 49 = .ok (.invokestatic 660, 3) := by decide +kernel
theorem dX13_restore_52 : decode cX13_restore 52 = .ok (.aload_n 0, 1) := by decide +kernel
theorem dX13_restore_53 : decode cX13_restore 53 = .ok (.getfield 157, 3) := by decide +kernel
theorem dX13_restore_56 : decode cX13_restore 56 = .ok (.aload_n 0, 1) := by decide +kernel
theorem dX13_restore_57 : decode cX13_restore 57 = .ok (.getfield 172, 3) := by decide +kernel
theorem dX13_restore_60 : decode cX13_restore 60 = .ok (.invokestatic 660, 3) := by decide +kernel
theorem dX13_restore_63 : decode cX13_restore 63 = .ok (.aload_n 0, 1) := by decide +kernel
theorem dX13_restore_64 : decode cX13_restore 64 = .ok (.getfield 160, 3) := by decide +kernel
theorem dX13_restore_67 : decode cX13_restore 67 = .ok (.aload_n 0, 1) := by decide +kernel
theorem dX13_restore_68 : decode cX13_restore 68 = .ok (.getfield 175, 3) := by decide +kernel
theorem dX13_restore_71 : decode cX13_restore 71 = .ok (.invokestatic 660, 3) := by decide +kernel
theorem dX13_restore_74 : decode cX13_restore 74 = .ok (.aload_n 0, 1) := by decide +kernel
theorem dX13_restore_75 : decode cX13_restore 75 = .ok (.getfield 163, 3) := by decide +kernel
theorem dX13_restore_78 : decode cX13_restore 78 = .ok (.aload_n 0, 1) := by decide +kernel
theorem dX13_restore_79 : decode cX13_restore 79 = .ok (.getfield 178, 3) := by decide +kernel
theorem dX13_restore_82 : decode cX13_restore 82 = .ok (.invokestatic 660, 3) := by decide +kernel
theorem dX13_restore_85 : decode cX13_restore 85 = .ok (.aload_n 0, 1) := by decide +kernel
theorem dX13_restore_86 : decode cX13_restore 86 = .ok (.getfield 80, 3) := by decide +kernel
theorem dX13_restore_89 : decode cX13_restore 89 = .ok (.aload_n 0, 1) := by decide +kernel
theorem dX13_restore_90 : decode cX13_restore 90 = .ok (.getfield 181, 3) := by decide +kernel
theorem dX13_restore_93 : decode cX13_restore 93 = .ok (.invokestatic 660, 3) := by decide +kernel
theorem dX13_restore_96 : decode cX13_restore 96 = .ok (.iconst 1, 1) := by decide +kernel
theorem dX13_restore_97 : decode cX13_restore 97 = .ok (.ireturn, 1) := by decide +kernel
theorem dJ9_floorMod_7cf53_0 : decode cJ9_floorMod_7cf53 0 = .ok (.iload_n 0, 1) := by decide +kernel
theorem dJ9_floorMod_7cf53_1 : decode cJ9_floorMod_7cf53 1 = .ok (.iload_n 1, 1) := by decide +kernel
theorem dJ9_floorMod_7cf53_2 : decode cJ9_floorMod_7cf53 2 = .ok (.irem, 1) := by decide +kernel
theorem dJ9_floorMod_7cf53_3 : decode cJ9_floorMod_7cf53 3 = .ok (.istore_n 2, 1) := by decide +kernel
theorem dJ9_floorMod_7cf53_4 : decode cJ9_floorMod_7cf53 4 = .ok (.iload_n 0, 1) := by decide +kernel
theorem dJ9_floorMod_7cf53_5 : decode cJ9_floorMod_7cf53 5 = .ok (.iload_n 1, 1) := by decide +kernel
theorem dJ9_floorMod_7cf53_6 : decode cJ9_floorMod_7cf53 6 = .ok (.ixor, 1) := by decide +kernel
theorem dJ9_floorMod_7cf53_7 : decode cJ9_floorMod_7cf53 7 = .ok (.ifCond .ge 11, 3) := by decide +kernel
theorem dJ9_floorMod_7cf53_10 : decode cJ9_floorMod_7cf53 10 = .ok (.iload_n 2, 1) := by decide +kernel
theorem dJ9_floorMod_7cf53_11 : decode cJ9_floorMod_7cf53 11 = .ok (.ifCond .eq 7, 3) := by decide +kernel
theorem dJ9_floorMod_7cf53_14 : decode cJ9_floorMod_7cf53 14 = .ok (.iload_n 2, 1) := by decide +kernel
theorem dJ9_floorMod_7cf53_15 : decode cJ9_floorMod_7cf53 15 = .ok (.iload_n 1, 1) := by decide +kernel
theorem dJ9_floorMod_7cf53_16 : decode cJ9_floorMod_7cf53 16 = .ok (.iadd, 1) := by decide +kernel
theorem dJ9_floorMod_7cf53_17 : decode cJ9_floorMod_7cf53 17 = .ok (.ireturn, 1) := by decide +kernel
theorem dJ9_floorMod_7cf53_18 : decode cJ9_floorMod_7cf53 18 = .ok (.iload_n 2, 1) := by decide +kernel
theorem dJ9_floorMod_7cf53_19 : decode cJ9_floorMod_7cf53 19 = .ok (.ireturn, 1) := by decide +kernel
theorem dL_program_0 : decode cL_program 0 = .ok (.aload_n 2, 1) := by decide +kernel
theorem dL_program_1 : decode cL_program 1 = .ok (.iconst 0, 1) := by decide +kernel
theorem dL_program_2 : decode cL_program 2 = .ok (.aload_n 0, 1) := by decide +kernel
theorem dL_program_3 : decode cL_program 3 = .ok (.iload_n 1, 1) := by decide +kernel
theorem dL_program_4 : decode cL_program 4 = .ok (.invokevirtual 7, 3) := by decide +kernel
theorem dL_program_7 : decode cL_program 7 = .ok (.i2l, 1) := by decide +kernel
theorem dL_program_8 : decode cL_program 8 = .ok (.lastore, 1) := by decide +kernel
theorem dL_program_9 : decode cL_program 9 = .ok (.goto 6, 3) := by decide +kernel
theorem dL_program_12 : decode cL_program 12 = .ok (.astore_n 3, 1) := by decide +kernel
theorem dL_program_13 : decode cL_program 13 = .ok (.iconst 1, 1) := by decide +kernel
theorem dL_program_14 : decode cL_program 14 = .ok (.ireturn, 1) := by decide +kernel
theorem dL_program_15 : decode cL_program 15 = .ok (.iconst 0, 1) := by decide +kernel
theorem dL_program_16 : decode cL_program 16 = .ok (.ireturn, 1) := by decide +kernel
theorem dL_count_0 : decode cL_count 0 = .ok (.aload_n 2, 1) := by decide +kernel
theorem dL_count_1 : decode cL_count 1 = .ok (.iconst 0, 1) := by decide +kernel
theorem dL_count_2 : decode cL_count 2 = .ok (.aload_n 0, 1) := by decide +kernel
theorem dL_count_3 : decode cL_count 3 = .ok (.iload_n 1, 1) := by decide +kernel
theorem dL_count_4 : decode cL_count 4 = .ok (.invokevirtual 15, 3) := by decide +kernel
theorem dL_count_7 : decode cL_count 7 = .ok (.i2l, 1) := by decide +kernel
theorem dL_count_8 : decode cL_count 8 = .ok (.lastore, 1) := by decide +kernel
theorem dL_count_9 : decode cL_count 9 = .ok (.goto 6, 3) := by decide +kernel
theorem dL_count_12 : decode cL_count 12 = .ok (.astore_n 3, 1) := by decide +kernel
theorem dL_count_13 : decode cL_count 13 = .ok (.iconst 1, 1) := by decide +kernel
theorem dL_count_14 : decode cL_count 14 = .ok (.ireturn, 1) := by decide +kernel
theorem dL_count_15 : decode cL_count 15 = .ok (.iconst 0, 1) := by decide +kernel
theorem dL_count_16 : decode cL_count 16 = .ok (.ireturn, 1) := by decide +kernel
theorem dL_at_0 : decode cL_at 0 = .ok (.aload_n 2, 1) := by decide +kernel
theorem dL_at_1 : decode cL_at 1 = .ok (.iconst 0, 1) := by decide +kernel
theorem dL_at_2 : decode cL_at 2 = .ok (.aload_n 0, 1) := by decide +kernel
theorem dL_at_3 : decode cL_at 3 = .ok (.iload_n 1, 1) := by decide +kernel
theorem dL_at_4 : decode cL_at 4 = .ok (.invokevirtual 20, 3) := by decide +kernel
theorem dL_at_7 : decode cL_at 7 = .ok (.i2l, 1) := by decide +kernel
theorem dL_at_8 : decode cL_at 8 = .ok (.lastore, 1) := by decide +kernel
theorem dL_at_9 : decode cL_at 9 = .ok (.goto 6, 3) := by decide +kernel
theorem dL_at_12 : decode cL_at 12 = .ok (.astore_n 3, 1) := by decide +kernel
theorem dL_at_13 : decode cL_at 13 = .ok (.iconst 1, 1) := by decide +kernel
theorem dL_at_14 : decode cL_at 14 = .ok (.ireturn, 1) := by decide +kernel
theorem dL_at_15 : decode cL_at 15 = .ok (.iconst 0, 1) := by decide +kernel
theorem dL_at_16 : decode cL_at 16 = .ok (.ireturn, 1) := by decide +kernel
theorem dL_register_0 : decode cL_register 0 = .ok (.aload_n 2, 1) := by decide +kernel
theorem dL_register_1 : decode cL_register 1 = .ok (.iconst 0, 1) := by decide +kernel
theorem dL_register_2 : decode cL_register 2 = .ok (.aload_n 0, 1) := by decide +kernel
theorem dL_register_3 : decode cL_register 3 = .ok (.iload_n 1, 1) := by decide +kernel
theorem dL_register_4 : decode cL_register 4 = .ok (.invokevirtual 23, 3) := by decide +kernel
theorem dL_register_7 : decode cL_register 7 = .ok (.i2l, 1) := by decide +kernel
theorem dL_register_8 : decode cL_register 8 = .ok (.lastore, 1) := by decide +kernel
theorem dL_register_9 : decode cL_register 9 = .ok (.goto 6, 3) := by decide +kernel
theorem dL_register_12 : decode cL_register 12 = .ok (.astore_n 3, 1) := by decide +kernel
theorem dL_register_13 : decode cL_register 13 = .ok (.iconst 1, 1) := by decide +kernel
theorem dL_register_14 : decode cL_register 14 = .ok (.ireturn, 1) := by decide +kernel
theorem dL_register_15 : decode cL_register 15 = .ok (.iconst 0, 1) := by decide +kernel
theorem dL_register_16 : decode cL_register 16 = .ok (.ireturn, 1) := by decide +kernel
theorem dL_guard_0 : decode cL_guard 0 = .ok (.aload_n 2, 1) := by decide +kernel
theorem dL_guard_1 : decode cL_guard 1 = .ok (.iconst 0, 1) := by decide +kernel
theorem dL_guard_2 : decode cL_guard 2 = .ok (.aload_n 0, 1) := by decide +kernel
theorem dL_guard_3 : decode cL_guard 3 = .ok (.iload_n 1, 1) := by decide +kernel
theorem dL_guard_4 : decode cL_guard 4 = .ok (.invokevirtual 26, 3) := by decide +kernel
theorem dL_guard_7 : decode cL_guard 7 = .ok (.i2l, 1) := by decide +kernel
theorem dL_guard_8 : decode cL_guard 8 = .ok (.lastore, 1) := by decide +kernel
theorem dL_guard_9 : decode cL_guard 9 = .ok (.goto 6, 3) := by decide +kernel
theorem dL_guard_12 : decode cL_guard 12 = .ok (.astore_n 3, 1) := by decide +kernel
theorem dL_guard_13 : decode cL_guard 13 = .ok (.iconst 1, 1) := by decide +kernel
theorem dL_guard_14 : decode cL_guard 14 = .ok (.ireturn, 1) := by decide +kernel
theorem dL_guard_15 : decode cL_guard 15 = .ok (.iconst 0, 1) := by decide +kernel
theorem dL_guard_16 : decode cL_guard 16 = .ok (.ireturn, 1) := by decide +kernel
theorem dL_done_0 : decode cL_done 0 = .ok (.aload_n 2, 1) := by decide +kernel
theorem dL_done_1 : decode cL_done 1 = .ok (.iconst 0, 1) := by decide +kernel
theorem dL_done_2 : decode cL_done 2 = .ok (.aload_n 0, 1) := by decide +kernel
theorem dL_done_3 : decode cL_done 3 = .ok (.iload_n 1, 1) := by decide +kernel
theorem dL_done_4 : decode cL_done 4 = .ok (.invokevirtual 29, 3) := by decide +kernel
theorem dL_done_7 : decode cL_done 7 = .ok (.i2l, 1) := by decide +kernel
theorem dL_done_8 : decode cL_done 8 = .ok (.lastore, 1) := by decide +kernel
theorem dL_done_9 : decode cL_done 9 = .ok (.goto 6, 3) := by decide +kernel
theorem dL_done_12 : decode cL_done 12 = .ok (.astore_n 3, 1) := by decide +kernel
theorem dL_done_13 : decode cL_done 13 = .ok (.iconst 1, 1) := by decide +kernel
theorem dL_done_14 : decode cL_done 14 = .ok (.ireturn, 1) := by decide +kernel
theorem dL_done_15 : decode cL_done 15 = .ok (.iconst 0, 1) := by decide +kernel
theorem dL_done_16 : decode cL_done 16 = .ok (.ireturn, 1) := by decide +kernel
theorem dL_trace_0 : decode cL_trace 0 = .ok (.aload_n 2, 1) := by decide +kernel
theorem dL_trace_1 : decode cL_trace 1 = .ok (.iconst 0, 1) := by decide +kernel
theorem dL_trace_2 : decode cL_trace 2 = .ok (.aload_n 0, 1) := by decide +kernel
theorem dL_trace_3 : decode cL_trace 3 = .ok (.iload_n 1, 1) := by decide +kernel
theorem dL_trace_4 : decode cL_trace 4 = .ok (.invokevirtual 32, 3) := by decide +kernel
theorem dL_trace_7 : decode cL_trace 7 = .ok (.i2l, 1) := by decide +kernel
theorem dL_trace_8 : decode cL_trace 8 = .ok (.lastore, 1) := by decide +kernel
theorem dL_trace_9 : decode cL_trace 9 = .ok (.goto 6, 3) := by decide +kernel
theorem dL_trace_12 : decode cL_trace 12 = .ok (.astore_n 3, 1) := by decide +kernel
theorem dL_trace_13 : decode cL_trace 13 = .ok (.iconst 1, 1) := by decide +kernel
theorem dL_trace_14 : decode cL_trace 14 = .ok (.ireturn, 1) := by decide +kernel
theorem dL_trace_15 : decode cL_trace 15 = .ok (.iconst 0, 1) := by decide +kernel
theorem dL_trace_16 : decode cL_trace 16 = .ok (.ireturn, 1) := by decide +kernel
theorem dL_why_0 : decode cL_why 0 = .ok (.aload_n 3, 1) := by decide +kernel
theorem dL_why_1 : decode cL_why 1 = .ok (.iconst 0, 1) := by decide +kernel
theorem dL_why_2 : decode cL_why 2 = .ok (.aload_n 0, 1) := by decide +kernel
theorem dL_why_3 : decode cL_why 3 = .ok (.iload_n 1, 1) := by decide +kernel
theorem dL_why_4 : decode cL_why 4 = .ok (.iload_n 2, 1) := by decide +kernel
theorem dL_why_5 : decode cL_why 5 = .ok (.invokevirtual 35, 3) := by decide +kernel
theorem dL_why_8 : decode cL_why 8 = .ok (.i2l, 1) := by decide +kernel
theorem dL_why_9 : decode cL_why 9 = .ok (.lastore, 1) := by decide +kernel
theorem dL_why_10 : decode cL_why 10 = .ok (.goto 7, 3) := by decide +kernel
theorem dL_why_13 : decode cL_why 13 = .ok (.astore 4, 2) := by decide +kernel
theorem dL_why_15 : decode cL_why 15 = .ok (.iconst 1, 1) := by decide +kernel
theorem dL_why_16 : decode cL_why 16 = .ok (.ireturn, 1) := by decide +kernel
theorem dL_why_17 : decode cL_why 17 = .ok (.iconst 0, 1) := by decide +kernel
theorem dL_why_18 : decode cL_why 18 = .ok (.ireturn, 1) := by decide +kernel
theorem dL_flaws_0 : decode cL_flaws 0 = .ok (.aload 5, 2) := by decide +kernel
theorem dL_flaws_2 : decode cL_flaws 2 = .ok (.iconst 0, 1) := by decide +kernel
theorem dL_flaws_3 : decode cL_flaws 3 = .ok (.aload_n 0, 1) := by decide +kernel
theorem dL_flaws_4 : decode cL_flaws 4 = .ok (.iload_n 1, 1) := by decide +kernel
theorem dL_flaws_5 : decode cL_flaws 5 = .ok (.iload_n 2, 1) := by decide +kernel
theorem dL_flaws_6 : decode cL_flaws 6 = .ok (.iload_n 3, 1) := by decide +kernel
theorem dL_flaws_7 : decode cL_flaws 7 = .ok (.iload 4, 2) := by decide +kernel
theorem dL_flaws_9 : decode cL_flaws 9 = .ok (.invokevirtual 39, 3) := by decide +kernel
theorem dL_flaws_12 : decode cL_flaws 12 = .ok (.i2l, 1) := by decide +kernel
theorem dL_flaws_13 : decode cL_flaws 13 = .ok (.lastore, 1) := by decide +kernel
theorem dL_flaws_14 : decode cL_flaws 14 = .ok (.goto 11, 3) := by decide +kernel
theorem dL_flaws_17 : decode cL_flaws 17 = .ok (.astore 6, 2) := by decide +kernel
theorem dL_flaws_19 : decode cL_flaws 19 = .ok (.iconst 1, 1) := by decide +kernel
theorem dL_flaws_20 : decode cL_flaws 20 = .ok (.ireturn, 1) := by decide +kernel
theorem dL_flaws_21 : decode cL_flaws 21 = .ok (.astore 6, 2) := by decide +kernel
theorem dL_flaws_23 : decode cL_flaws 23 = .ok (.iconst 2, 1) := by decide +kernel
theorem dL_flaws_24 : decode cL_flaws 24 = .ok (.ireturn, 1) := by decide +kernel
theorem dL_flaws_25 : decode cL_flaws 25 = .ok (.iconst 0, 1) := by decide +kernel
theorem dL_flaws_26 : decode cL_flaws 26 = .ok (.ireturn, 1) := by decide +kernel
theorem dL_number_0 : decode cL_number 0 = .ok (.aload 4, 2) := by decide +kernel
theorem dL_number_2 : decode cL_number 2 = .ok (.iconst 0, 1) := by decide +kernel
theorem dL_number_3 : decode cL_number 3 = .ok (.aload_n 0, 1) := by decide +kernel
theorem dL_number_4 : decode cL_number 4 = .ok (.iload_n 1, 1) := by decide +kernel
theorem dL_number_5 : decode cL_number 5 = .ok (.iload_n 2, 1) := by decide +kernel
theorem dL_number_6 : decode cL_number 6 = .ok (.iload_n 3, 1) := by decide +kernel
theorem dL_number_7 : decode cL_number 7 = .ok (.invokevirtual 43, 3) := by decide +kernel
theorem dL_number_10 : decode cL_number 10 = .ok (.lastore, 1) := by decide +kernel
theorem dL_number_11 : decode cL_number 11 = .ok (.goto 15, 3) := by decide +kernel
theorem dL_number_14 : decode cL_number 14 = .ok (.astore 5, 2) := by decide +kernel
theorem dL_number_16 : decode cL_number 16 = .ok (.iconst 1, 1) := by decide +kernel
theorem dL_number_17 : decode cL_number 17 = .ok (.ireturn, 1) := by decide +kernel
theorem dL_number_18 : decode cL_number 18 = .ok (.astore 5, 2) := by decide +kernel
theorem dL_number_20 : decode cL_number 20 = .ok (.iconst 2, 1) := by decide +kernel
theorem dL_number_21 : decode cL_number 21 = .ok (.ireturn, 1) := by decide +kernel
theorem dL_number_22 : decode cL_number 22 = .ok (.astore 5, 2) := by decide +kernel
theorem dL_number_24 : decode cL_number 24 = .ok (.iconst 3, 1) := by decide +kernel
theorem dL_number_25 : decode cL_number 25 = .ok (.ireturn, 1) := by decide +kernel
theorem dL_number_26 : decode cL_number 26 = .ok (.iconst 0, 1) := by decide +kernel
theorem dL_number_27 : decode cL_number 27 = .ok (.ireturn, 1) := by decide +kernel
theorem dL_need_0 : decode cL_need 0 = .ok (.aload 6, 2) := by decide +kernel
theorem dL_need_2 : decode cL_need 2 = .ok (.iconst 0, 1) := by decide +kernel
theorem dL_need_3 : decode cL_need 3 = .ok (.aload_n 0, 1) := by decide +kernel
theorem dL_need_4 : decode cL_need 4 = .ok (.iload_n 1, 1) := by decide +kernel
theorem dL_need_5 : decode cL_need 5 = .ok (.iload_n 2, 1) := by decide +kernel
theorem dL_need_6 : decode cL_need 6 = .ok (.iload_n 3, 1) := by decide +kernel
theorem dL_need_7 : decode cL_need 7 = .ok (.iload 4, 2) := by decide +kernel
theorem dL_need_9 : decode cL_need 9 = .ok (.iload 5, 2) := by decide +kernel
theorem dL_need_11 : decode cL_need 11 = .ok (.invokevirtual 49, 3) := by decide +kernel
theorem dL_need_14 : decode cL_need 14 = .ok (.i2l, 1) := by decide +kernel
theorem dL_need_15 : decode cL_need 15 = .ok (.lastore, 1) := by decide +kernel
theorem dL_need_16 : decode cL_need 16 = .ok (.goto 11, 3) := by decide +kernel
theorem dL_need_19 : decode cL_need 19 = .ok (.astore 7, 2) := by decide +kernel
theorem dL_need_21 : decode cL_need 21 = .ok (.iconst 1, 1) := by decide +kernel
theorem dL_need_22 : decode cL_need 22 = .ok (.ireturn, 1) := by decide +kernel
theorem dL_need_23 : decode cL_need 23 = .ok (.astore 7, 2) := by decide +kernel
theorem dL_need_25 : decode cL_need 25 = .ok (.iconst 2, 1) := by decide +kernel
theorem dL_need_26 : decode cL_need 26 = .ok (.ireturn, 1) := by decide +kernel
theorem dL_need_27 : decode cL_need 27 = .ok (.iconst 0, 1) := by decide +kernel
theorem dL_need_28 : decode cL_need 28 = .ok (.ireturn, 1) := by decide +kernel
theorem dL_rounds_0 : decode cL_rounds 0 = .ok (.aload 4, 2) := by decide +kernel
theorem dL_rounds_2 : decode cL_rounds 2 = .ok (.iconst 0, 1) := by decide +kernel
theorem dL_rounds_3 : decode cL_rounds 3 = .ok (.aload_n 0, 1) := by decide +kernel
theorem dL_rounds_4 : decode cL_rounds 4 = .ok (.iload_n 1, 1) := by decide +kernel
theorem dL_rounds_5 : decode cL_rounds 5 = .ok (.iload_n 2, 1) := by decide +kernel
theorem dL_rounds_6 : decode cL_rounds 6 = .ok (.iload_n 3, 1) := by decide +kernel
theorem dL_rounds_7 : decode cL_rounds 7 = .ok (.invokevirtual 53, 3) := by decide +kernel
theorem dL_rounds_10 : decode cL_rounds 10 = .ok (.i2l, 1) := by decide +kernel
theorem dL_rounds_11 : decode cL_rounds 11 = .ok (.lastore, 1) := by decide +kernel
theorem dL_rounds_12 : decode cL_rounds 12 = .ok (.goto 11, 3) := by decide +kernel
theorem dL_rounds_15 : decode cL_rounds 15 = .ok (.astore 5, 2) := by decide +kernel
theorem dL_rounds_17 : decode cL_rounds 17 = .ok (.iconst 1, 1) := by decide +kernel
theorem dL_rounds_18 : decode cL_rounds 18 = .ok (.ireturn, 1) := by decide +kernel
theorem dL_rounds_19 : decode cL_rounds 19 = .ok (.astore 5, 2) := by decide +kernel
theorem dL_rounds_21 : decode cL_rounds 21 = .ok (.iconst 2, 1) := by decide +kernel
theorem dL_rounds_22 : decode cL_rounds 22 = .ok (.ireturn, 1) := by decide +kernel
theorem dL_rounds_23 : decode cL_rounds 23 = .ok (.iconst 0, 1) := by decide +kernel
theorem dL_rounds_24 : decode cL_rounds 24 = .ok (.ireturn, 1) := by decide +kernel
theorem dL_unedited_0 : decode cL_unedited 0 = .ok (.aload 5, 2) := by decide +kernel
theorem dL_unedited_2 : decode cL_unedited 2 = .ok (.iconst 0, 1) := by decide +kernel
theorem dL_unedited_3 : decode cL_unedited 3 = .ok (.aload_n 0, 1) := by decide +kernel
theorem dL_unedited_4 : decode cL_unedited 4 = .ok (.iload_n 1, 1) := by decide +kernel
theorem dL_unedited_5 : decode cL_unedited 5 = .ok (.iload_n 2, 1) := by decide +kernel
theorem dL_unedited_6 : decode cL_unedited 6 = .ok (.iload_n 3, 1) := by decide +kernel
theorem dL_unedited_7 : decode cL_unedited 7 = .ok (.iload 4, 2) := by decide +kernel
theorem dL_unedited_9 : decode cL_unedited 9 = .ok (.invokevirtual 57, 3) := by decide +kernel
