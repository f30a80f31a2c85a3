theorem dX12_rounds_48 : decode cX12_rounds 48 = .ok (.iload_n 2, 1) := by decide +kernel
theorem dX12_rounds_49 : decode cX12_rounds 49 = .ok (.invokevirtual 179, 3) := by decide +kernel
theorem dX12_rounds_52 : decode cX12_rounds 52 = .ok (.iconst 0, 1) := by decide +kernel
theorem dX12_rounds_53 : decode cX12_rounds 53 = .ok (.istore 4, 2) := by decide +kernel
theorem dX12_rounds_55 : decode cX12_rounds 55 = .ok (.iconst 0, 1) := by decide +kernel
theorem dX12_rounds_56 : decode cX12_rounds 56 = .ok (.istore 5, 2) := by decide +kernel
theorem dX12_rounds_58 : decode cX12_rounds 58 = .ok (.iload 5, 2) := by decide +kernel
theorem dX12_rounds_60 : decode cX12_rounds 60 = .ok (.bipush 9, 2) := by decide +kernel
theorem dX12_rounds_62 : decode cX12_rounds 62 = .ok (.if_icmp .gt 36, 3) := by decide +kernel
theorem dX12_rounds_65 : decode cX12_rounds 65 = .ok (.aload_n 0, 1) := by decide +kernel
theorem dX12_rounds_66 : decode cX12_rounds 66 = .ok (.getfield 48, 3) := by decide +kernel
theorem dX12_rounds_69 : decode cX12_rounds 69 = .ok (.iload_n 3, 1) := by decide +kernel
theorem dX12_rounds_70 : decode cX12_rounds 70 = .ok (.iconst 1, 1) := by decide +kernel
theorem dX12_rounds_71 : decode cX12_rounds 71 = .ok (.isub, 1) := by decide +kernel
theorem dX12_rounds_72 : decode cX12_rounds 72 = .ok (.invokevirtual 206, 3) := by decide +kernel
theorem dX12_rounds_75 : decode cX12_rounds 75 = .ok (.iload 5, 2) := by decide +kernel
theorem dX12_rounds_77 : decode cX12_rounds 77 = .ok (.iadd, 1) := by decide +kernel
theorem dX12_rounds_78 : decode cX12_rounds 78 = .ok (.bipush 9, 2) := by decide +kernel
theorem dX12_rounds_80 : decode cX12_rounds 80 = .ok (.if_icmp .le 12, 3) := by decide +kernel
theorem dX12_rounds_83 : decode cX12_rounds 83 = .ok (.iload 4, 2) := by decide +kernel
theorem dX12_rounds_85 : decode cX12_rounds 85 = .ok (.iconst 1, 1) := by decide +kernel
theorem dX12_rounds_86 : decode cX12_rounds 86 = .ok (.iload 5, 2) := by decide +kernel
theorem dX12_rounds_88 : decode cX12_rounds 88 = .ok (.ishl, 1) := by decide +kernel
theorem dX12_rounds_89 : decode cX12_rounds 89 = .ok (.ior, 1) := by decide +kernel
theorem dX12_rounds_90 : decode cX12_rounds 90 = .ok (.istore 4, 2) := by decide +kernel
theorem dX12_rounds_92 : decode cX12_rounds 92 = .ok (.iinc 5 1, 3) := by decide +kernel
theorem dX12_rounds_95 : decode cX12_rounds 95 = .ok (.goto (-37), 3) := by decide +kernel
theorem dX12_rounds_98 : decode cX12_rounds 98 = .ok (.iload 4, 2) := by decide +kernel
theorem dX12_rounds_100 : decode cX12_rounds 100 = .ok (.ireturn, 1) := by decide +kernel
theorem dX12_unedited_0 : decode cX12_unedited 0 = .ok (.aload_n 0, 1) := by decide +kernel
theorem dX12_unedited_1 : decode cX12_unedited 1 = .ok (.iload_n 1, 1) := by decide +kernel
theorem dX12_unedited_2 : decode cX12_unedited 2 = .ok (.iload_n 2, 1) := by decide +kernel
theorem dX12_unedited_3 : decode cX12_unedited 3 = .ok (.bipush 32, 2) := by decide +kernel
theorem dX12_unedited_5 : decode cX12_unedited 5 = .ok (.invokevirtual 161, 3) := by decide +kernel
theorem dX12_unedited_8 : decode cX12_unedited 8 = .ok (.aload_n 0, 1) := by decide +kernel
theorem dX12_unedited_9 : decode cX12_unedited 9 = .ok (.iload_n 3, 1) := by decide +kernel
theorem dX12_unedited_10 : decode cX12_unedited 10 = .ok (.iload_n 2, 1) := by decide +kernel
theorem dX12_unedited_11 : decode cX12_unedited 11 = .ok (.bipush 32, 2) := by decide +kernel
theorem dX12_unedited_13 : decode cX12_unedited 13 = .ok (.invokevirtual 161, 3) := by decide +kernel
theorem dX12_unedited_16 : decode cX12_unedited 16 = .ok (.aload_n 0, 1) := by decide +kernel
theorem dX12_unedited_17 : decode cX12_unedited 17 = .ok (.getfield 41, 3) := by decide +kernel
theorem dX12_unedited_20 : decode cX12_unedited 20 = .ok (.aload_n 0, 1) := by decide +kernel
theorem dX12_unedited_21 : decode cX12_unedited 21 = .ok (.getfield 61, 3) := by decide +kernel
theorem dX12_unedited_24 : decode cX12_unedited 24 = .ok (.getfield 107, 3) := by decide +kernel
theorem dX12_unedited_27 : decode cX12_unedited 27 = .ok (.iload_n 1, 1) := by decide +kernel
theorem dX12_unedited_28 : decode cX12_unedited 28 = .ok (.iload_n 2, 1) := by decide +kernel
theorem dX12_unedited_29 : decode cX12_unedited 29 = .ok (.iload_n 3, 1) := by decide +kernel
theorem dX12_unedited_30 : decode cX12_unedited 30 = .ok (.invokevirtual 209, 3) := by decide +kernel
theorem dX12_unedited_33 : decode cX12_unedited 33 = .ok (.lstore 5, 2) := by decide +kernel
theorem dX12_unedited_35 : decode cX12_unedited 35 = .ok (.iload 4, 2) := by decide +kernel
theorem dX12_unedited_37 : decode cX12_unedited 37 = .ok (.iconst (-1), 1) := by decide +kernel
theorem dX12_unedited_38 : decode cX12_unedited 38 = .ok (.if_icmp .ne 6, 3) := by decide +kernel
theorem dX12_unedited_41 : decode cX12_unedited 41 = .ok (.lload 5, 2) := by decide +kernel
theorem dX12_unedited_43 : decode cX12_unedited 43 = .ok (.lreturn, 1) := by decide +kernel
theorem dX12_unedited_44 : decode cX12_unedited 44 = .ok (.lload 5, 2) := by decide +kernel
theorem dX12_unedited_46 : decode cX12_unedited 46 = .ok (.lconst 0, 1) := by decide +kernel
theorem dX12_unedited_47 : decode cX12_unedited 47 = .ok (.lcmp, 1) := by decide +kernel
theorem dX12_unedited_48 : decode cX12_unedited 48 = .ok (.ifCond .eq 22, 3) := by decide +kernel
theorem dX12_unedited_51 : decode cX12_unedited 51 = .ok (.iload 4, 2) := by decide +kernel
theorem dX12_unedited_53 : decode cX12_unedited 53 = .ok (.bipush (-2), 2) := by decide +kernel
theorem dX12_unedited_55 : decode cX12_unedited 55 = .ok (.if_icmp .lt 15, 3) := by decide +kernel
theorem dX12_unedited_58 : decode cX12_unedited 58 = .ok (.iload 4, 2) := by decide +kernel
theorem dX12_unedited_60 : decode cX12_unedited 60 = .ok (.aload_n 0, 1) := by decide +kernel
theorem dX12_unedited_61 : decode cX12_unedited 61 = .ok (.getfield 41, 3) := by decide +kernel
theorem dX12_unedited_64 : decode cX12_unedited 64 = .ok (.invokevirtual 213, 3) := by decide +kernel
theorem dX12_unedited_67 : decode cX12_unedited 67 = .ok (.if_icmp .lt 13, 3) := by decide +kernel
theorem dX12_unedited_70 : decode cX12_unedited 70 = .ok (.new 135, 3) := by decide +kernel
theorem dX12_unedited_73 : decode cX12_unedited 73 = .ok (.dup, 1) := by decide +kernel
theorem dX12_unedited_74 : decode cX12_unedited 74 = .ok (.ldc 216, 2) := by decide +kernel
theorem dX12_unedited_76 : decode cX12_unedited 76 = .ok (.invokespecial 139, 3) := by decide +kernel
theorem dX12_unedited_79 : decode cX12_unedited 79 = .ok (.athrow, 1) := by decide +kernel
theorem dX12_unedited_80 : decode cX12_unedited 80 = .ok (.aload_n 0, 1) := by decide +kernel
theorem dX12_unedited_81 : decode cX12_unedited 81 = .ok (.getfield 41, 3) := by decide +kernel
theorem dX12_unedited_84 : decode cX12_unedited 84 = .ok (.iload 4, 2) := by decide +kernel
theorem dX12_unedited_86 : decode cX12_unedited 86 = .ok (.invokevirtual 218, 3) := by decide +kernel
theorem dX12_unedited_89 : decode cX12_unedited 89 = .ok (.i2l, 1) := by decide +kernel
theorem dX12_unedited_90 : decode cX12_unedited 90 = .ok (.lreturn, 1) := by decide +kernel
theorem dX12_steps_0 : decode cX12_steps 0 = .ok (.aload_n 0, 1) := by decide +kernel
theorem dX12_steps_1 : decode cX12_steps 1 = .ok (.getfield 61, 3) := by decide +kernel
theorem dX12_steps_4 : decode cX12_steps 4 = .ok (.getfield 107, 3) := by decide +kernel
theorem dX12_steps_7 : decode cX12_steps 7 = .ok (.astore_n 2, 1) := by decide +kernel
theorem dX12_steps_8 : decode cX12_steps 8 = .ok (.aload_n 2, 1) := by decide +kernel
theorem dX12_steps_9 : decode cX12_steps 9 = .ok (.invokevirtual 221, 3) := by decide +kernel
theorem dX12_steps_12 : decode cX12_steps 12 = .ok (.ifCond .eq 29, 3) := by decide +kernel
theorem dX12_steps_15 : decode cX12_steps 15 = .ok (.iload_n 1, 1) := by decide +kernel
theorem dX12_steps_16 : decode cX12_steps 16 = .ok (.iconst 1, 1) := by decide +kernel
theorem dX12_steps_17 : decode cX12_steps 17 = .ok (.if_icmp .lt 24, 3) := by decide +kernel
theorem dX12_steps_20 : decode cX12_steps 20 = .ok (.iload_n 1, 1) := by decide +kernel
theorem dX12_steps_21 : decode cX12_steps 21 = .ok (.bipush 50, 2) := by decide +kernel
theorem dX12_steps_23 : decode cX12_steps 23 = .ok (.if_icmp .gt 18, 3) := by decide +kernel
theorem dX12_steps_26 : decode cX12_steps 26 = .ok (.aload_n 2, 1) := by decide +kernel
theorem dX12_steps_27 : decode cX12_steps 27 = .ok (.sipush 276, 3) := by decide +kernel
theorem dX12_steps_30 : decode cX12_steps 30 = .ok (.invokevirtual 113, 3) := by decide +kernel
theorem dX12_steps_33 : decode cX12_steps 33 = .ok (.sipush 20000, 3) := by decide +kernel
theorem dX12_steps_36 : decode cX12_steps 36 = .ok (.iload_n 1, 1) := by decide +kernel
theorem dX12_steps_37 : decode cX12_steps 37 = .ok (.isub, 1) := by decide +kernel
theorem dX12_steps_38 : decode cX12_steps 38 = .ok (.if_icmp .le 13, 3) := by decide +kernel
theorem dX12_steps_41 : decode cX12_steps 41 = .ok (.aload_n 0, 1) := by decide +kernel
theorem dX12_steps_42 : decode cX12_steps 42 = .ok (.getfield 61, 3) := by decide +kernel
theorem dX12_steps_45 : decode cX12_steps 45 = .ok (.iconst 1, 1) := by decide +kernel
theorem dX12_steps_46 : decode cX12_steps 46 = .ok (.invokevirtual 86, 3) := by decide +kernel
theorem dX12_steps_49 : decode cX12_steps 49 = .ok (.iconst (-1), 1) := by decide +kernel
theorem dX12_steps_50 : decode cX12_steps 50 = .ok (.ireturn, 1) := by decide +kernel
theorem dX12_steps_51 : decode cX12_steps 51 = .ok (.aload_n 0, 1) := by decide +kernel
theorem dX12_steps_52 : decode cX12_steps 52 = .ok (.getfield 61, 3) := by decide +kernel
theorem dX12_steps_55 : decode cX12_steps 55 = .ok (.invokevirtual 225, 3) := by decide +kernel
theorem dX12_steps_58 : decode cX12_steps 58 = .ok (.iconst 0, 1) := by decide +kernel
theorem dX12_steps_59 : decode cX12_steps 59 = .ok (.istore_n 3, 1) := by decide +kernel
theorem dX12_steps_60 : decode cX12_steps 60 = .ok (.iload_n 3, 1) := by decide +kernel
theorem dX12_steps_61 : decode cX12_steps 61 = .ok (.iload_n 1, 1) := by decide +kernel
theorem dX12_steps_62 : decode cX12_steps 62 = .ok (.if_icmp .ge 28, 3) := by decide +kernel
theorem dX12_steps_65 : decode cX12_steps 65 = .ok (.aload_n 2, 1) := by decide +kernel
theorem dX12_steps_66 : decode cX12_steps 66 = .ok (.invokevirtual 221, 3) := by decide +kernel
theorem dX12_steps_69 : decode cX12_steps 69 = .ok (.ifCond .eq 21, 3) := by decide +kernel
theorem dX12_steps_72 : decode cX12_steps 72 = .ok (.aload_n 0, 1) := by decide +kernel
theorem dX12_steps_73 : decode cX12_steps 73 = .ok (.getfield 34, 3) := by decide +kernel
theorem dX12_steps_76 : decode cX12_steps 76 = .ok (.getfield 93, 3) := by decide +kernel
theorem dX12_steps_79 : decode cX12_steps 79 = .ok (.aload_n 2, 1) := by decide +kernel
theorem dX12_steps_80 : decode cX12_steps 80 = .ok (.invokevirtual 228, 3) := by decide +kernel
theorem dX12_steps_83 : decode cX12_steps 83 = .ok (.pop, 1) := by decide +kernel
theorem dX12_steps_84 : decode cX12_steps 84 = .ok (.iinc 3 1, 3) := by decide +kernel
theorem dX12_steps_87 : decode cX12_steps 87 = .ok (.goto (-27), 3) := by decide +kernel
theorem dX12_steps_90 : decode cX12_steps 90 = .ok (.iload_n 3, 1) := by decide +kernel
theorem dX12_steps_91 : decode cX12_steps 91 = .ok (.ireturn, 1) := by decide +kernel
theorem dX12_lay_0 : decode cX12_lay 0 = .ok (.aload_n 0, 1) := by decide +kernel
theorem dX12_lay_1 : decode cX12_lay 1 = .ok (.getfield 61, 3) := by decide +kernel
theorem dX12_lay_4 : decode cX12_lay 4 = .ok (.getfield 107, 3) := by decide +kernel
theorem dX12_lay_7 : decode cX12_lay 7 = .ok (.astore_n 3, 1) := by decide +kernel
theorem dX12_lay_8 : decode cX12_lay 8 = .ok (.iload_n 1, 1) := by decide +kernel
theorem dX12_lay_9 : decode cX12_lay 9 = .ok (.invokestatic 232, 3) := by decide +kernel
theorem dX12_lay_12 : decode cX12_lay 12 = .ok (.ifCond .eq 19, 3) := by decide +kernel
theorem dX12_lay_15 : decode cX12_lay 15 = .ok (.iload_n 2, 1) := by decide +kernel
theorem dX12_lay_16 : decode cX12_lay 16 = .ok (.invokestatic 236, 3) := by decide +kernel
theorem dX12_lay_19 : decode cX12_lay 19 = .ok (.ifCond .eq 12, 3) := by decide +kernel
theorem dX12_lay_22 : decode cX12_lay 22 = .ok (.aload_n 3, 1) := by decide +kernel
theorem dX12_lay_23 : decode cX12_lay 23 = .ok (.iload_n 1, 1) := by decide +kernel
theorem dX12_lay_24 : decode cX12_lay 24 = .ok (.invokevirtual 113, 3) := by decide +kernel
theorem dX12_lay_27 : decode cX12_lay 27 = .ok (.iload_n 2, 1) := by decide +kernel
theorem dX12_lay_28 : decode cX12_lay 28 = .ok (.if_icmp .ne 13, 3) := by decide +kernel
theorem dX12_lay_31 : decode cX12_lay 31 = .ok (.aload_n 0, 1) := by decide +kernel
theorem dX12_lay_32 : decode cX12_lay 32 = .ok (.getfield 61, 3) := by decide +kernel
theorem dX12_lay_35 : decode cX12_lay 35 = .ok (.iconst 1, 1) := by decide +kernel
theorem dX12_lay_36 : decode cX12_lay 36 = .ok (.invokevirtual 86, 3) := by decide +kernel
theorem dX12_lay_39 : decode cX12_lay 39 = .ok (.iconst (-1), 1) := by decide +kernel
theorem dX12_lay_40 : decode cX12_lay 40 = .ok (.ireturn, 1) := by decide +kernel
theorem dX12_lay_41 : decode cX12_lay 41 = .ok (.aload_n 0, 1) := by decide +kernel
theorem dX12_lay_42 : decode cX12_lay 42 = .ok (.getfield 61, 3) := by decide +kernel
theorem dX12_lay_45 : decode cX12_lay 45 = .ok (.invokevirtual 225, 3) := by decide +kernel
theorem dX12_lay_48 : decode cX12_lay 48 = .ok (.aload_n 3, 1) := by decide +kernel
theorem dX12_lay_49 : decode cX12_lay 49 = .ok (.iload_n 1, 1) := by decide +kernel
theorem dX12_lay_50 : decode cX12_lay 50 = .ok (.invokevirtual 113, 3) := by decide +kernel
theorem dX12_lay_53 : decode cX12_lay 53 = .ok (.istore 4, 2) := by decide +kernel
theorem dX12_lay_55 : decode cX12_lay 55 = .ok (.aload_n 3, 1) := by decide +kernel
theorem dX12_lay_56 : decode cX12_lay 56 = .ok (.iload_n 1, 1) := by decide +kernel
theorem dX12_lay_57 : decode cX12_lay 57 = .ok (.iload_n 2, 1) := by decide +kernel
theorem dX12_lay_58 : decode cX12_lay 58 = .ok (.invokevirtual 239, 3) := by decide +kernel
theorem dX12_lay_61 : decode cX12_lay 61 = .ok (.iload 4, 2) := by decide +kernel
theorem dX12_lay_63 : decode cX12_lay 63 = .ok (.ireturn, 1) := by decide +kernel
theorem dX12_set_0 : decode cX12_set 0 = .ok (.aload_n 0, 1) := by decide +kernel
theorem dX12_set_1 : decode cX12_set 1 = .ok (.getfield 61, 3) := by decide +kernel
theorem dX12_set_4 : decode cX12_set 4 = .ok (.getfield 107, 3) := by decide +kernel
theorem dX12_set_7 : decode cX12_set 7 = .ok (.astore_n 3, 1) := by decide +kernel
theorem dX12_set_8 : decode cX12_set 8 = .ok (.iload_n 1, 1) := by decide +kernel
theorem dX12_set_9 : decode cX12_set 9 = .ok (.ifCond .lt 22, 3) := by decide +kernel
theorem dX12_set_12 : decode cX12_set 12 = .ok (.iload_n 1, 1) := by decide +kernel
theorem dX12_set_13 : decode cX12_set 13 = .ok (.bipush 7, 2) := by decide +kernel
theorem dX12_set_15 : decode cX12_set 15 = .ok (.if_icmp .gt 16, 3) := by decide +kernel
theorem dX12_set_18 : decode cX12_set 18 = .ok (.aload_n 3, 1) := by decide +kernel
theorem dX12_set_19 : decode cX12_set 19 = .ok (.sipush 256, 3) := by decide +kernel
theorem dX12_set_22 : decode cX12_set 22 = .ok (.iload_n 1, 1) := by decide +kernel
theorem dX12_set_23 : decode cX12_set 23 = .ok (.iadd, 1) := by decide +kernel
theorem dX12_set_24 : decode cX12_set 24 = .ok (.invokevirtual 113, 3) := by decide +kernel
theorem dX12_set_27 : decode cX12_set 27 = .ok (.iload_n 2, 1) := by decide +kernel
theorem dX12_set_28 : decode cX12_set 28 = .ok (.if_icmp .ne 13, 3) := by decide +kernel
theorem dX12_set_31 : decode cX12_set 31 = .ok (.aload_n 0, 1) := by decide +kernel
theorem dX12_set_32 : decode cX12_set 32 = .ok (.getfield 61, 3) := by decide +kernel
theorem dX12_set_35 : decode cX12_set 35 = .ok (.iconst 1, 1) := by decide +kernel
theorem dX12_set_36 : decode cX12_set 36 = .ok (.invokevirtual 86, 3) := by decide +kernel
theorem dX12_set_39 : decode cX12_set 39 = .ok (.iconst 0, 1) := by decide +kernel
theorem dX12_set_40 : decode cX12_set 40 = .ok (.ireturn, 1) := by decide +kernel
theorem dX12_set_41 : decode cX12_set 41 = .ok (.aload_n 0, 1) := by decide +kernel
theorem dX12_set_42 : decode cX12_set 42 = .ok (.getfield 61, 3) := by decide +kernel
theorem dX12_set_45 : decode cX12_set 45 = .ok (.invokevirtual 225, 3) := by decide +kernel
theorem dX12_set_48 : decode cX12_set 48 = .ok (.aload_n 3, 1) := by decide +kernel
theorem dX12_set_49 : decode cX12_set 49 = .ok (.sipush 256, 3) := by decide +kernel
theorem dX12_set_52 : decode cX12_set 52 = .ok (.iload_n 1, 1) := by decide +kernel
theorem dX12_set_53 : decode cX12_set 53 = .ok (.iadd, 1) := by decide +kernel
theorem dX12_set_54 : decode cX12_set 54 = .ok (.iload_n 2, 1) := by decide +kernel
theorem dX12_set_55 : decode cX12_set 55 = .ok (.invokevirtual 239, 3) := by decide +kernel
theorem dX12_set_58 : decode cX12_set 58 = .ok (.iconst 1, 1) := by decide +kernel
theorem dX12_set_59 : decode cX12_set 59 = .ok (.ireturn, 1) := by decide +kernel
theorem dX12_next_0 : decode cX12_next 0 = .ok (.iload_n 1, 1) := by decide +kernel
theorem dX12_next_1 : decode cX12_next 1 = .ok (.ifCond .lt 11, 3) := by decide +kernel
theorem dX12_next_4 : decode cX12_next 4 = .ok (.iload_n 1, 1) := by decide +kernel
theorem dX12_next_5 : decode cX12_next 5 = .ok (.aload_n 0, 1) := by decide +kernel
theorem dX12_next_6 : decode cX12_next 6 = .ok (.invokevirtual 117, 3) := by decide +kernel
theorem dX12_next_9 : decode cX12_next 9 = .ok (.if_icmp .le 13, 3) := by decide +kernel
theorem dX12_next_12 : decode cX12_next 12 = .ok (.aload_n 0, 1) := by decide +kernel
theorem dX12_next_13 : decode cX12_next 13 = .ok (.getfield 61, 3) := by decide +kernel
theorem dX12_next_16 : decode cX12_next 16 = .ok (.iconst 1, 1) := by decide +kernel
theorem dX12_next_17 : decode cX12_next 17 = .ok (.invokevirtual 86, 3) := by decide +kernel
theorem dX12_next_20 : decode cX12_next 20 = .ok (.iconst (-1), 1) := by decide +kernel
theorem dX12_next_21 : decode cX12_next 21 = .ok (.ireturn, 1) := by decide +kernel
theorem dX12_next_22 : decode cX12_next 22 = .ok (.aload_n 0, 1) := by decide +kernel
theorem dX12_next_23 : decode cX12_next 23 = .ok (.getfield 61, 3) := by decide +kernel
theorem dX12_next_26 : decode cX12_next 26 = .ok (.invokevirtual 225, 3) := by decide +kernel
theorem dX12_next_29 : decode cX12_next 29 = .ok (.aload_n 0, 1) := by decide +kernel
theorem dX12_next_30 : decode cX12_next 30 = .ok (.getfield 61, 3) := by decide +kernel
theorem dX12_next_33 : decode cX12_next 33 = .ok (.getfield 107, 3) := by decide +kernel
theorem dX12_next_36 : decode cX12_next 36 = .ok (.sipush 265, 3) := by decide +kernel
theorem dX12_next_39 : decode cX12_next 39 = .ok (.iload_n 1, 1) := by decide +kernel
theorem dX12_next_40 : decode cX12_next 40 = .ok (.invokevirtual 239, 3) := by decide +kernel
theorem dX12_next_43 : decode cX12_next 43 = .ok (.aload_n 0, 1) := by decide +kernel
theorem dX12_next_44 : decode cX12_next 44 = .ok (.getfield 61, 3) := by decide +kernel
theorem dX12_next_47 : decode cX12_next 47 = .ok (.getfield 107, 3) := by decide +kernel
theorem dX12_next_50 : decode cX12_next 50 = .ok (.sipush 267, 3) := by decide +kernel
theorem dX12_next_53 : decode cX12_next 53 = .ok (.iload_n 1, 1) := by decide +kernel
theorem dX12_next_54 : decode cX12_next 54 = .ok (.aload_n 0, 1) := by decide +kernel
theorem dX12_next_55 : decode cX12_next 55 = .ok (.invokevirtual 117, 3) := by decide +kernel
theorem dX12_next_58 : decode cX12_next 58 = .ok (.if_icmp .ge 7, 3) := by decide +kernel
theorem dX12_next_61 : decode cX12_next 61 = .ok (.iconst 0, 1) := by decide +kernel
theorem dX12_next_62 : decode cX12_next 62 = .ok (.goto 4, 3) := by decide +kernel
theorem dX12_next_65 : decode cX12_next 65 = .ok (.iconst 1, 1) := by decide +kernel
theorem dX12_next_66 : decode cX12_next 66 = .ok (.invokevirtual 239, 3) := by decide +kernel
theorem dX12_next_69 : decode cX12_next 69 = .ok (.aload_n 0, 1) := by decide +kernel
theorem dX12_next_70 : decode cX12_next 70 = .ok (.getfield 61, 3) := by decide +kernel
theorem dX12_next_73 : decode cX12_next 73 = .ok (.getfield 107, 3) := by decide +kernel
theorem dX12_next_76 : decode cX12_next 76 = .ok (.sipush 267, 3) := by decide +kernel
theorem dX12_next_79 : decode cX12_next 79 = .ok (.invokevirtual 113, 3) := by decide +kernel
theorem dX12_next_82 : decode cX12_next 82 = .ok (.ireturn, 1) := by decide +kernel
theorem dX12_begin_0 : decode cX12_begin 0 = .ok (.aload_n 0, 1) := by decide +kernel
theorem dX12_begin_1 : decode cX12_begin 1 = .ok (.getfield 61, 3) := by decide +kernel
theorem dX12_begin_4 : decode cX12_begin 4 = .ok (.invokevirtual 225, 3) := by decide +kernel
theorem dX12_begin_7 : decode cX12_begin 7 = .ok (.aload_n 0, 1) := by decide +kernel
theorem dX12_begin_8 : decode cX12_begin 8 = .ok (.getfield 34, 3) := by decide +kernel
theorem dX12_begin_11 : decode cX12_begin 11 = .ok (.getfield 93, 3) := by decide +kernel
theorem dX12_begin_14 : decode cX12_begin 14 = .ok (.aload_n 0, 1) := by decide +kernel
theorem dX12_begin_15 : decode cX12_begin 15 = .ok (.getfield 61, 3) := by decide +kernel
theorem dX12_begin_18 : decode cX12_begin 18 = .ok (.getfield 107, 3) := by decide +kernel
theorem dX12_begin_21 : decode cX12_begin 21 = .ok (.invokevirtual 243, 3) := by decide +kernel
theorem dX12_begin_24 : decode cX12_begin 24 = .ok (.aload_n 0, 1) := by decide +kernel
theorem dX12_begin_25 : decode cX12_begin 25 = .ok (.getfield 61, 3) := by decide +kernel
theorem dX12_begin_28 : decode cX12_begin 28 = .ok (.getfield 107, 3) := by decide +kernel
theorem dX12_begin_31 : decode cX12_begin 31 = .ok (.sipush 267, 3) := by decide +kernel
theorem dX12_begin_34 : decode cX12_begin 34 = .ok (.invokevirtual 113, 3) := by decide +kernel
theorem dX12_begin_37 : decode cX12_begin 37 = .ok (.ireturn, 1) := by decide +kernel
theorem dX12_undo_0 : decode cX12_undo 0 = .ok (.aload_n 0, 1) := by decide +kernel
theorem dX12_undo_1 : decode cX12_undo 1 = .ok (.getfield 61, 3) := by decide +kernel
theorem dX12_undo_4 : decode cX12_undo 4 = .ok (.invokevirtual 126, 3) := by decide +kernel
theorem dX12_undo_7 : decode cX12_undo 7 = .ok (.ifCond .ne 5, 3) := by decide +kernel
theorem dX12_undo_10 : decode cX12_undo 10 = .ok (.iconst (-1), 1) := by decide +kernel
theorem dX12_undo_11 : decode cX12_undo 11 = .ok (.ireturn, 1) := by decide +kernel
theorem dX12_undo_12 : decode cX12_undo 12 = .ok (.aload_n 0, 1) := by decide +kernel
theorem dX12_undo_13 : decode cX12_undo 13 = .ok (.getfield 61, 3) := by decide +kernel
theorem dX12_undo_16 : decode cX12_undo 16 = .ok (.invokevirtual 247, 3) := by decide +kernel
theorem dX12_undo_19 : decode cX12_undo 19 = .ok (.aload_n 0, 1) := by decide +kernel
theorem dX12_undo_20 : decode cX12_undo 20 = .ok (.getfield 61, 3) := by decide +kernel
theorem dX12_undo_23 : decode cX12_undo 23 = .ok (.invokevirtual 126, 3) := by decide +kernel
theorem dX12_undo_26 : decode cX12_undo 26 = .ok (.ireturn, 1) := by decide +kernel
theorem dX12_then_0 : decode cX12_then 0 = .ok (.aload_n 0, 1) := by decide +kernel
theorem dX12_then_1 : decode cX12_then 1 = .ok (.iload_n 2, 1) := by decide +kernel
theorem dX12_then_2 : decode cX12_then 2 = .ok (.invokevirtual 140, 3) := by decide +kernel
theorem dX12_then_5 : decode cX12_then 5 = .ok (.aload_n 0, 1) := by decide +kernel
theorem dX12_then_6 : decode cX12_then 6 = .ok (.iload_n 1, 1) := by decide +kernel
theorem dX12_then_7 : decode cX12_then 7 = .ok (.invokevirtual 250, 3) := by decide +kernel
theorem dX12_then_10 : decode cX12_then 10 = .ok (.aload_n 0, 1) := by decide +kernel
theorem dX12_then_11 : decode cX12_then 11 = .ok (.getfield 34, 3) := by decide +kernel
theorem dX12_then_14 : decode cX12_then 14 = .ok (.aload_n 0, 1) := by decide +kernel
theorem dX12_then_15 : decode cX12_then 15 = .ok (.getfield 61, 3) := by decide +kernel
theorem dX12_then_18 : decode cX12_then 18 = .ok (.getfield 107, 3) := by decide +kernel
theorem dX12_then_21 : decode cX12_then 21 = .ok (.iload_n 1, 1) := by decide +kernel
theorem dX12_then_22 : decode cX12_then 22 = .ok (.invokevirtual 253, 3) := by decide +kernel
theorem dX12_then_25 : decode cX12_then 25 = .ok (.iload_n 2, 1) := by decide +kernel
theorem dX12_then_26 : decode cX12_then 26 = .ok (.invokevirtual 113, 3) := by decide +kernel
theorem dX12_then_29 : decode cX12_then 29 = .ok (.ireturn, 1) := by decide +kernel
theorem dX12_holds_0 : decode cX12_holds 0 = .ok (.aload_n 0, 1) := by decide +kernel
theorem dX12_holds_1 : decode cX12_holds 1 = .ok (.iload_n 2, 1) := by decide +kernel
theorem dX12_holds_2 : decode cX12_holds 2 = .ok (.invokevirtual 143, 3) := by decide +kernel
theorem dX12_holds_5 : decode cX12_holds 5 = .ok (.aload_n 0, 1) := by decide +kernel
theorem dX12_holds_6 : decode cX12_holds 6 = .ok (.iload_n 1, 1) := by decide +kernel
theorem dX12_holds_7 : decode cX12_holds 7 = .ok (.invokevirtual 250, 3) := by decide +kernel
theorem dX12_holds_10 : decode cX12_holds 10 = .ok (.aload_n 0, 1) := by decide +kernel
theorem dX12_holds_11 : decode cX12_holds 11 = .ok (.getfield 34, 3) := by decide +kernel
theorem dX12_holds_14 : decode cX12_holds 14 = .ok (.aload_n 0, 1) := by decide +kernel
theorem dX12_holds_15 : decode cX12_holds 15 = .ok (.getfield 61, 3) := by decide +kernel
theorem dX12_holds_18 : decode cX12_holds 18 = .ok (.getfield 107, 3) := by decide +kernel
theorem dX12_holds_21 : decode cX12_holds 21 = .ok (.iload_n 1, 1) := by decide +kernel
theorem dX12_holds_22 : decode cX12_holds 22 = .ok (.invokevirtual 253, 3) := by decide +kernel
theorem dX12_holds_25 : decode cX12_holds 25 = .ok (.sipush 256, 3) := by decide +kernel
theorem dX12_holds_28 : decode cX12_holds 28 = .ok (.iload_n 2, 1) := by decide +kernel
theorem dX12_holds_29 : decode cX12_holds 29 = .ok (.iadd, 1) := by decide +kernel
theorem dX12_holds_30 : decode cX12_holds 30 = .ok (.invokevirtual 113, 3) := by decide +kernel
theorem dX12_holds_33 : decode cX12_holds 33 = .ok (.ireturn, 1) := by decide +kernel
theorem dX12_where_0 : decode cX12_where 0 = .ok (.aload_n 0, 1) := by decide +kernel
theorem dX12_where_1 : decode cX12_where 1 = .ok (.iload_n 2, 1) := by decide +kernel
theorem dX12_where_2 : decode cX12_where 2 = .ok (.iconst 3, 1) := by decide +kernel
theorem dX12_where_3 : decode cX12_where 3 = .ok (.invokevirtual 257, 3) := by decide +kernel
theorem dX12_where_6 : decode cX12_where 6 = .ok (.aload_n 0, 1) := by decide +kernel
theorem dX12_where_7 : decode cX12_where 7 = .ok (.iload_n 1, 1) := by decide +kernel
theorem dX12_where_8 : decode cX12_where 8 = .ok (.invokevirtual 250, 3) := by decide +kernel
theorem dX12_where_11 : decode cX12_where 11 = .ok (.aload_n 0, 1) := by decide +kernel
theorem dX12_where_12 : decode cX12_where 12 = .ok (.getfield 34, 3) := by decide +kernel
theorem dX12_where_15 : decode cX12_where 15 = .ok (.aload_n 0, 1) := by decide +kernel
theorem dX12_where_16 : decode cX12_where 16 = .ok (.getfield 61, 3) := by decide +kernel
theorem dX12_where_19 : decode cX12_where 19 = .ok (.getfield 107, 3) := by decide +kernel
theorem dX12_where_22 : decode cX12_where 22 = .ok (.iload_n 1, 1) := by decide +kernel
theorem dX12_where_23 : decode cX12_where 23 = .ok (.invokevirtual 253, 3) := by decide +kernel
theorem dX12_where_26 : decode cX12_where 26 = .ok (.astore_n 3, 1) := by decide +kernel
theorem dX12_where_27 : decode cX12_where 27 = .ok (.iload_n 2, 1) := by decide +kernel
theorem dX12_where_28 : decode cX12_where 28 = .ok (.tableswitch 52 0 2 #[28, 36, 44], 28) := by decide +kernel
theorem dX12_where_56 : decode cX12_where 56 = .ok (.aload_n 3, 1) := by decide +kernel
theorem dX12_where_57 : decode cX12_where 57 = .ok (.sipush 265, 3) := by decide +kernel
theorem dX12_where_60 : decode cX12_where 60 = .ok (.invokevirtual 113, 3) := by decide +kernel
theorem dX12_where_63 : decode cX12_where 63 = .ok (.ireturn, 1) := by decide +kernel
theorem dX12_where_64 : decode cX12_where 64 = .ok (.aload_n 3, 1) := by decide +kernel
theorem dX12_where_65 : decode cX12_where 65 = .ok (.sipush 264, 3) := by decide +kernel
theorem dX12_where_68 : decode cX12_where 68 = .ok (.invokevirtual 113, 3) := by decide +kernel
theorem dX12_where_71 : decode cX12_where 71 = .ok (.ireturn, 1) := by decide +kernel
theorem dX12_where_72 : decode cX12_where 72 = .ok (.aload_n 3, 1) := by decide +kernel
theorem dX12_where_73 : decode cX12_where 73 = .ok (.sipush 267, 3) := by decide +kernel
theorem dX12_where_76 : decode cX12_where 76 = .ok (.invokevirtual 113, 3) := by decide +kernel
theorem dX12_where_79 : decode cX12_where 79 = .ok (.ireturn, 1) := by decide +kernel
theorem dX12_where_80 : decode cX12_where 80 = .ok (.aload_n 3, 1) := by decide +kernel
theorem dX12_where_81 : decode cX12_where 81 = .ok (.sipush 277, 3) := by decide +kernel
theorem dX12_where_84 : decode cX12_where 84 = .ok (.invokevirtual 113, 3) := by decide +kernel
theorem dX12_where_87 : decode cX12_where 87 = .ok (.ireturn, 1) := by decide +kernel
theorem dX12_faults_0 : decode cX12_faults 0 = .ok (.aload_n 0, 1) := by decide +kernel
theorem dX12_faults_1 : decode cX12_faults 1 = .ok (.iload_n 1, 1) := by decide +kernel
theorem dX12_faults_2 : decode cX12_faults 2 = .ok (.invokevirtual 146, 3) := by decide +kernel
theorem dX12_faults_5 : decode cX12_faults 5 = .ok (.aload_n 0, 1) := by decide +kernel
theorem dX12_faults_6 : decode cX12_faults 6 = .ok (.getfield 34, 3) := by decide +kernel
theorem dX12_faults_9 : decode cX12_faults 9 = .ok (.aload_n 0, 1) := by decide +kernel
theorem dX12_faults_10 : decode cX12_faults 10 = .ok (.getfield 61, 3) := by decide +kernel
theorem dX12_faults_13 : decode cX12_faults 13 = .ok (.getfield 107, 3) := by decide +kernel
theorem dX12_faults_16 : decode cX12_faults 16 = .ok (.iload_n 1, 1) := by decide +kernel
theorem dX12_faults_17 : decode cX12_faults 17 = .ok (.invokevirtual 260, 3) := by decide +kernel
theorem dX12_faults_20 : decode cX12_faults 20 = .ok (.ireturn, 1) := by decide +kernel
theorem dX12_halts_0 : decode cX12_halts 0 = .ok (.aload_n 0, 1) := by decide +kernel
theorem dX12_halts_1 : decode cX12_halts 1 = .ok (.getfield 34, 3) := by decide +kernel
theorem dX12_halts_4 : decode cX12_halts 4 = .ok (.aload_n 0, 1) := by decide +kernel
theorem dX12_halts_5 : decode cX12_halts 5 = .ok (.getfield 61, 3) := by decide +kernel
theorem dX12_halts_8 : decode cX12_halts 8 = .ok (.getfield 107, 3) := by decide +kernel
theorem dX12_halts_11 : decode cX12_halts 11 = .ok (.invokevirtual 264, 3) := by decide +kernel
theorem dX12_halts_14 : decode cX12_halts 14 = .ok (.ireturn, 1) := by decide +kernel
theorem dX12_changes_0 : decode cX12_changes 0 = .ok (.aload_n 0, 1) := by decide +kernel
theorem dX12_changes_1 : decode cX12_changes 1 = .ok (.iload_n 1, 1) := by decide +kernel
theorem dX12_changes_2 : decode cX12_changes 2 = .ok (.invokevirtual 140, 3) := by decide +kernel
theorem dX12_changes_5 : decode cX12_changes 5 = .ok (.aload_n 0, 1) := by decide +kernel
theorem dX12_changes_6 : decode cX12_changes 6 = .ok (.getfield 34, 3) := by decide +kernel
theorem dX12_changes_9 : decode cX12_changes 9 = .ok (.aload_n 0, 1) := by decide +kernel
theorem dX12_changes_10 : decode cX12_changes 10 = .ok (.getfield 61, 3) := by decide +kernel
theorem dX12_changes_13 : decode cX12_changes 13 = .ok (.getfield 107, 3) := by decide +kernel
theorem dX12_changes_16 : decode cX12_changes 16 = .ok (.iload_n 1, 1) := by decide +kernel
theorem dX12_changes_17 : decode cX12_changes 17 = .ok (.invokevirtual 267, 3) := by decide +kernel
theorem dX12_changes_20 : decode cX12_changes 20 = .ok (.ireturn, 1) := by decide +kernel
theorem dX12_round_0 : decode cX12_round 0 = .ok (.aload_n 0, 1) := by decide +kernel
theorem dX12_round_1 : decode cX12_round 1 = .ok (.getfield 34, 3) := by decide +kernel
theorem dX12_round_4 : decode cX12_round 4 = .ok (.aload_n 0, 1) := by decide +kernel
theorem dX12_round_5 : decode cX12_round 5 = .ok (.getfield 61, 3) := by decide +kernel
theorem dX12_round_8 : decode cX12_round 8 = .ok (.getfield 107, 3) := by decide +kernel
theorem dX12_round_11 : decode cX12_round 11 = .ok (.invokevirtual 270, 3) := by decide +kernel
theorem dX12_round_14 : decode cX12_round 14 = .ok (.ireturn, 1) := by decide +kernel
theorem dX12_spoilt_0 : decode cX12_spoilt 0 = .ok (.aload_n 0, 1) := by decide +kernel
theorem dX12_spoilt_1 : decode cX12_spoilt 1 = .ok (.iload 4, 2) := by decide +kernel
theorem dX12_spoilt_3 : decode cX12_spoilt 3 = .ok (.iconst 3, 1) := by decide +kernel
theorem dX12_spoilt_4 : decode cX12_spoilt 4 = .ok (.invokevirtual 257, 3) := by decide +kernel
theorem dX12_spoilt_7 : decode cX12_spoilt 7 = .ok (.aload_n 0, 1) := by decide +kernel
theorem dX12_spoilt_8 : decode cX12_spoilt 8 = .ok (.iload_n 1, 1) := by decide +kernel
theorem dX12_spoilt_9 : decode cX12_spoilt 9 = .ok (.iload_n 2, 1) := by decide +kernel
theorem dX12_spoilt_10 : decode cX12_spoilt 10 = .ok (.iconst 3, 1) := by decide +kernel
theorem dX12_spoilt_11 : decode cX12_spoilt 11 = .ok (.invokevirtual 161, 3) := by decide +kernel
theorem dX12_spoilt_14 : decode cX12_spoilt 14 = .ok (.iload_n 3, 1) := by decide +kernel
theorem dX12_spoilt_15 : decode cX12_spoilt 15 = .ok (.iconst 1, 1) := by decide +kernel
theorem dX12_spoilt_16 : decode cX12_spoilt 16 = .ok (.if_icmp .lt 9, 3) := by decide +kernel
theorem dX12_spoilt_19 : decode cX12_spoilt 19 = .ok (.iload_n 3, 1) := by decide +kernel
theorem dX12_spoilt_20 : decode cX12_spoilt 20 = .ok (.bipush 60, 2) := by decide +kernel
theorem dX12_spoilt_22 : decode cX12_spoilt 22 = .ok (.if_icmp .le 14, 3) := by decide +kernel
theorem dX12_spoilt_25 : decode cX12_spoilt 25 = .ok (.new 72, 3) := by decide +kernel
theorem dX12_spoilt_28 : decode cX12_spoilt 28 = .ok (.dup, 1) := by decide +kernel
theorem dX12_spoilt_29 : decode cX12_spoilt 29 = .ok (.ldc_w 273, 3) := by decide +kernel
theorem dX12_spoilt_32 : decode cX12_spoilt 32 = .ok (.invokespecial 76, 3) := by decide +kernel
theorem dX12_spoilt_35 : decode cX12_spoilt 35 = .ok (.athrow, 1) := by decide +kernel
theorem dX12_spoilt_36 : decode cX12_spoilt 36 = .ok (.aload_n 0, 1) := by decide +kernel
theorem dX12_spoilt_37 : decode cX12_spoilt 37 = .ok (.getfield 34, 3) := by decide +kernel
theorem dX12_spoilt_40 : decode cX12_spoilt 40 = .ok (.aload_n 0, 1) := by decide +kernel
theorem dX12_spoilt_41 : decode cX12_spoilt 41 = .ok (.getfield 61, 3) := by decide +kernel
theorem dX12_spoilt_44 : decode cX12_spoilt 44 = .ok (.getfield 107, 3) := by decide +kernel
theorem dX12_spoilt_47 : decode cX12_spoilt 47 = .ok (.iload_n 1, 1) := by decide +kernel
theorem dX12_spoilt_48 : decode cX12_spoilt 48 = .ok (.iload_n 2, 1) := by decide +kernel
theorem dX12_spoilt_49 : decode cX12_spoilt 49 = .ok (.iload_n 3, 1) := by decide +kernel
theorem dX12_spoilt_50 : decode cX12_spoilt 50 = .ok (.iload 4, 2) := by decide +kernel
theorem dX12_spoilt_52 : decode cX12_spoilt 52 = .ok (.invokevirtual 275, 3) := by decide +kernel
theorem dX12_spoilt_55 : decode cX12_spoilt 55 = .ok (.ireturn, 1) := by decide +kernel
theorem dX12_note_0 : decode cX12_note 0 = .ok (.aload_n 0, 1) := by decide +kernel
theorem dX12_note_1 : decode cX12_note 1 = .ok (.getfield 61, 3) := by decide +kernel
theorem dX12_note_4 : decode cX12_note 4 = .ok (.invokevirtual 129, 3) := by decide +kernel
theorem dX12_note_7 : decode cX12_note 7 = .ok (.bipush 8, 2) := by decide +kernel
theorem dX12_note_9 : decode cX12_note 9 = .ok (.if_icmp .ge 27, 3) := by decide +kernel
theorem dX12_note_12 : decode cX12_note 12 = .ok (.iload_n 1, 1) := by decide +kernel
theorem dX12_note_13 : decode cX12_note 13 = .ok (.ifCond .lt 23, 3) := by decide +kernel
theorem dX12_note_16 : decode cX12_note 16 = .ok (.iload_n 1, 1) := by decide +kernel
theorem dX12_note_17 : decode cX12_note 17 = .ok (.bipush 60, 2) := by decide +kernel
theorem dX12_note_19 : decode cX12_note 19 = .ok (.if_icmp .gt 17, 3) := by decide +kernel
theorem dX12_note_22 : decode cX12_note 22 = .ok (.iload_n 2, 1) := by decide +kernel
theorem dX12_note_23 : decode cX12_note 23 = .ok (.invokestatic 232, 3) := by decide +kernel
theorem dX12_note_26 : decode cX12_note 26 = .ok (.ifCond .eq 10, 3) := by decide +kernel
theorem dX12_note_29 : decode cX12_note 29 = .ok (.iload_n 3, 1) := by decide +kernel
theorem dX12_note_30 : decode cX12_note 30 = .ok (.invokestatic 236, 3) := by decide +kernel
theorem dX12_note_33 : decode cX12_note 33 = .ok (.ifCond .ne 13, 3) := by decide +kernel
theorem dX12_note_36 : decode cX12_note 36 = .ok (.aload_n 0, 1) := by decide +kernel
theorem dX12_note_37 : decode cX12_note 37 = .ok (.getfield 61, 3) := by decide +kernel
theorem dX12_note_40 : decode cX12_note 40 = .ok (.iconst 2, 1) := by decide +kernel
theorem dX12_note_41 : decode cX12_note 41 = .ok (.invokevirtual 86, 3) := by decide +kernel
theorem dX12_note_44 : decode cX12_note 44 = .ok (.iconst (-1), 1) := by decide +kernel
theorem dX12_note_45 : decode cX12_note 45 = .ok (.ireturn, 1) := by decide +kernel
theorem dX12_note_46 : decode cX12_note 46 = .ok (.aload_n 0, 1) := by decide +kernel
theorem dX12_note_47 : decode cX12_note 47 = .ok (.getfield 61, 3) := by decide +kernel
theorem dX12_note_50 : decode cX12_note 50 = .ok (.iload_n 1, 1) := by decide +kernel
theorem dX12_note_51 : decode cX12_note 51 = .ok (.iload_n 2, 1) := by decide +kernel
theorem dX12_note_52 : decode cX12_note 52 = .ok (.iload_n 3, 1) := by decide +kernel
theorem dX12_note_53 : decode cX12_note 53 = .ok (.invokevirtual 279, 3) := by decide +kernel
theorem dX12_note_56 : decode cX12_note 56 = .ok (.aload_n 0, 1) := by decide +kernel
theorem dX12_note_57 : decode cX12_note 57 = .ok (.getfield 61, 3) := by decide +kernel
theorem dX12_note_60 : decode cX12_note 60 = .ok (.invokevirtual 129, 3) := by decide +kernel
theorem dX12_note_63 : decode cX12_note 63 = .ok (.ireturn, 1) := by decide +kernel
theorem dX12_blamed_0 : decode cX12_blamed 0 = .ok (.aload_n 0, 1) := by decide +kernel
theorem dX12_blamed_1 : decode cX12_blamed 1 = .ok (.iload_n 3, 1) := by decide +kernel
theorem dX12_blamed_2 : decode cX12_blamed 2 = .ok (.iconst 2, 1) := by decide +kernel
theorem dX12_blamed_3 : decode cX12_blamed 3 = .ok (.invokevirtual 257, 3) := by decide +kernel
theorem dX12_blamed_6 : decode cX12_blamed 6 = .ok (.aload_n 0, 1) := by decide +kernel
theorem dX12_blamed_7 : decode cX12_blamed 7 = .ok (.iload_n 1, 1) := by decide +kernel
theorem dX12_blamed_8 : decode cX12_blamed 8 = .ok (.iload_n 2, 1) := by decide +kernel
theorem dX12_blamed_9 : decode cX12_blamed 9 = .ok (.iconst 3, 1) := by decide +kernel
theorem dX12_blamed_10 : decode cX12_blamed 10 = .ok (.invokevirtual 161, 3) := by decide +kernel
theorem dX12_blamed_13 : decode cX12_blamed 13 = .ok (.aload_n 0, 1) := by decide +kernel
theorem dX12_blamed_14 : decode cX12_blamed 14 = .ok (.getfield 34, 3) := by decide +kernel
theorem dX12_blamed_17 : decode cX12_blamed 17 = .ok (.aload_n 0, 1) := by decide +kernel
theorem dX12_blamed_18 : decode cX12_blamed 18 = .ok (.getfield 61, 3) := by decide +kernel
theorem dX12_blamed_21 : decode cX12_blamed 21 = .ok (.iload_n 1, 1) := by decide +kernel
theorem dX12_blamed_22 : decode cX12_blamed 22 = .ok (.iload_n 2, 1) := by decide +kernel
theorem dX12_blamed_23 : decode cX12_blamed 23 = .ok (.iload_n 3, 1) := by decide +kernel
theorem dX12_blamed_24 : decode cX12_blamed 24 = .ok (.invokevirtual 282, 3) := by decide +kernel
theorem dX12_blamed_27 : decode cX12_blamed 27 = .ok (.ireturn, 1) := by decide +kernel
theorem dX12_forget_0 : decode cX12_forget 0 = .ok (.aload_n 0, 1) := by decide +kernel
theorem dX12_forget_1 : decode cX12_forget 1 = .ok (.getfield 61, 3) := by decide +kernel
theorem dX12_forget_4 : decode cX12_forget 4 = .ok (.invokevirtual 286, 3) := by decide +kernel
theorem dX12_forget_7 : decode cX12_forget 7 = .ok (.return_, 1) := by decide +kernel
theorem dX12_years_0 : decode cX12_years 0 = .ok (.aload_n 0, 1) := by decide +kernel
theorem dX12_years_1 : decode cX12_years 1 = .ok (.iload_n 3, 1) := by decide +kernel
theorem dX12_years_2 : decode cX12_years 2 = .ok (.iconst 2, 1) := by decide +kernel
theorem dX12_years_3 : decode cX12_years 3 = .ok (.invokevirtual 257, 3) := by decide +kernel
theorem dX12_years_6 : decode cX12_years 6 = .ok (.iload_n 2, 1) := by decide +kernel
theorem dX12_years_7 : decode cX12_years 7 = .ok (.ifCond .lt 9, 3) := by decide +kernel
theorem dX12_years_10 : decode cX12_years 10 = .ok (.iload_n 2, 1) := by decide +kernel
theorem dX12_years_11 : decode cX12_years 11 = .ok (.bipush 20, 2) := by decide +kernel
theorem dX12_years_13 : decode cX12_years 13 = .ok (.if_icmp .le 14, 3) := by decide +kernel
theorem dX12_years_16 : decode cX12_years 16 = .ok (.new 72, 3) := by decide +kernel
theorem dX12_years_19 : decode cX12_years 19 = .ok (.dup, 1) := by decide +kernel
theorem dX12_years_20 : decode cX12_years 20 = .ok (.ldc_w 289, 3) := by decide +kernel
theorem dX12_years_23 : decode cX12_years 23 = .ok (.invokespecial 76, 3) := by decide +kernel
theorem dX12_years_26 : decode cX12_years 26 = .ok (.athrow, 1) := by decide +kernel
theorem dX12_years_27 : decode cX12_years 27 = .ok (.aload_n 0, 1) := by decide +kernel
theorem dX12_years_28 : decode cX12_years 28 = .ok (.getfield 34, 3) := by decide +kernel
theorem dX12_years_31 : decode cX12_years 31 = .ok (.aload_n 0, 1) := by decide +kernel
theorem dX12_years_32 : decode cX12_years 32 = .ok (.getfield 61, 3) := by decide +kernel
theorem dX12_years_35 : decode cX12_years 35 = .ok (.getfield 107, 3) := by decide +kernel
theorem dX12_years_38 : decode cX12_years 38 = .ok (.iload_n 1, 1) := by decide +kernel
theorem dX12_years_39 : decode cX12_years 39 = .ok (.iload_n 2, 1) := by decide +kernel
theorem dX12_years_40 : decode cX12_years 40 = .ok (.iload_n 3, 1) := by decide +kernel
theorem dX12_years_41 : decode cX12_years 41 = .ok (.invokevirtual 291, 3) := by decide +kernel
theorem dX12_years_44 : decode cX12_years 44 = .ok (.ireturn, 1) := by decide +kernel
theorem dX12_image_0 : decode cX12_image 0 = .ok (.aload_n 0, 1) := by decide +kernel
theorem dX12_image_1 : decode cX12_image 1 = .ok (.getfield 295, 3) := by decide +kernel
theorem dX12_image_4 : decode cX12_image 4 = .ok (.ifnonnull 14, 3) := by decide +kernel
theorem dX12_image_7 : decode cX12_image 7 = .ok (.aload_n 0, 1) := by decide +kernel
theorem dX12_image_8 : decode cX12_image 8 = .ok (.new 58, 3) := by decide +kernel
theorem dX12_image_11 : decode cX12_image 11 = .ok (.dup, 1) := by decide +kernel
theorem dX12_image_12 : decode cX12_image 12 = .ok (.invokespecial 60, 3) := by decide +kernel
theorem dX12_image_15 : decode cX12_image 15 = .ok (.putfield 295, 3) := by decide +kernel
theorem dX12_image_18 : decode cX12_image 18 = .ok (.aload_n 0, 1) := by decide +kernel
theorem dX12_image_19 : decode cX12_image 19 = .ok (.getfield 295, 3) := by decide +kernel
theorem dX12_image_22 : decode cX12_image 22 = .ok (.aload_n 0, 1) := by decide +kernel
theorem dX12_image_23 : decode cX12_image 23 = .ok (.getfield 61, 3) := by decide +kernel
theorem dX12_image_26 : decode cX12_image 26 = .ok (.invokevirtual 298, 3) := by decide +kernel
theorem dX12_image_29 : decode cX12_image 29 = .ok (.aload_n 0, 1) := by decide +kernel
theorem dX12_image_30 : decode cX12_image 30 = .ok (.iconst 1, 1) := by decide +kernel
theorem dX12_image_31 : decode cX12_image 31 = .ok (.putfield 103, 3) := by decide +kernel
theorem dX12_image_34 : decode cX12_image 34 = .ok (.return_, 1) := by decide +kernel
theorem dX12_restore_0 : decode cX12_restore 0 = .ok (.aload_n 0, 1) := by decide +kernel
theorem dX12_restore_1 : decode cX12_restore 1 = .ok (.getfield 103, 3) := by decide +kernel
theorem dX12_restore_4 : decode cX12_restore 4 = .ok (.ifCond .eq 10, 3) := by decide +kernel
theorem dX12_restore_7 : decode cX12_restore 7 = .ok (.aload_n 0, 1) := by decide +kernel
theorem dX12_restore_8 : decode cX12_restore 8 = .ok (.getfield 295, 3) := by decide +kernel
theorem dX12_restore_11 : decode cX12_restore 11 = .ok (.ifnonnull 5, 3) := by decide +kernel
theorem dX12_restore_14 : decode cX12_restore 14 = .ok (.iconst 0, 1) := by decide +kernel
theorem dX12_restore_15 : decode cX12_restore 15 = .ok (.ireturn, 1) := by decide +kernel
theorem dX12_restore_16 : decode cX12_restore 16 = .ok (.aload_n 0, 1) := by decide +kernel
theorem dX12_restore_17 : decode cX12_restore 17 = .ok (.getfield 61, 3) := by decide +kernel
theorem dX12_restore_20 : decode cX12_restore 20 = .ok (.aload_n 0, 1) := by decide +kernel
theorem dX12_restore_21 : decode cX12_restore 21 = .ok (.getfield 295, 3) := by decide +kernel
theorem dX12_restore_24 : decode cX12_restore 24 = .ok (.invokevirtual 298, 3) := by decide +kernel
theorem dX12_restore_27 : decode cX12_restore 27 = .ok (.iconst 1, 1) := by decide +kernel
theorem dX12_restore_28 : decode cX12_restore 28 = .ok (.ireturn, 1) := by decide +kernel
theorem dX12_instructions_0 : decode cX12_instructions 0 = .ok (.aload_n 0, 1) := by decide +kernel
theorem dX12_instructions_1 : decode cX12_instructions 1 = .ok (.getfield 34, 3) := by decide +kernel
theorem dX12_instructions_4 : decode cX12_instructions 4 = .ok (.getfield 93, 3) := by decide +kernel
theorem dX12_instructions_7 : decode cX12_instructions 7 = .ok (.invokevirtual 302, 3) := by decide +kernel
theorem dX12_instructions_10 : decode cX12_instructions 10 = .ok (.ireturn, 1) := by decide +kernel
theorem dX12_append_0 : decode cX12_append 0 = .ok (.bipush 24, 2) := by decide +kernel
theorem dX12_append_2 : decode cX12_append 2 = .ok (.istore_n 2, 1) := by decide +kernel
theorem dX12_append_3 : decode cX12_append 3 = .ok (.iload_n 2, 1) := by decide +kernel
theorem dX12_append_4 : decode cX12_append 4 = .ok (.ifCond .lt 45, 3) := by decide +kernel
theorem dX12_append_7 : decode cX12_append 7 = .ok (.aload_n 0, 1) := by decide +kernel
theorem dX12_append_8 : decode cX12_append 8 = .ok (.getfield 65, 3) := by decide +kernel
theorem dX12_append_11 : decode cX12_append 11 = .ok (.sipush 700, 3) := by decide +kernel
theorem dX12_append_14 : decode cX12_append 14 = .ok (.if_icmp .ge 35, 3) := by decide +kernel
theorem dX12_append_17 : decode cX12_append 17 = .ok (.aload_n 0, 1) := by decide +kernel
theorem dX12_append_18 : decode cX12_append 18 = .ok (.getfield 9, 3) := by decide +kernel
theorem dX12_append_21 : decode cX12_append 21 = .ok (.aload_n 0, 1) := by decide +kernel
theorem dX12_append_22 : decode cX12_append 22 = .ok (.getfield 65, 3) := by decide +kernel
theorem dX12_append_25 : decode cX12_append 25 = .ok (.iload_n 1, 1) := by decide +kernel
theorem dX12_append_26 : decode cX12_append 26 = .ok (.iload_n 2, 1) := by decide +kernel
theorem dX12_append_27 : decode cX12_append 27 = .ok (.iushr, 1) := by decide +kernel
theorem dX12_append_28 : decode cX12_append 28 = .ok (.sipush 255, 3) := by decide +kernel
theorem dX12_append_31 : decode cX12_append 31 = .ok (.iand, 1) := by decide +kernel
theorem dX12_append_32 : decode cX12_append 32 = .ok (.iastore, 1) := by decide +kernel
theorem dX12_append_33 : decode cX12_append 33 = .ok (.aload_n 0, 1) := by decide +kernel
theorem dX12_append_34 : decode cX12_append 34 = .ok (.dup, 1) := by decide +kernel
theorem dX12_append_35 : decode cX12_append 35 = .ok (.getfield 65, 3) := by decide +kernel
theorem dX12_append_38 : decode cX12_append 38 = .ok (.iconst 1, 1) := by decide +kernel
theorem dX12_append_39 : decode cX12_append 39 = .ok (.iadd, 1) := by decide +kernel
theorem dX12_append_40 : decode cX12_append 40 = .ok (.putfield 65, 3) := by decide +kernel
theorem dX12_append_43 : decode cX12_append 43 = .ok (.iinc 2 (-8), 3) := by decide +kernel
theorem dX12_append_46 : decode cX12_append 46 = .ok (.goto (-43), 3) := by decide +kernel
theorem dX12_append_49 : decode cX12_append 49 = .ok (.return_, 1) := by decide +kernel
theorem dX12_needPlace_0 : decode cX12_needPlace 0 = .ok (.iload_n 1, 1) := by decide +kernel
theorem dX12_needPlace_1 : decode cX12_needPlace 1 = .ok (.invokestatic 232, 3) := by decide +kernel
theorem dX12_needPlace_4 : decode cX12_needPlace 4 = .ok (.ifCond .ne 14, 3) := by decide +kernel
theorem dX12_needPlace_7 : decode cX12_needPlace 7 = .ok (.new 135, 3) := by decide +kernel
theorem dX12_needPlace_10 : decode cX12_needPlace 10 = .ok (.dup, 1) := by decide +kernel
theorem dX12_needPlace_11 : decode cX12_needPlace 11 = .ok (.ldc_w 303, 3) := by decide +kernel
theorem dX12_needPlace_14 : decode cX12_needPlace 14 = .ok (.invokespecial 139, 3) := by decide +kernel
theorem dX12_needPlace_17 : decode cX12_needPlace 17 = .ok (.athrow, 1) := by decide +kernel
theorem dX12_needPlace_18 : decode cX12_needPlace 18 = .ok (.return_, 1) := by decide +kernel
theorem dX12_needRegister_0 : decode cX12_needRegister 0 = .ok (.iload_n 1, 1) := by decide +kernel
theorem dX12_needRegister_1 : decode cX12_needRegister 1 = .ok (.ifCond .lt 9, 3) := by decide +kernel
theorem dX12_needRegister_4 : decode cX12_needRegister 4 = .ok (.iload_n 1, 1) := by decide +kernel
theorem dX12_needRegister_5 : decode cX12_needRegister 5 = .ok (.bipush 7, 2) := by decide +kernel
theorem dX12_needRegister_7 : decode cX12_needRegister 7 = .ok (.if_icmp .le 14, 3) := by decide +kernel
theorem dX12_needRegister_10 : decode cX12_needRegister 10 = .ok (.new 135, 3) := by decide +kernel
theorem dX12_needRegister_13 : decode cX12_needRegister 13 = .ok (.dup, 1) := by decide +kernel
theorem dX12_needRegister_14 : decode cX12_needRegister 14 = .ok (.ldc_w 305, 3) := by decide +kernel
theorem dX12_needRegister_17 : decode cX12_needRegister 17 = .ok (.invokespecial 139, 3) := by decide +kernel
theorem dX12_needRegister_20 : decode cX12_needRegister 20 = .ok (.athrow, 1) := by decide +kernel
theorem dX12_needRegister_21 : decode cX12_needRegister 21 = .ok (.return_, 1) := by decide +kernel
theorem dX12_needKind_0 : decode cX12_needKind 0 = .ok (.iload_n 1, 1) := by decide +kernel
theorem dX12_needKind_1 : decode cX12_needKind 1 = .ok (.iconst 1, 1) := by decide +kernel
theorem dX12_needKind_2 : decode cX12_needKind 2 = .ok (.if_icmp .lt 9, 3) := by decide +kernel
theorem dX12_needKind_5 : decode cX12_needKind 5 = .ok (.iload_n 1, 1) := by decide +kernel
theorem dX12_needKind_6 : decode cX12_needKind 6 = .ok (.bipush 8, 2) := by decide +kernel
theorem dX12_needKind_8 : decode cX12_needKind 8 = .ok (.if_icmp .le 14, 3) := by decide +kernel
theorem dX12_needKind_11 : decode cX12_needKind 11 = .ok (.new 135, 3) := by decide +kernel
theorem dX12_needKind_14 : decode cX12_needKind 14 = .ok (.dup, 1) := by decide +kernel
theorem dX12_needKind_15 : decode cX12_needKind 15 = .ok (.ldc_w 307, 3) := by decide +kernel
theorem dX12_needKind_18 : decode cX12_needKind 18 = .ok (.invokespecial 139, 3) := by decide +kernel
theorem dX12_needKind_21 : decode cX12_needKind 21 = .ok (.athrow, 1) := by decide +kernel
theorem dX12_needKind_22 : decode cX12_needKind 22 = .ok (.return_, 1) := by decide +kernel
theorem dX12_needWhat_0 : decode cX12_needWhat 0 = .ok (.iload_n 1, 1) := by decide +kernel
theorem dX12_needWhat_1 : decode cX12_needWhat 1 = .ok (.ifCond .lt 8, 3) := by decide +kernel
theorem dX12_needWhat_4 : decode cX12_needWhat 4 = .ok (.iload_n 1, 1) := by decide +kernel
theorem dX12_needWhat_5 : decode cX12_needWhat 5 = .ok (.iload_n 2, 1) := by decide +kernel
theorem dX12_needWhat_6 : decode cX12_needWhat 6 = .ok (.if_icmp .le 14, 3) := by decide +kernel
theorem dX12_needWhat_9 : decode cX12_needWhat 9 = .ok (.new 135, 3) := by decide +kernel
theorem dX12_needWhat_12 : decode cX12_needWhat 12 = .ok (.dup, 1) := by decide +kernel
theorem dX12_needWhat_13 : decode cX12_needWhat 13 = .ok (.ldc_w 309, 3) := by decide +kernel
theorem dX12_needWhat_16 : decode cX12_needWhat 16 = .ok (.invokespecial 139, 3) := by decide +kernel
theorem dX12_needWhat_19 : decode cX12_needWhat 19 = .ok (.athrow, 1) := by decide +kernel
theorem dX12_needWhat_20 : decode cX12_needWhat 20 = .ok (.return_, 1) := by decide +kernel
theorem dX12_needSteps_0 : decode cX12_needSteps 0 = .ok (.iload_n 1, 1) := by decide +kernel
theorem dX12_needSteps_1 : decode cX12_needSteps 1 = .ok (.ifCond .lt 9, 3) := by decide +kernel
theorem dX12_needSteps_4 : decode cX12_needSteps 4 = .ok (.iload_n 1, 1) := by decide +kernel
theorem dX12_needSteps_5 : decode cX12_needSteps 5 = .ok (.bipush 100, 2) := by decide +kernel
theorem dX12_needSteps_7 : decode cX12_needSteps 7 = .ok (.if_icmp .le 14, 3) := by decide +kernel
theorem dX12_needSteps_10 : decode cX12_needSteps 10 = .ok (.new 72, 3) := by decide +kernel
theorem dX12_needSteps_13 : decode cX12_needSteps 13 = .ok (.dup, 1) := by decide +kernel
theorem dX12_needSteps_14 : decode cX12_needSteps 14 = .ok (.ldc_w 311, 3) := by decide +kernel
theorem dX12_needSteps_17 : decode cX12_needSteps 17 = .ok (.invokespecial 76, 3) := by decide +kernel
theorem dX12_needSteps_20 : decode cX12_needSteps 20 = .ok (.athrow, 1) := by decide +kernel
theorem dX12_needSteps_21 : decode cX12_needSteps 21 = .ok (.return_, 1) := by decide +kernel
theorem dX12_needField_0 : decode cX12_needField 0 = .ok (.iload_n 2, 1) := by decide +kernel
theorem dX12_needField_1 : decode cX12_needField 1 = .ok (.iconst 1, 1) := by decide +kernel
theorem dX12_needField_2 : decode cX12_needField 2 = .ok (.if_icmp .lt 16, 3) := by decide +kernel
theorem dX12_needField_5 : decode cX12_needField 5 = .ok (.iload_n 2, 1) := by decide +kernel
theorem dX12_needField_6 : decode cX12_needField 6 = .ok (.iload_n 3, 1) := by decide +kernel
theorem dX12_needField_7 : decode cX12_needField 7 = .ok (.if_icmp .gt 11, 3) := by decide +kernel
theorem dX12_needField_10 : decode cX12_needField 10 = .ok (.iload_n 1, 1) := by decide +kernel
theorem dX12_needField_11 : decode cX12_needField 11 = .ok (.iload_n 2, 1) := by decide +kernel
theorem dX12_needField_12 : decode cX12_needField 12 = .ok (.invokestatic 313, 3) := by decide +kernel
theorem dX12_needField_15 : decode cX12_needField 15 = .ok (.ifCond .ne 14, 3) := by decide +kernel
theorem dX12_needField_18 : decode cX12_needField 18 = .ok (.new 72, 3) := by decide +kernel
theorem dX12_needField_21 : decode cX12_needField 21 = .ok (.dup, 1) := by decide +kernel
theorem dX12_needField_22 : decode cX12_needField 22 = .ok (.ldc_w 317, 3) := by decide +kernel
theorem dX12_needField_25 : decode cX12_needField 25 = .ok (.invokespecial 76, 3) := by decide +kernel
theorem dX12_needField_28 : decode cX12_needField 28 = .ok (.athrow, 1) := by decide +kernel
theorem dX12_needField_29 : decode cX12_needField 29 = .ok (.return_, 1) := by decide +kernel
theorem dX12_needSound_0 : decode cX12_needSound 0 = .ok (.aload_n 0, 1) := by decide +kernel
theorem dX12_needSound_1 : decode cX12_needSound 1 = .ok (.getfield 61, 3) := by decide +kernel
theorem dX12_needSound_4 : decode cX12_needSound 4 = .ok (.getfield 107, 3) := by decide +kernel
theorem dX12_needSound_7 : decode cX12_needSound 7 = .ok (.iload_n 1, 1) := by decide +kernel
theorem dX12_needSound_8 : decode cX12_needSound 8 = .ok (.iload_n 2, 1) := by decide +kernel
theorem dX12_needSound_9 : decode cX12_needSound 9 = .ok (.iload_n 3, 1) := by decide +kernel
theorem dX12_needSound_10 : decode cX12_needSound 10 = .ok (.iconst 2, 1) := by decide +kernel
theorem dX12_needSound_11 : decode cX12_needSound 11 = .ok (.iload_n 1, 1) := by decide +kernel
theorem dX12_needSound_12 : decode cX12_needSound 12 = .ok (.imul, 1) := by decide +kernel
theorem dX12_needSound_13 : decode cX12_needSound 13 = .ok (.invokevirtual 165, 3) := by decide +kernel
theorem dX12_needSound_16 : decode cX12_needSound 16 = .ok (.iconst (-1), 1) := by decide +kernel
theorem dX12_needSound_17 : decode cX12_needSound 17 = .ok (.if_icmp .eq 14, 3) := by decide +kernel
theorem dX12_needSound_20 : decode cX12_needSound 20 = .ok (.new 135, 3) := by decide +kernel
theorem dX12_needSound_23 : decode cX12_needSound 23 = .ok (.dup, 1) := by decide +kernel
theorem dX12_needSound_24 : decode cX12_needSound 24 = .ok (.ldc_w 319, 3) := by decide +kernel
theorem dX12_needSound_27 : decode cX12_needSound 27 = .ok (.invokespecial 139, 3) := by decide +kernel
theorem dX12_needSound_30 : decode cX12_needSound 30 = .ok (.athrow, 1) := by decide +kernel
theorem dX12_needSound_31 : decode cX12_needSound 31 = .ok (.return_, 1) := by decide +kernel
theorem dX13_init_0 : decode cX13_init 0 = .ok (.aload_n 0, 1) := by decide +kernel
theorem dX13_init_1 : decode cX13_init 1 = .ok (.invokespecial 1, 3) := by decide +kernel
theorem dX13_init_4 : decode cX13_init 4 = .ok (.aload_n 0, 1) := by decide +kernel
theorem dX13_init_5 : decode cX13_init 5 = .ok (.bipush 25, 2) := by decide +kernel
theorem dX13_init_7 : decode cX13_init 7 = .ok (.anewarray 7, 3) := by decide +kernel
theorem dX13_init_10 : decode cX13_init 10 = .ok (.dup, 1) := by decide +kernel
theorem dX13_init_11 : decode cX13_init 11 = .ok (.iconst 0, 1) := by decide +kernel
theorem dX13_init_12 : decode cX13_init 12 = .ok (.ldc 9, 2) := by decide +kernel
theorem dX13_init_14 : decode cX13_init 14 = .ok (.aastore, 1) := by decide +kernel
theorem dX13_init_15 : decode cX13_init 15 = .ok (.dup, 1) := by decide +kernel
theorem dX13_init_16 : decode cX13_init 16 = .ok (.iconst 1, 1) := by decide +kernel
theorem dX13_init_17 : decode cX13_init 17 = .ok (.ldc 11, 2) := by decide +kernel
theorem dX13_init_19 : decode cX13_init 19 = .ok (.aastore, 1) := by decide +kernel
theorem dX13_init_20 : decode cX13_init 20 = .ok (.dup, 1) := by decide +kernel
theorem dX13_init_21 : decode cX13_init 21 = .ok (.iconst 2, 1) := by decide +kernel
theorem dX13_init_22 : decode cX13_init 22 = .ok (.ldc 13, 2) := by decide +kernel
theorem dX13_init_24 : decode cX13_init 24 = .ok (.aastore, 1) := by decide +kernel
theorem dX13_init_25 : decode cX13_init 25 = .ok (.dup, 1) := by decide +kernel
theorem dX13_init_26 : decode cX13_init 26 = .ok (.iconst 3, 1) := by decide +kernel
theorem dX13_init_27 : decode cX13_init 27 = .ok (.ldc 15, 2) := by decide +kernel
theorem dX13_init_29 : decode cX13_init 29 = .ok (.aastore, 1) := by decide +kernel
theorem dX13_init_30 : decode cX13_init 30 = .ok (.dup, 1) := by decide +kernel
theorem dX13_init_31 : decode cX13_init 31 = .ok (.iconst 4, 1) := by decide +kernel
theorem dX13_init_32 : decode cX13_init 32 = .ok (.ldc 17, 2) := by decide +kernel
theorem dX13_init_34 : decode cX13_init 34 = .ok (.aastore, 1) := by decide +kernel
theorem dX13_init_35 : decode cX13_init 35 = .ok (.dup, 1) := by decide +kernel
theorem dX13_init_36 : decode cX13_init 36 = .ok (.iconst 5, 1) := by decide +kernel
theorem dX13_init_37 : decode cX13_init 37 = .ok (.ldc 19, 2) := by decide +kernel
theorem dX13_init_39 : decode cX13_init 39 = .ok (.aastore, 1) := by decide +kernel
theorem dX13_init_40 : decode cX13_init 40 = .ok (.dup, 1) := by decide +kernel
theorem dX13_init_41 : decode cX13_init 41 = .ok (.bipush 6, 2) := by decide +kernel
theorem dX13_init_43 : decode cX13_init 43 = .ok (.ldc 21, 2) := by decide +kernel
theorem dX13_init_45 : decode cX13_init 45 = .ok (.aastore, 1) := by decide +kernel
theorem dX13_init_46 : decode cX13_init 46 = .ok (.dup, 1) := by decide +kernel
theorem dX13_init_47 : decode cX13_init 47 = .ok (.bipush 7, 2) := by decide +kernel
theorem dX13_init_49 : decode cX13_init 49 = .ok (.ldc 23, 2) := by decide +kernel
theorem dX13_init_51 : decode cX13_init 51 = .ok (.aastore, 1) := by decide +kernel
theorem dX13_init_52 : decode cX13_init 52 = .ok (.dup, 1) := by decide +kernel
theorem dX13_init_53 : decode cX13_init 53 = .ok (.bipush 8, 2) := by decide +kernel
theorem dX13_init_55 : decode cX13_init 55 = .ok (.ldc 25, 2) := by decide +kernel
theorem dX13_init_57 : decode cX13_init 57 = .ok (.aastore, 1) := by decide +kernel
theorem dX13_init_58 : decode cX13_init 58 = .ok (.dup, 1) := by decide +kernel
theorem dX13_init_59 : decode cX13_init 59 = .ok (.bipush 9, 2) := by decide +kernel
theorem dX13_init_61 : decode cX13_init 61 = .ok (.ldc 27, 2) := by decide +kernel
theorem dX13_init_63 : decode cX13_init 63 = .ok (.aastore, 1) := by decide +kernel
theorem dX13_init_64 : decode cX13_init 64 = .ok (.dup, 1) := by decide +kernel
theorem dX13_init_65 : decode cX13_init 65 = .ok (.bipush 10, 2) := by decide +kernel
theorem dX13_init_67 : decode cX13_init 67 = .ok (.ldc 29, 2) := by decide +kernel
theorem dX13_init_69 : decode cX13_init 69 = .ok (.aastore, 1) := by decide +kernel
theorem dX13_init_70 : decode cX13_init 70 = .ok (.dup, 1) := by decide +kernel
theorem dX13_init_71 : decode cX13_init 71 = .ok (.bipush 11, 2) := by decide +kernel
theorem dX13_init_73 : decode cX13_init 73 = .ok (.ldc 31, 2) := by decide +kernel
theorem dX13_init_75 : decode cX13_init 75 = .ok (.aastore, 1) := by decide +kernel
theorem dX13_init_76 : decode cX13_init 76 = .ok (.dup, 1) := by decide +kernel
theorem dX13_init_77 : decode cX13_init 77 = .ok (.bipush 12, 2) := by decide +kernel
theorem dX13_init_79 : decode cX13_init 79 = .ok (.ldc 33, 2) := by decide +kernel
theorem dX13_init_81 : decode cX13_init 81 = .ok (.aastore, 1) := by decide +kernel
theorem dX13_init_82 : decode cX13_init 82 = .ok (.dup, 1) := by decide +kernel
theorem dX13_init_83 : decode cX13_init 83 = .ok (.bipush 13, 2) := by decide +kernel
theorem dX13_init_85 : decode cX13_init 85 = .ok (.ldc 35, 2) := by decide +kernel
theorem dX13_init_87 : decode cX13_init 87 = .ok (.aastore, 1) := by decide +kernel
theorem dX13_init_88 : decode cX13_init 88 = .ok (.dup, 1) := by decide +kernel
theorem dX13_init_89 : decode cX13_init 89 = .ok (.bipush 14, 2) := by decide +kernel
theorem dX13_init_91 : decode cX13_init 91 = .ok (.ldc 37, 2) := by decide +kernel
theorem dX13_init_93 : decode cX13_init 93 = .ok (.aastore, 1) := by decide +kernel
theorem dX13_init_94 : decode cX13_init 94 = .ok (.dup, 1) := by decide +kernel
theorem dX13_init_95 : decode cX13_init 95 = .ok (.bipush 15, 2) := by decide +kernel
theorem dX13_init_97 : decode cX13_init 97 = .ok (.ldc 39, 2) := by decide +kernel
theorem dX13_init_99 : decode cX13_init 99 = .ok (.aastore, 1) := by decide +kernel
theorem dX13_init_100 : decode cX13_init 100 = .ok (.dup, 1) := by decide +kernel
theorem dX13_init_101 : decode cX13_init 101 = .ok (.bipush 16, 2) := by decide +kernel
theorem dX13_init_103 : decode cX13_init 103 = .ok (.ldc 41, 2) := by decide +kernel
theorem dX13_init_105 : decode cX13_init 105 = .ok (.aastore, 1) := by decide +kernel
theorem dX13_init_106 : decode cX13_init 106 = .ok (.dup, 1) := by decide +kernel
theorem dX13_init_107 : decode cX13_init 107 = .ok (.bipush 17, 2) := by decide +kernel
theorem dX13_init_109 : decode cX13_init 109 = .ok (.ldc 43, 2) := by decide +kernel
theorem dX13_init_111 : decode cX13_init 111 = .ok (.aastore, 1) := by decide +kernel
theorem dX13_init_112 : decode cX13_init 112 = .ok (.dup, 1) := by decide +kernel
theorem dX13_init_113 : decode cX13_init 113 = .ok (.bipush 18, 2) := by decide +kernel
theorem dX13_init_115 : decode cX13_init 115 = .ok (.ldc 45, 2) := by decide +kernel
theorem dX13_init_117 : decode cX13_init 117 = .ok (.aastore, 1) := by decide +kernel
theorem dX13_init_118 : decode cX13_init 118 = .ok (.dup, 1) := by decide +kernel
theorem dX13_init_119 : decode cX13_init 119 = .ok (.bipush 19, 2) := by decide +kernel
theorem dX13_init_121 : decode cX13_init 121 = .ok (.ldc 47, 2) := by decide +kernel
theorem dX13_init_123 : decode cX13_init 123 = .ok (.aastore, 1) := by decide +kernel
theorem dX13_init_124 : decode cX13_init 124 = .ok (.dup, 1) := by decide +kernel
theorem dX13_init_125 : decode cX13_init 125 = .ok (.bipush 20, 2) := by decide +kernel
theorem dX13_init_127 : decode cX13_init 127 = .ok (.ldc 49, 2) := by decide +kernel
theorem dX13_init_129 : decode cX13_init 129 = .ok (.aastore, 1) := by decide +kernel
theorem dX13_init_130 : decode cX13_init 130 = .ok (.dup, 1) := by decide +kernel
theorem dX13_init_131 : decode cX13_init 131 = .ok (.bipush 21, 2) := by decide +kernel
theorem dX13_init_133 : decode cX13_init 133 = .ok (.ldc 51, 2) := by decide +kernel
theorem dX13_init_135 : decode cX13_init 135 = .ok (.aastore, 1) := by decide +kernel
theorem dX13_init_136 : decode cX13_init 136 = .ok (.dup, 1) := by decide +kernel
theorem dX13_init_137 : decode cX13_init 137 = .ok (.bipush 22, 2) := by decide +kernel
theorem dX13_init_139 : decode cX13_init 139 = .ok (.ldc 53, 2) := by decide +kernel
theorem dX13_init_141 : decode cX13_init 141 = .ok (.aastore, 1) := by decide +kernel
theorem dX13_init_142 : decode cX13_init 142 = .ok (.dup, 1) := by decide +kernel
theorem dX13_init_143 : decode cX13_init 143 = .ok (.bipush 23, 2) := by decide +kernel
theorem dX13_init_145 : decode cX13_init 145 = .ok (.ldc 55, 2) := by decide +kernel
theorem dX13_init_147 : decode cX13_init 147 = .ok (.aastore, 1) := by decide +kernel
theorem dX13_init_148 : decode cX13_init 148 = .ok (.dup, 1) := by decide +kernel
theorem dX13_init_149 : decode cX13_init 149 = .ok (.bipush 24, 2) := by decide +kernel
theorem dX13_init_151 : decode cX13_init 151 = .ok (.ldc 57, 2) := by decide +kernel
theorem dX13_init_153 : decode cX13_init 153 = .ok (.aastore, 1) := by decide +kernel
theorem dX13_init_154 : decode cX13_init 154 = .ok (.putfield 59, 3) := by decide +kernel
theorem dX13_init_157 : decode cX13_init 157 = .ok (.aload_n 0, 1) := by decide +kernel
theorem dX13_init_158 : decode cX13_init 158 = .ok (.iconst 4, 1) := by decide +kernel
theorem dX13_init_159 : decode cX13_init 159 = .ok (.anewarray 7, 3) := by decide +kernel
theorem dX13_init_162 : decode cX13_init 162 = .ok (.dup, 1) := by decide +kernel
theorem dX13_init_163 : decode cX13_init 163 = .ok (.iconst 0, 1) := by decide +kernel
theorem dX13_init_164 : decode cX13_init 164 = .ok (.ldc 65, 2) := by decide +kernel
theorem dX13_init_166 : decode cX13_init 166 = .ok (.aastore, 1) := by decide +kernel
theorem dX13_init_167 : decode cX13_init 167 = .ok (.dup, 1) := by decide +kernel
theorem dX13_init_168 : decode cX13_init 168 = .ok (.iconst 1, 1) := by decide +kernel
theorem dX13_init_169 : decode cX13_init 169 = .ok (.ldc 67, 2) := by decide +kernel
theorem dX13_init_171 : decode cX13_init 171 = .ok (.aastore, 1) := by decide +kernel
theorem dX13_init_172 : decode cX13_init 172 = .ok (.dup, 1) := by decide +kernel
theorem dX13_init_173 : decode cX13_init 173 = .ok (.iconst 2, 1) := by decide +kernel
theorem dX13_init_174 : decode cX13_init 174 = .ok (.ldc 69, 2) := by decide +kernel
theorem dX13_init_176 : decode cX13_init 176 = .ok (.aastore, 1) := by decide +kernel
theorem dX13_init_177 : decode cX13_init 177 = .ok (.dup, 1) := by decide +kernel
theorem dX13_init_178 : decode cX13_init 178 = .ok (.iconst 3, 1) := by decide +kernel
theorem dX13_init_179 : decode cX13_init 179 = .ok (.ldc 71, 2) := by decide +kernel
theorem dX13_init_181 : decode cX13_init 181 = .ok (.aastore, 1) := by decide +kernel
theorem dX13_init_182 : decode cX13_init 182 = .ok (.putfield 73, 3) := by decide +kernel
theorem dX13_init_185 : decode cX13_init 185 = .ok (.aload_n 0, 1) := by decide +kernel
theorem dX13_init_186 : decode cX13_init 186 = .ok (.sipush 414, 3) := by decide +kernel
theorem dX13_init_189 : decode cX13_init 189 = .ok (.newarray .int, 2) := by decide +kernel
theorem dX13_init_191 : decode cX13_init 191 = .ok (.putfield 76, 3) := by decide +kernel
theorem dX13_init_194 : decode cX13_init 194 = .ok (.aload_n 0, 1) := by decide +kernel
theorem dX13_init_195 : decode cX13_init 195 = .ok (.iconst 3, 1) := by decide +kernel
theorem dX13_init_196 : decode cX13_init 196 = .ok (.newarray .int, 2) := by decide +kernel
theorem dX13_init_198 : decode cX13_init 198 = .ok (.putfield 80, 3) := by decide +kernel
theorem dX13_init_201 : decode cX13_init 201 = .ok (.aload_n 0, 1) := by decide +kernel
theorem dX13_init_202 : decode cX13_init 202 = .ok (.bipush 120, 2) := by decide +kernel
theorem dX13_init_204 : decode cX13_init 204 = .ok (.newarray .int, 2) := by decide +kernel
theorem dX13_init_206 : decode cX13_init 206 = .ok (.putfield 83, 3) := by decide +kernel
theorem dX13_init_209 : decode cX13_init 209 = .ok (.aload_n 0, 1) := by decide +kernel
theorem dX13_init_210 : decode cX13_init 210 = .ok (.sipush 240, 3) := by decide +kernel
theorem dX13_init_213 : decode cX13_init 213 = .ok (.newarray .int, 2) := by decide +kernel
theorem dX13_init_215 : decode cX13_init 215 = .ok (.putfield 86, 3) := by decide +kernel
theorem dX13_init_218 : decode cX13_init 218 = .ok (.aload_n 0, 1) := by decide +kernel
theorem dX13_init_219 : decode cX13_init 219 = .ok (.sipush 240, 3) := by decide +kernel
theorem dX13_init_222 : decode cX13_init 222 = .ok (.newarray .int, 2) := by decide +kernel
theorem dX13_init_224 : decode cX13_init 224 = .ok (.putfield 89, 3) := by decide +kernel
theorem dX13_init_227 : decode cX13_init 227 = .ok (.aload_n 0, 1) := by decide +kernel
theorem dX13_init_228 : decode cX13_init 228 = .ok (.sipush 240, 3) := by decide +kernel
theorem dX13_init_231 : decode cX13_init 231 = .ok (.newarray .int, 2) := by decide +kernel
theorem dX13_init_233 : decode cX13_init 233 = .ok (.putfield 92, 3) := by decide +kernel
theorem dX13_init_236 : decode cX13_init 236 = .ok (.aload_n 0, 1) := by decide +kernel
theorem dX13_init_237 : decode cX13_init 237 = .ok (.bipush 120, 2) := by decide +kernel
theorem dX13_init_239 : decode cX13_init 239 = .ok (.newarray .int, 2) := by decide +kernel
theorem dX13_init_241 : decode cX13_init 241 = .ok (.putfield 95, 3) := by decide +kernel
theorem dX13_init_244 : decode cX13_init 244 = .ok (.aload_n 0, 1) := by decide +kernel
theorem dX13_init_245 : decode cX13_init 245 = .ok (.bipush 120, 2) := by decide +kernel
theorem dX13_init_247 : decode cX13_init 247 = .ok (.newarray .int, 2) := by decide +kernel
theorem dX13_init_249 : decode cX13_init 249 = .ok (.putfield 98, 3) := by decide +kernel
theorem dX13_init_252 : decode cX13_init 252 = .ok (.aload_n 0, 1) := by decide +kernel
theorem dX13_init_253 : decode cX13_init 253 = .ok (.bipush 120, 2) := by decide +kernel
theorem dX13_init_255 : decode cX13_init 255 = .ok (.newarray .int, 2) := by decide +kernel
theorem dX13_init_257 : decode cX13_init 257 = .ok (.putfield 101, 3) := by decide +kernel
theorem dX13_init_260 : decode cX13_init 260 = .ok (.aload_n 0, 1) := by decide +kernel
theorem dX13_init_261 : decode cX13_init 261 = .ok (.sipush 512, 3) := by decide +kernel
theorem dX13_init_264 : decode cX13_init 264 = .ok (.newarray .int, 2) := by decide +kernel
theorem dX13_init_266 : decode cX13_init 266 = .ok (.putfield 104, 3) := by decide +kernel
theorem dX13_init_269 : decode cX13_init 269 = .ok (.aload_n 0, 1) := by decide +kernel
theorem dX13_init_270 : decode cX13_init 270 = .ok (.sipush 700, 3) := by decide +kernel
theorem dX13_init_273 : decode cX13_init 273 = .ok (.newarray .int, 2) := by decide +kernel
theorem dX13_init_275 : decode cX13_init 275 = .ok (.putfield 107, 3) := by decide +kernel
theorem dX13_init_278 : decode cX13_init 278 = .ok (.aload_n 0, 1) := by decide +kernel
theorem dX13_init_279 : decode cX13_init 279 = .ok (.iconst (-1), 1) := by decide +kernel
theorem dX13_init_280 : decode cX13_init 280 = .ok (.putfield 110, 3) := by decide +kernel
theorem dX13_init_283 : decode cX13_init 283 = .ok (.aload_n 0, 1) := by decide +kernel
theorem dX13_init_284 : decode cX13_init 284 = .ok (.bipush 61, 2) := by decide +kernel
theorem dX13_init_286 : decode cX13_init 286 = .ok (.newarray .int, 2) := by decide +kernel
theorem dX13_init_288 : decode cX13_init 288 = .ok (.putfield 114, 3) := by decide +kernel
theorem dX13_init_291 : decode cX13_init 291 = .ok (.aload_n 0, 1) := by decide +kernel
theorem dX13_init_292 : decode cX13_init 292 = .ok (.bipush 61, 2) := by decide +kernel
theorem dX13_init_294 : decode cX13_init 294 = .ok (.newarray .int, 2) := by decide +kernel
theorem dX13_init_296 : decode cX13_init 296 = .ok (.putfield 117, 3) := by decide +kernel
theorem dX13_init_299 : decode cX13_init 299 = .ok (.aload_n 0, 1) := by decide +kernel
theorem dX13_init_300 : decode cX13_init 300 = .ok (.bipush 61, 2) := by decide +kernel
theorem dX13_init_302 : decode cX13_init 302 = .ok (.newarray .int, 2) := by decide +kernel
theorem dX13_init_304 : decode cX13_init 304 = .ok (.putfield 120, 3) := by decide +kernel
theorem dX13_init_307 : decode cX13_init 307 = .ok (.aload_n 0, 1) := by decide +kernel
theorem dX13_init_308 : decode cX13_init 308 = .ok (.bipush 61, 2) := by decide +kernel
theorem dX13_init_310 : decode cX13_init 310 = .ok (.newarray .int, 2) := by decide +kernel
theorem dX13_init_312 : decode cX13_init 312 = .ok (.putfield 123, 3) := by decide +kernel
theorem dX13_init_315 : decode cX13_init 315 = .ok (.aload_n 0, 1) := by decide +kernel
theorem dX13_init_316 : decode cX13_init 316 = .ok (.bipush 8, 2) := by decide +kernel
theorem dX13_init_318 : decode cX13_init 318 = .ok (.newarray .long, 2) := by decide +kernel
theorem dX13_init_320 : decode cX13_init 320 = .ok (.putfield 126, 3) := by decide +kernel
theorem dX13_init_323 : decode cX13_init 323 = .ok (.aload_n 0, 1) := by decide +kernel
theorem dX13_init_324 : decode cX13_init 324 = .ok (.bipush 8, 2) := by decide +kernel
theorem dX13_init_326 : decode cX13_init 326 = .ok (.newarray .long, 2) := by decide +kernel
theorem dX13_init_328 : decode cX13_init 328 = .ok (.putfield 130, 3) := by decide +kernel
theorem dX13_init_331 : decode cX13_init 331 = .ok (.aload_n 0, 1) := by decide +kernel
theorem dX13_init_332 : decode cX13_init 332 = .ok (.bipush 8, 2) := by decide +kernel
theorem dX13_init_334 : decode cX13_init 334 = .ok (.newarray .long, 2) := by decide +kernel
theorem dX13_init_336 : decode cX13_init 336 = .ok (.putfield 133, 3) := by decide +kernel
theorem dX13_init_339 : decode cX13_init 339 = .ok (.aload_n 0, 1) := by decide +kernel
theorem dX13_init_340 : decode cX13_init 340 = .ok (.bipush 8, 2) := by decide +kernel
theorem dX13_init_342 : decode cX13_init 342 = .ok (.newarray .long, 2) := by decide +kernel
theorem dX13_init_344 : decode cX13_init 344 = .ok (.putfield 136, 3) := by decide +kernel
theorem dX13_init_347 : decode cX13_init 347 = .ok (.aload_n 0, 1) := by decide +kernel
theorem dX13_init_348 : decode cX13_init 348 = .ok (.bipush 64, 2) := by decide +kernel
theorem dX13_init_350 : decode cX13_init 350 = .ok (.newarray .int, 2) := by decide +kernel
theorem dX13_init_352 : decode cX13_init 352 = .ok (.putfield 139, 3) := by decide +kernel
theorem dX13_init_355 : decode cX13_init 355 = .ok (.aload_n 0, 1) := by decide +kernel
theorem dX13_init_356 : decode cX13_init 356 = .ok (.sipush 132, 3) := by decide +kernel
theorem dX13_init_359 : decode cX13_init 359 = .ok (.newarray .long, 2) := by decide +kernel
theorem dX13_init_361 : decode cX13_init 361 = .ok (.putfield 142, 3) := by decide +kernel
theorem dX13_init_364 : decode cX13_init 364 = .ok (.aload_n 0, 1) := by decide +kernel
theorem dX13_init_365 : decode cX13_init 365 = .ok (.bipush 32, 2) := by decide +kernel
theorem dX13_init_367 : decode cX13_init 367 = .ok (.newarray .int, 2) := by decide +kernel
theorem dX13_init_369 : decode cX13_init 369 = .ok (.putfield 145, 3) := by decide +kernel
theorem dX13_init_372 : decode cX13_init 372 = .ok (.aload_n 0, 1) := by decide +kernel
theorem dX13_init_373 : decode cX13_init 373 = .ok (.sipush 16560, 3) := by decide +kernel
theorem dX13_init_376 : decode cX13_init 376 = .ok (.newarray .int, 2) := by decide +kernel
theorem dX13_init_378 : decode cX13_init 378 = .ok (.putfield 148, 3) := by decide +kernel
theorem dX13_init_381 : decode cX13_init 381 = .ok (.aload_n 0, 1) := by decide +kernel
theorem dX13_init_382 : decode cX13_init 382 = .ok (.sipush 414, 3) := by decide +kernel
theorem dX13_init_385 : decode cX13_init 385 = .ok (.newarray .int, 2) := by decide +kernel
theorem dX13_init_387 : decode cX13_init 387 = .ok (.putfield 151, 3) := by decide +kernel
theorem dX13_init_390 : decode cX13_init 390 = .ok (.aload_n 0, 1) := by decide +kernel
theorem dX13_init_391 : decode cX13_init 391 = .ok (.sipush 414, 3) := by decide +kernel
theorem dX13_init_394 : decode cX13_init 394 = .ok (.newarray .int, 2) := by decide +kernel
theorem dX13_init_396 : decode cX13_init 396 = .ok (.putfield 154, 3) := by decide +kernel
theorem dX13_init_399 : decode cX13_init 399 = .ok (.aload_n 0, 1) := by decide +kernel
theorem dX13_init_400 : decode cX13_init 400 = .ok (.bipush 8, 2) := by decide +kernel
theorem dX13_init_402 : decode cX13_init 402 = .ok (.newarray .int, 2) := by decide +kernel
theorem dX13_init_404 : decode cX13_init 404 = .ok (.putfield 157, 3) := by decide +kernel
theorem dX13_init_407 : decode cX13_init 407 = .ok (.aload_n 0, 1) := by decide +kernel
theorem dX13_init_408 : decode cX13_init 408 = .ok (.bipush 8, 2) := by decide +kernel
theorem dX13_init_410 : decode cX13_init 410 = .ok (.newarray .int, 2) := by decide +kernel
theorem dX13_init_412 : decode cX13_init 412 = .ok (.putfield 160, 3) := by decide +kernel
theorem dX13_init_415 : decode cX13_init 415 = .ok (.aload_n 0, 1) := by decide +kernel
theorem dX13_init_416 : decode cX13_init 416 = .ok (.bipush 8, 2) := by decide +kernel
theorem dX13_init_418 : decode cX13_init 418 = .ok (.newarray .int, 2) := by decide +kernel
theorem dX13_init_420 : decode cX13_init 420 = .ok (.putfield 163, 3) := by decide +kernel
theorem dX13_init_423 : decode cX13_init 423 = .ok (.aload_n 0, 1) := by decide +kernel
theorem dX13_init_424 : decode cX13_init 424 = .ok (.sipush 414, 3) := by decide +kernel
theorem dX13_init_427 : decode cX13_init 427 = .ok (.newarray .int, 2) := by decide +kernel
theorem dX13_init_429 : decode cX13_init 429 = .ok (.putfield 166, 3) := by decide +kernel
theorem dX13_init_432 : decode cX13_init 432 = .ok (.aload_n 0, 1) := by decide +kernel
theorem dX13_init_433 : decode cX13_init 433 = .ok (.sipush 16560, 3) := by decide +kernel
theorem dX13_init_436 : decode cX13_init 436 = .ok (.newarray .int, 2) := by decide +kernel
theorem dX13_init_438 : decode cX13_init 438 = .ok (.putfield 169, 3) := by decide +kernel
theorem dX13_init_441 : decode cX13_init 441 = .ok (.aload_n 0, 1) := by decide +kernel
theorem dX13_init_442 : decode cX13_init 442 = .ok (.bipush 8, 2) := by decide +kernel
theorem dX13_init_444 : decode cX13_init 444 = .ok (.newarray .int, 2) := by decide +kernel
theorem dX13_init_446 : decode cX13_init 446 = .ok (.putfield 172, 3) := by decide +kernel
theorem dX13_init_449 : decode cX13_init 449 = .ok (.aload_n 0, 1) := by decide +kernel
theorem dX13_init_450 : decode cX13_init 450 = .ok (.bipush 8, 2) := by decide +kernel
theorem dX13_init_452 : decode cX13_init 452 = .ok (.newarray .int, 2) := by decide +kernel
theorem dX13_init_454 : decode cX13_init 454 = .ok (.putfield 175, 3) := by decide +kernel
theorem dX13_init_457 : decode cX13_init 457 = .ok (.aload_n 0, 1) := by decide +kernel
theorem dX13_init_458 : decode cX13_init 458 = .ok (.bipush 8, 2) := by decide +kernel
theorem dX13_init_460 : decode cX13_init 460 = .ok (.newarray .int, 2) := by decide +kernel
theorem dX13_init_462 : decode cX13_init 462 = .ok (.putfield 178, 3) := by decide +kernel
theorem dX13_init_465 : decode cX13_init 465 = .ok (.aload_n 0, 1) := by decide +kernel
theorem dX13_init_466 : decode cX13_init 466 = .ok (.iconst 3, 1) := by decide +kernel
theorem dX13_init_467 : decode cX13_init 467 = .ok (.newarray .int, 2) := by decide +kernel
theorem dX13_init_469 : decode cX13_init 469 = .ok (.putfield 181, 3) := by decide +kernel
theorem dX13_init_472 : decode cX13_init 472 = .ok (.aload_n 0, 1) := by decide +kernel
theorem dX13_init_473 : decode cX13_init 473 = .ok (.invokevirtual 184, 3) := by decide +kernel
theorem dX13_init_476 : decode cX13_init 476 = .ok (.return_, 1) := by decide +kernel
theorem dX13_thrown_0 : decode cX13_thrown 0 = .ok (.aload_n 0, 1) := by decide +kernel
theorem dX13_thrown_1 : decode cX13_thrown 1 = .ok (.getfield 187, 3) := by decide +kernel
theorem dX13_thrown_4 : decode cX13_thrown 4 = .ok (.ireturn, 1) := by decide +kernel
theorem dX13_fail_0 : decode cX13_fail 0 = .ok (.aload_n 0, 1) := by decide +kernel
theorem dX13_fail_1 : decode cX13_fail 1 = .ok (.iload_n 1, 1) := by decide +kernel
theorem dX13_fail_2 : decode cX13_fail 2 = .ok (.putfield 187, 3) := by decide +kernel
theorem dX13_fail_5 : decode cX13_fail 5 = .ok (.iconst 0, 1) := by decide +kernel
theorem dX13_fail_6 : decode cX13_fail 6 = .ok (.ireturn, 1) := by decide +kernel
theorem dX13_isIn_0 : decode cX13_isIn 0 = .ok (.lload_n 0, 1) := by decide +kernel
theorem dX13_isIn_1 : decode cX13_isIn 1 = .ok (.lload_n 2, 1) := by decide +kernel
theorem dX13_isIn_2 : decode cX13_isIn 2 = .ok (.lcmp, 1) := by decide +kernel
theorem dX13_isIn_3 : decode cX13_isIn 3 = .ok (.ifCond .lt 14, 3) := by decide +kernel
theorem dX13_isIn_6 : decode cX13_isIn 6 = .ok (.lload_n 0, 1) := by decide +kernel
theorem dX13_isIn_7 : decode cX13_isIn 7 = .ok (.lload 4, 2) := by decide +kernel
theorem dX13_isIn_9 : decode cX13_isIn 9 = .ok (.lcmp, 1) := by decide +kernel
theorem dX13_isIn_10 : decode cX13_isIn 10 = .ok (.ifCond .gt 7, 3) := by decide +kernel
theorem dX13_isIn_13 : decode cX13_isIn 13 = .ok (.iconst 1, 1) := by decide +kernel
theorem dX13_isIn_14 : decode cX13_isIn 14 = .ok (.goto 4, 3) := by decide +kernel
theorem dX13_isIn_17 : decode cX13_isIn 17 = .ok (.iconst 0, 1) := by decide +kernel
theorem dX13_isIn_18 : decode cX13_isIn 18 = .ok (.ireturn, 1) := by decide +kernel
theorem dX13_feed_0 : decode cX13_feed 0 = .ok (.aload_n 0, 1) := by decide +kernel
theorem dX13_feed_1 : decode cX13_feed 1 = .ok (.iconst 0, 1) := by decide +kernel
theorem dX13_feed_2 : decode cX13_feed 2 = .ok (.putfield 187, 3) := by decide +kernel
theorem dX13_feed_5 : decode cX13_feed 5 = .ok (.aload_n 0, 1) := by decide +kernel
theorem dX13_feed_6 : decode cX13_feed 6 = .ok (.getfield 190, 3) := by decide +kernel
theorem dX13_feed_9 : decode cX13_feed 9 = .ok (.bipush 20, 2) := by decide +kernel
theorem dX13_feed_11 : decode cX13_feed 11 = .ok (.iadd, 1) := by decide +kernel
theorem dX13_feed_12 : decode cX13_feed 12 = .ok (.sipush 700, 3) := by decide +kernel
theorem dX13_feed_15 : decode cX13_feed 15 = .ok (.if_icmp .le 5, 3) := by decide +kernel
theorem dX13_feed_18 : decode cX13_feed 18 = .ok (.iconst (-1), 1) := by decide +kernel
theorem dX13_feed_19 : decode cX13_feed 19 = .ok (.ireturn, 1) := by decide +kernel
theorem dX13_feed_20 : decode cX13_feed 20 = .ok (.iconst 0, 1) := by decide +kernel
theorem dX13_feed_21 : decode cX13_feed 21 = .ok (.istore 6, 2) := by decide +kernel
theorem dX13_feed_23 : decode cX13_feed 23 = .ok (.iload 6, 2) := by decide +kernel
theorem dX13_feed_25 : decode cX13_feed 25 = .ok (.bipush 20, 2) := by decide +kernel
theorem dX13_feed_27 : decode cX13_feed 27 = .ok (.if_icmp .ge 93, 3) := by decide +kernel
theorem dX13_feed_30 : decode cX13_feed 30 = .ok (.iload 6, 2) := by decide +kernel
theorem dX13_feed_32 : decode cX13_feed 32 = .ok (.iconst 4, 1) := by decide +kernel
theorem dX13_feed_33 : decode cX13_feed 33 = .ok (.if_icmp .ge 7, 3) := by decide +kernel
theorem dX13_feed_36 : decode cX13_feed 36 = .ok (.iload_n 1, 1) := by decide +kernel
theorem dX13_feed_37 : decode cX13_feed 37 = .ok (.goto 39, 3) := by decide +kernel
theorem dX13_feed_40 : decode cX13_feed 40 = .ok (.iload 6, 2) := by decide +kernel
theorem dX13_feed_42 : decode cX13_feed 42 = .ok (.bipush 8, 2) := by decide +kernel
theorem dX13_feed_44 : decode cX13_feed 44 = .ok (.if_icmp .ge 7, 3) := by decide +kernel
theorem dX13_feed_47 : decode cX13_feed 47 = .ok (.iload_n 2, 1) := by decide +kernel
theorem dX13_feed_48 : decode cX13_feed 48 = .ok (.goto 28, 3) := by decide +kernel
theorem dX13_feed_51 : decode cX13_feed 51 = .ok (.iload 6, 2) := by decide +kernel
theorem dX13_feed_53 : decode cX13_feed 53 = .ok (.bipush 12, 2) := by decide +kernel
theorem dX13_feed_55 : decode cX13_feed 55 = .ok (.if_icmp .ge 7, 3) := by decide +kernel
theorem dX13_feed_58 : decode cX13_feed 58 = .ok (.iload_n 3, 1) := by decide +kernel
theorem dX13_feed_59 : decode cX13_feed 59 = .ok (.goto 17, 3) := by decide +kernel
theorem dX13_feed_62 : decode cX13_feed 62 = .ok (.iload 6, 2) := by decide +kernel
theorem dX13_feed_64 : decode cX13_feed 64 = .ok (.bipush 16, 2) := by decide +kernel
theorem dX13_feed_66 : decode cX13_feed 66 = .ok (.if_icmp .ge 8, 3) := by decide +kernel
theorem dX13_feed_69 : decode cX13_feed 69 = .ok (.iload 4, 2) := by decide +kernel
theorem dX13_feed_71 : decode cX13_feed 71 = .ok (.goto 5, 3) := by decide +kernel
theorem dX13_feed_74 : decode cX13_feed 74 = .ok (.iload 5, 2) := by decide +kernel
theorem dX13_feed_76 : decode cX13_feed 76 = .ok (.istore 7, 2) := by decide +kernel
theorem dX13_feed_78 : decode cX13_feed 78 = .ok (.aload_n 0, 1) := by decide +kernel
theorem dX13_feed_79 : decode cX13_feed 79 = .ok (.getfield 107, 3) := by decide +kernel
theorem dX13_feed_82 : decode cX13_feed 82 = .ok (.aload_n 0, 1) := by decide +kernel
theorem dX13_feed_83 : decode cX13_feed 83 = .ok (.getfield 190, 3) := by decide +kernel
theorem dX13_feed_86 : decode cX13_feed 86 = .ok (.iload 7, 2) := by decide +kernel
theorem dX13_feed_88 : decode cX13_feed 88 = .ok (.bipush 24, 2) := by decide +kernel
theorem dX13_feed_90 : decode cX13_feed 90 = .ok (.bipush 8, 2) := by decide +kernel
theorem dX13_feed_92 : decode cX13_feed 92 = .ok (.iload 6, 2) := by decide +kernel
theorem dX13_feed_94 : decode cX13_feed 94 = .ok (.iconst 4, 1) := by decide +kernel
theorem dX13_feed_95 : decode cX13_feed 95 = .ok (.irem, 1) := by decide +kernel
theorem dX13_feed_96 : decode cX13_feed 96 = .ok (.imul, 1) := by decide +kernel
theorem dX13_feed_97 : decode cX13_feed 97 = .ok (.isub, 1) := by decide +kernel
theorem dX13_feed_98 : decode cX13_feed 98 = .ok (.ishr, 1) := by decide +kernel
theorem dX13_feed_99 : decode cX13_feed 99 = .ok (.sipush 255, 3) := by decide +kernel
theorem dX13_feed_102 : decode cX13_feed 102 = .ok (.iand, 1) := by decide +kernel
theorem dX13_feed_103 : decode cX13_feed 103 = .ok (.iastore, 1) := by decide +kernel
theorem dX13_feed_104 : decode cX13_feed 104 = .ok (.aload_n 0, 1) := by decide +kernel
theorem dX13_feed_105 : decode cX13_feed 105 = .ok (.dup, 1) := by decide +kernel
theorem dX13_feed_106 : decode cX13_feed 106 = .ok (.getfield 190, 3) := by decide +kernel
theorem dX13_feed_109 : decode cX13_feed 109 = .ok (.iconst 1, 1) := by decide +kernel
theorem dX13_feed_110 : decode cX13_feed 110 = .ok (.iadd, 1) := by decide +kernel
theorem dX13_feed_111 : decode cX13_feed 111 = .ok (.putfield 190, 3) := by decide +kernel
theorem dX13_feed_114 : decode cX13_feed 114 = .ok (.iinc 6 1, 3) := by decide +kernel
theorem dX13_feed_117 : decode cX13_feed 117 = .ok (.goto (-94), 3) := by decide +kernel
theorem dX13_feed_120 : decode cX13_feed 120 = .ok (.aload_n 0, 1) := by decide +kernel
theorem dX13_feed_121 : decode cX13_feed 121 = .ok (.getfield 190, 3) := by decide +kernel
theorem dX13_feed_124 : decode cX13_feed 124 = .ok (.ireturn, 1) := by decide +kernel
theorem dX13_byteAt_0 : decode cX13_byteAt 0 = .ok (.iload_n 1, 1) := by decide +kernel
theorem dX13_byteAt_1 : decode cX13_byteAt 1 = .ok (.aload_n 0, 1) := by decide +kernel
theorem dX13_byteAt_2 : decode cX13_byteAt 2 = .ok (.getfield 193, 3) := by decide +kernel
theorem dX13_byteAt_5 : decode cX13_byteAt 5 = .ok (.if_icmp .ge 12, 3) := by decide +kernel
theorem dX13_byteAt_8 : decode cX13_byteAt 8 = .ok (.aload_n 0, 1) := by decide +kernel
theorem dX13_byteAt_9 : decode cX13_byteAt 9 = .ok (.getfield 107, 3) := by decide +kernel
theorem dX13_byteAt_12 : decode cX13_byteAt 12 = .ok (.iload_n 1, 1) := by decide +kernel
theorem dX13_byteAt_13 : decode cX13_byteAt 13 = .ok (.iaload, 1) := by decide +kernel
theorem dX13_byteAt_14 : decode cX13_byteAt 14 = .ok (.goto 4, 3) := by decide +kernel
theorem dX13_byteAt_17 : decode cX13_byteAt 17 = .ok (.iconst (-1), 1) := by decide +kernel
theorem dX13_byteAt_18 : decode cX13_byteAt 18 = .ok (.ireturn, 1) := by decide +kernel
theorem dX13_isLetter_0 : decode cX13_isLetter 0 = .ok (.iload_n 0, 1) := by decide +kernel
theorem dX13_isLetter_1 : decode cX13_isLetter 1 = .ok (.bipush 97, 2) := by decide +kernel
theorem dX13_isLetter_3 : decode cX13_isLetter 3 = .ok (.if_icmp .lt 13, 3) := by decide +kernel
theorem dX13_isLetter_6 : decode cX13_isLetter 6 = .ok (.iload_n 0, 1) := by decide +kernel
theorem dX13_isLetter_7 : decode cX13_isLetter 7 = .ok (.bipush 122, 2) := by decide +kernel
theorem dX13_isLetter_9 : decode cX13_isLetter 9 = .ok (.if_icmp .gt 7, 3) := by decide +kernel
theorem dX13_isLetter_12 : decode cX13_isLetter 12 = .ok (.iconst 1, 1) := by decide +kernel
theorem dX13_isLetter_13 : decode cX13_isLetter 13 = .ok (.goto 4, 3) := by decide +kernel
theorem dX13_isLetter_16 : decode cX13_isLetter 16 = .ok (.iconst 0, 1) := by decide +kernel
theorem dX13_isLetter_17 : decode cX13_isLetter 17 = .ok (.ireturn, 1) := by decide +kernel
theorem dX13_isDigit_0 : decode cX13_isDigit 0 = .ok (.iload_n 0, 1) := by decide +kernel
theorem dX13_isDigit_1 : decode cX13_isDigit 1 = .ok (.bipush 48, 2) := by decide +kernel
theorem dX13_isDigit_3 : decode cX13_isDigit 3 = .ok (.if_icmp .lt 13, 3) := by decide +kernel
theorem dX13_isDigit_6 : decode cX13_isDigit 6 = .ok (.iload_n 0, 1) := by decide +kernel
theorem dX13_isDigit_7 : decode cX13_isDigit 7 = .ok (.bipush 57, 2) := by decide +kernel
theorem dX13_isDigit_9 : decode cX13_isDigit 9 = .ok (.if_icmp .gt 7, 3) := by decide +kernel
theorem dX13_isDigit_12 : decode cX13_isDigit 12 = .ok (.iconst 1, 1) := by decide +kernel
theorem dX13_isDigit_13 : decode cX13_isDigit 13 = .ok (.goto 4, 3) := by decide +kernel
theorem dX13_isDigit_16 : decode cX13_isDigit 16 = .ok (.iconst 0, 1) := by decide +kernel
theorem dX13_isDigit_17 : decode cX13_isDigit 17 = .ok (.ireturn, 1) := by decide +kernel
theorem dX13_isHex_0 : decode cX13_isHex 0 = .ok (.iload_n 0, 1) := by decide +kernel
theorem dX13_isHex_1 : decode cX13_isHex 1 = .ok (.invokestatic 196, 3) := by decide +kernel
theorem dX13_isHex_4 : decode cX13_isHex 4 = .ok (.ifCond .ne 15, 3) := by decide +kernel
theorem dX13_isHex_7 : decode cX13_isHex 7 = .ok (.iload_n 0, 1) := by decide +kernel
theorem dX13_isHex_8 : decode cX13_isHex 8 = .ok (.bipush 97, 2) := by decide +kernel
theorem dX13_isHex_10 : decode cX13_isHex 10 = .ok (.if_icmp .lt 13, 3) := by decide +kernel
theorem dX13_isHex_13 : decode cX13_isHex 13 = .ok (.iload_n 0, 1) := by decide +kernel
theorem dX13_isHex_14 : decode cX13_isHex 14 = .ok (.bipush 102, 2) := by decide +kernel
theorem dX13_isHex_16 : decode cX13_isHex 16 = .ok (.if_icmp .gt 7, 3) := by decide +kernel
theorem dX13_isHex_19 : decode cX13_isHex 19 = .ok (.iconst 1, 1) := by decide +kernel
theorem dX13_isHex_20 : decode cX13_isHex 20 = .ok (.goto 4, 3) := by decide +kernel
theorem dX13_isHex_23 : decode cX13_isHex 23 = .ok (.iconst 0, 1) := by decide +kernel
theorem dX13_isHex_24 : decode cX13_isHex 24 = .ok (.ireturn, 1) := by decide +kernel
theorem dX13_stepOn_0 : decode cX13_stepOn 0 = .ok (.aload_n 0, 1) := by decide +kernel
theorem dX13_stepOn_1 : decode cX13_stepOn 1 = .ok (.aload_n 0, 1) := by decide +kernel
theorem dX13_stepOn_2 : decode cX13_stepOn 2 = .ok (.getfield 200, 3) := by decide +kernel
theorem dX13_stepOn_5 : decode cX13_stepOn 5 = .ok (.invokevirtual 202, 3) := by decide +kernel
theorem dX13_stepOn_8 : decode cX13_stepOn 8 = .ok (.bipush 32, 2) := by decide +kernel
theorem dX13_stepOn_10 : decode cX13_stepOn 10 = .ok (.if_icmp .eq 16, 3) := by decide +kernel
theorem dX13_stepOn_13 : decode cX13_stepOn 13 = .ok (.aload_n 0, 1) := by decide +kernel
theorem dX13_stepOn_14 : decode cX13_stepOn 14 = .ok (.aload_n 0, 1) := by decide +kernel
theorem dX13_stepOn_15 : decode cX13_stepOn 15 = .ok (.getfield 200, 3) := by decide +kernel
theorem dX13_stepOn_18 : decode cX13_stepOn 18 = .ok (.invokevirtual 202, 3) := by decide +kernel
theorem dX13_stepOn_21 : decode cX13_stepOn 21 = .ok (.bipush 10, 2) := by decide +kernel
theorem dX13_stepOn_23 : decode cX13_stepOn 23 = .ok (.if_icmp .ne 16, 3) := by decide +kernel
theorem dX13_stepOn_26 : decode cX13_stepOn 26 = .ok (.aload_n 0, 1) := by decide +kernel
theorem dX13_stepOn_27 : decode cX13_stepOn 27 = .ok (.dup, 1) := by decide +kernel
theorem dX13_stepOn_28 : decode cX13_stepOn 28 = .ok (.getfield 200, 3) := by decide +kernel
theorem dX13_stepOn_31 : decode cX13_stepOn 31 = .ok (.iconst 1, 1) := by decide +kernel
theorem dX13_stepOn_32 : decode cX13_stepOn 32 = .ok (.iadd, 1) := by decide +kernel
theorem dX13_stepOn_33 : decode cX13_stepOn 33 = .ok (.putfield 200, 3) := by decide +kernel
theorem dX13_stepOn_36 : decode cX13_stepOn 36 = .ok (.goto (-36), 3) := by decide +kernel
theorem dX13_stepOn_39 : decode cX13_stepOn 39 = .ok (.aload_n 0, 1) := by decide +kernel
theorem dX13_stepOn_40 : decode cX13_stepOn 40 = .ok (.aload_n 0, 1) := by decide +kernel
theorem dX13_stepOn_41 : decode cX13_stepOn 41 = .ok (.getfield 200, 3) := by decide +kernel
theorem dX13_stepOn_44 : decode cX13_stepOn 44 = .ok (.putfield 206, 3) := by decide +kernel
theorem dX13_stepOn_47 : decode cX13_stepOn 47 = .ok (.aload_n 0, 1) := by decide +kernel
theorem dX13_stepOn_48 : decode cX13_stepOn 48 = .ok (.aload_n 0, 1) := by decide +kernel
theorem dX13_stepOn_49 : decode cX13_stepOn 49 = .ok (.getfield 200, 3) := by decide +kernel
theorem dX13_stepOn_52 : decode cX13_stepOn 52 = .ok (.invokevirtual 202, 3) := by decide +kernel
theorem dX13_stepOn_55 : decode cX13_stepOn 55 = .ok (.istore_n 1, 1) := by decide +kernel
theorem dX13_stepOn_56 : decode cX13_stepOn 56 = .ok (.iload_n 1, 1) := by decide +kernel
theorem dX13_stepOn_57 : decode cX13_stepOn 57 = .ok (.iconst (-1), 1) := by decide +kernel
theorem dX13_stepOn_58 : decode cX13_stepOn 58 = .ok (.if_icmp .ne 11, 3) := by decide +kernel
theorem dX13_stepOn_61 : decode cX13_stepOn 61 = .ok (.aload_n 0, 1) := by decide +kernel
theorem dX13_stepOn_62 : decode cX13_stepOn 62 = .ok (.iconst 0, 1) := by decide +kernel
theorem dX13_stepOn_63 : decode cX13_stepOn 63 = .ok (.putfield 209, 3) := by decide +kernel
theorem dX13_stepOn_66 : decode cX13_stepOn 66 = .ok (.goto 223, 3) := by decide +kernel
theorem dX13_stepOn_69 : decode cX13_stepOn 69 = .ok (.iload_n 1, 1) := by decide +kernel
theorem dX13_stepOn_70 : decode cX13_stepOn 70 = .ok (.invokestatic 212, 3) := by decide +kernel
theorem dX13_stepOn_73 : decode cX13_stepOn 73 = .ok (.ifCond .eq 38, 3) := by decide +kernel
theorem dX13_stepOn_76 : decode cX13_stepOn 76 = .ok (.aload_n 0, 1) := by decide +kernel
theorem dX13_stepOn_77 : decode cX13_stepOn 77 = .ok (.aload_n 0, 1) := by decide +kernel
theorem dX13_stepOn_78 : decode cX13_stepOn 78 = .ok (.getfield 200, 3) := by decide +kernel
theorem dX13_stepOn_81 : decode cX13_stepOn 81 = .ok (.invokevirtual 202, 3) := by decide +kernel
theorem dX13_stepOn_84 : decode cX13_stepOn 84 = .ok (.invokestatic 212, 3) := by decide +kernel
theorem dX13_stepOn_87 : decode cX13_stepOn 87 = .ok (.ifCond .eq 16, 3) := by decide +kernel
theorem dX13_stepOn_90 : decode cX13_stepOn 90 = .ok (.aload_n 0, 1) := by decide +kernel
theorem dX13_stepOn_91 : decode cX13_stepOn 91 = .ok (.dup, 1) := by decide +kernel
theorem dX13_stepOn_92 : decode cX13_stepOn 92 = .ok (.getfield 200, 3) := by decide +kernel
theorem dX13_stepOn_95 : decode cX13_stepOn 95 = .ok (.iconst 1, 1) := by decide +kernel
theorem dX13_stepOn_96 : decode cX13_stepOn 96 = .ok (.iadd, 1) := by decide +kernel
theorem dX13_stepOn_97 : decode cX13_stepOn 97 = .ok (.putfield 200, 3) := by decide +kernel
theorem dX13_stepOn_100 : decode cX13_stepOn 100 = .ok (.goto (-24), 3) := by decide +kernel
theorem dX13_stepOn_103 : decode cX13_stepOn 103 = .ok (.aload_n 0, 1) := by decide +kernel
theorem dX13_stepOn_104 : decode cX13_stepOn 104 = .ok (.iconst 1, 1) := by decide +kernel
theorem dX13_stepOn_105 : decode cX13_stepOn 105 = .ok (.putfield 209, 3) := by decide +kernel
theorem dX13_stepOn_108 : decode cX13_stepOn 108 = .ok (.goto 181, 3) := by decide +kernel
theorem dX13_stepOn_111 : decode cX13_stepOn 111 = .ok (.iload_n 1, 1) := by decide +kernel
theorem dX13_stepOn_112 : decode cX13_stepOn 112 = .ok (.invokestatic 196, 3) := by decide +kernel
theorem dX13_stepOn_115 : decode cX13_stepOn 115 = .ok (.ifCond .eq 71, 3) := by decide +kernel
theorem dX13_stepOn_118 : decode cX13_stepOn 118 = .ok (.aload_n 0, 1) := by decide +kernel
theorem dX13_stepOn_119 : decode cX13_stepOn 119 = .ok (.iconst 0, 1) := by decide +kernel
theorem dX13_stepOn_120 : decode cX13_stepOn 120 = .ok (.putfield 215, 3) := by decide +kernel
theorem dX13_stepOn_123 : decode cX13_stepOn 123 = .ok (.aload_n 0, 1) := by decide +kernel
theorem dX13_stepOn_124 : decode cX13_stepOn 124 = .ok (.aload_n 0, 1) := by decide +kernel
theorem dX13_stepOn_125 : decode cX13_stepOn 125 = .ok (.getfield 200, 3) := by decide +kernel
theorem dX13_stepOn_128 : decode cX13_stepOn 128 = .ok (.invokevirtual 202, 3) := by decide +kernel
theorem dX13_stepOn_131 : decode cX13_stepOn 131 = .ok (.invokestatic 196, 3) := by decide +kernel
theorem dX13_stepOn_134 : decode cX13_stepOn 134 = .ok (.ifCond .eq 44, 3) := by decide +kernel
theorem dX13_stepOn_137 : decode cX13_stepOn 137 = .ok (.aload_n 0, 1) := by decide +kernel
theorem dX13_stepOn_138 : decode cX13_stepOn 138 = .ok (.ldc 218, 2) := by decide +kernel
theorem dX13_stepOn_140 : decode cX13_stepOn 140 = .ok (.bipush 10, 2) := by decide +kernel
theorem dX13_stepOn_142 : decode cX13_stepOn 142 = .ok (.aload_n 0, 1) := by decide +kernel
theorem dX13_stepOn_143 : decode cX13_stepOn 143 = .ok (.getfield 215, 3) := by decide +kernel
theorem dX13_stepOn_146 : decode cX13_stepOn 146 = .ok (.imul, 1) := by decide +kernel
theorem dX13_stepOn_147 : decode cX13_stepOn 147 = .ok (.aload_n 0, 1) := by decide +kernel
theorem dX13_stepOn_148 : decode cX13_stepOn 148 = .ok (.aload_n 0, 1) := by decide +kernel
theorem dX13_stepOn_149 : decode cX13_stepOn 149 = .ok (.getfield 200, 3) := by decide +kernel
theorem dX13_stepOn_152 : decode cX13_stepOn 152 = .ok (.invokevirtual 202, 3) := by decide +kernel
theorem dX13_stepOn_155 : decode cX13_stepOn 155 = .ok (.iadd, 1) := by decide +kernel
theorem dX13_stepOn_156 : decode cX13_stepOn 156 = .ok (.bipush 48, 2) := by decide +kernel
theorem dX13_stepOn_158 : decode cX13_stepOn 158 = .ok (.isub, 1) := by decide +kernel
theorem dX13_stepOn_159 : decode cX13_stepOn 159 = .ok (.invokestatic 219, 3) := by decide +kernel
theorem dX13_stepOn_162 : decode cX13_stepOn 162 = .ok (.putfield 215, 3) := by decide +kernel
theorem dX13_stepOn_165 : decode cX13_stepOn 165 = .ok (.aload_n 0, 1) := by decide +kernel
theorem dX13_stepOn_166 : decode cX13_stepOn 166 = .ok (.dup, 1) := by decide +kernel
theorem dX13_stepOn_167 : decode cX13_stepOn 167 = .ok (.getfield 200, 3) := by decide +kernel
theorem dX13_stepOn_170 : decode cX13_stepOn 170 = .ok (.iconst 1, 1) := by decide +kernel
theorem dX13_stepOn_171 : decode cX13_stepOn 171 = .ok (.iadd, 1) := by decide +kernel
theorem dX13_stepOn_172 : decode cX13_stepOn 172 = .ok (.putfield 200, 3) := by decide +kernel
theorem dX13_stepOn_175 : decode cX13_stepOn 175 = .ok (.goto (-52), 3) := by decide +kernel
theorem dX13_stepOn_178 : decode cX13_stepOn 178 = .ok (.aload_n 0, 1) := by decide +kernel
theorem dX13_stepOn_179 : decode cX13_stepOn 179 = .ok (.iconst 2, 1) := by decide +kernel
theorem dX13_stepOn_180 : decode cX13_stepOn 180 = .ok (.putfield 209, 3) := by decide +kernel
theorem dX13_stepOn_183 : decode cX13_stepOn 183 = .ok (.goto 106, 3) := by decide +kernel
theorem dX13_stepOn_186 : decode cX13_stepOn 186 = .ok (.aload_n 0, 1) := by decide +kernel
theorem dX13_stepOn_187 : decode cX13_stepOn 187 = .ok (.dup, 1) := by decide +kernel
theorem dX13_stepOn_188 : decode cX13_stepOn 188 = .ok (.getfield 200, 3) := by decide +kernel
theorem dX13_stepOn_191 : decode cX13_stepOn 191 = .ok (.iconst 1, 1) := by decide +kernel
theorem dX13_stepOn_192 : decode cX13_stepOn 192 = .ok (.iadd, 1) := by decide +kernel
theorem dX13_stepOn_193 : decode cX13_stepOn 193 = .ok (.putfield 200, 3) := by decide +kernel
theorem dX13_stepOn_196 : decode cX13_stepOn 196 = .ok (.aload_n 0, 1) := by decide +kernel
theorem dX13_stepOn_197 : decode cX13_stepOn 197 = .ok (.iload_n 1, 1) := by decide +kernel
theorem dX13_stepOn_198 : decode cX13_stepOn 198 = .ok (.bipush 59, 2) := by decide +kernel
theorem dX13_stepOn_200 : decode cX13_stepOn 200 = .ok (.if_icmp .eq 21, 3) := by decide +kernel
theorem dX13_stepOn_203 : decode cX13_stepOn 203 = .ok (.iload_n 1, 1) := by decide +kernel
theorem dX13_stepOn_204 : decode cX13_stepOn 204 = .ok (.bipush 58, 2) := by decide +kernel
theorem dX13_stepOn_206 : decode cX13_stepOn 206 = .ok (.if_icmp .eq 15, 3) := by decide +kernel
theorem dX13_stepOn_209 : decode cX13_stepOn 209 = .ok (.iload_n 1, 1) := by decide +kernel
theorem dX13_stepOn_210 : decode cX13_stepOn 210 = .ok (.bipush 37, 2) := by decide +kernel
theorem dX13_stepOn_212 : decode cX13_stepOn 212 = .ok (.if_icmp .eq 9, 3) := by decide +kernel
theorem dX13_stepOn_215 : decode cX13_stepOn 215 = .ok (.iload_n 1, 1) := by decide +kernel
theorem dX13_stepOn_216 : decode cX13_stepOn 216 = .ok (.bipush 45, 2) := by decide +kernel
theorem dX13_stepOn_218 : decode cX13_stepOn 218 = .ok (.if_icmp .ne 7, 3) := by decide +kernel
theorem dX13_stepOn_221 : decode cX13_stepOn 221 = .ok (.iconst 4, 1) := by decide +kernel
theorem dX13_stepOn_222 : decode cX13_stepOn 222 = .ok (.goto 4, 3) := by decide +kernel
theorem dX13_stepOn_225 : decode cX13_stepOn 225 = .ok (.iconst 5, 1) := by decide +kernel
theorem dX13_stepOn_226 : decode cX13_stepOn 226 = .ok (.putfield 209, 3) := by decide +kernel
theorem dX13_stepOn_229 : decode cX13_stepOn 229 = .ok (.iload_n 1, 1) := by decide +kernel
theorem dX13_stepOn_230 : decode cX13_stepOn 230 = .ok (.bipush 35, 2) := by decide +kernel
theorem dX13_stepOn_232 : decode cX13_stepOn 232 = .ok (.if_icmp .ne 22, 3) := by decide +kernel
theorem dX13_stepOn_235 : decode cX13_stepOn 235 = .ok (.aload_n 0, 1) := by decide +kernel
theorem dX13_stepOn_236 : decode cX13_stepOn 236 = .ok (.aload_n 0, 1) := by decide +kernel
theorem dX13_stepOn_237 : decode cX13_stepOn 237 = .ok (.getfield 200, 3) := by decide +kernel
theorem dX13_stepOn_240 : decode cX13_stepOn 240 = .ok (.invokevirtual 202, 3) := by decide +kernel
theorem dX13_stepOn_243 : decode cX13_stepOn 243 = .ok (.invokestatic 225, 3) := by decide +kernel
theorem dX13_stepOn_246 : decode cX13_stepOn 246 = .ok (.ifCond .eq 8, 3) := by decide +kernel
theorem dX13_stepOn_249 : decode cX13_stepOn 249 = .ok (.aload_n 0, 1) := by decide +kernel
theorem dX13_stepOn_250 : decode cX13_stepOn 250 = .ok (.iconst 3, 1) := by decide +kernel
theorem dX13_stepOn_251 : decode cX13_stepOn 251 = .ok (.putfield 209, 3) := by decide +kernel
theorem dX13_stepOn_254 : decode cX13_stepOn 254 = .ok (.aload_n 0, 1) := by decide +kernel
theorem dX13_stepOn_255 : decode cX13_stepOn 255 = .ok (.getfield 209, 3) := by decide +kernel
theorem dX13_stepOn_258 : decode cX13_stepOn 258 = .ok (.iconst 3, 1) := by decide +kernel
theorem dX13_stepOn_259 : decode cX13_stepOn 259 = .ok (.if_icmp .ne 30, 3) := by decide +kernel
theorem dX13_stepOn_262 : decode cX13_stepOn 262 = .ok (.aload_n 0, 1) := by decide +kernel
theorem dX13_stepOn_263 : decode cX13_stepOn 263 = .ok (.aload_n 0, 1) := by decide +kernel
theorem dX13_stepOn_264 : decode cX13_stepOn 264 = .ok (.getfield 200, 3) := by decide +kernel
theorem dX13_stepOn_267 : decode cX13_stepOn 267 = .ok (.invokevirtual 202, 3) := by decide +kernel
theorem dX13_stepOn_270 : decode cX13_stepOn 270 = .ok (.invokestatic 225, 3) := by decide +kernel
theorem dX13_stepOn_273 : decode cX13_stepOn 273 = .ok (.ifCond .eq 16, 3) := by decide +kernel
theorem dX13_stepOn_276 : decode cX13_stepOn 276 = .ok (.aload_n 0, 1) := by decide +kernel
theorem dX13_stepOn_277 : decode cX13_stepOn 277 = .ok (.dup, 1) := by decide +kernel
theorem dX13_stepOn_278 : decode cX13_stepOn 278 = .ok (.getfield 200, 3) := by decide +kernel
theorem dX13_stepOn_281 : decode cX13_stepOn 281 = .ok (.iconst 1, 1) := by decide +kernel
theorem dX13_stepOn_282 : decode cX13_stepOn 282 = .ok (.iadd, 1) := by decide +kernel
theorem dX13_stepOn_283 : decode cX13_stepOn 283 = .ok (.putfield 200, 3) := by decide +kernel
theorem dX13_stepOn_286 : decode cX13_stepOn 286 = .ok (.goto (-32), 3) := by decide +kernel
theorem dX13_stepOn_289 : decode cX13_stepOn 289 = .ok (.aload_n 0, 1) := by decide +kernel
theorem dX13_stepOn_290 : decode cX13_stepOn 290 = .ok (.aload_n 0, 1) := by decide +kernel
theorem dX13_stepOn_291 : decode cX13_stepOn 291 = .ok (.getfield 200, 3) := by decide +kernel
theorem dX13_stepOn_294 : decode cX13_stepOn 294 = .ok (.putfield 228, 3) := by decide +kernel
theorem dX13_stepOn_297 : decode cX13_stepOn 297 = .ok (.return_, 1) := by decide +kernel
theorem dX13_wrong_0 : decode cX13_wrong 0 = .ok (.aload_n 0, 1) := by decide +kernel
theorem dX13_wrong_1 : decode cX13_wrong 1 = .ok (.getfield 231, 3) := by decide +kernel
theorem dX13_wrong_4 : decode cX13_wrong 4 = .ok (.ifCond .eq 4, 3) := by decide +kernel
theorem dX13_wrong_7 : decode cX13_wrong 7 = .ok (.return_, 1) := by decide +kernel
theorem dX13_wrong_8 : decode cX13_wrong 8 = .ok (.aload_n 0, 1) := by decide +kernel
theorem dX13_wrong_9 : decode cX13_wrong 9 = .ok (.iload_n 1, 1) := by decide +kernel
theorem dX13_wrong_10 : decode cX13_wrong 10 = .ok (.putfield 231, 3) := by decide +kernel
theorem dX13_wrong_13 : decode cX13_wrong 13 = .ok (.aload_n 0, 1) := by decide +kernel
theorem dX13_wrong_14 : decode cX13_wrong 14 = .ok (.aload_n 0, 1) := by decide +kernel
theorem dX13_wrong_15 : decode cX13_wrong 15 = .ok (.getfield 206, 3) := by decide +kernel
theorem dX13_wrong_18 : decode cX13_wrong 18 = .ok (.putfield 234, 3) := by decide +kernel
theorem dX13_wrong_21 : decode cX13_wrong 21 = .ok (.return_, 1) := by decide +kernel
theorem dX13_is_0 : decode cX13_is 0 = .ok (.aload_n 0, 1) := by decide +kernel
theorem dX13_is_1 : decode cX13_is 1 = .ok (.getfield 231, 3) := by decide +kernel
theorem dX13_is_4 : decode cX13_is 4 = .ok (.ifCond .ne 31, 3) := by decide +kernel
theorem dX13_is_7 : decode cX13_is 7 = .ok (.aload_n 0, 1) := by decide +kernel
theorem dX13_is_8 : decode cX13_is 8 = .ok (.getfield 209, 3) := by decide +kernel
theorem dX13_is_11 : decode cX13_is 11 = .ok (.iconst 1, 1) := by decide +kernel
theorem dX13_is_12 : decode cX13_is 12 = .ok (.if_icmp .ne 23, 3) := by decide +kernel
theorem dX13_is_15 : decode cX13_is 15 = .ok (.aload_n 1, 1) := by decide +kernel
theorem dX13_is_16 : decode cX13_is 16 = .ok (.invokevirtual 237, 3) := by decide +kernel
theorem dX13_is_19 : decode cX13_is 19 = .ok (.aload_n 0, 1) := by decide +kernel
theorem dX13_is_20 : decode cX13_is 20 = .ok (.getfield 228, 3) := by decide +kernel
theorem dX13_is_23 : decode cX13_is 23 = .ok (.aload_n 0, 1) := by decide +kernel
theorem dX13_is_24 : decode cX13_is 24 = .ok (.getfield 206, 3) := by decide +kernel
theorem dX13_is_27 : decode cX13_is 27 = .ok (.isub, 1) := by decide +kernel
theorem dX13_is_28 : decode cX13_is 28 = .ok (.if_icmp .ne 7, 3) := by decide +kernel
theorem dX13_is_31 : decode cX13_is 31 = .ok (.iconst 1, 1) := by decide +kernel
theorem dX13_is_32 : decode cX13_is 32 = .ok (.goto 4, 3) := by decide +kernel
theorem dX13_is_35 : decode cX13_is 35 = .ok (.iconst 0, 1) := by decide +kernel
theorem dX13_is_36 : decode cX13_is 36 = .ok (.istore_n 2, 1) := by decide +kernel
theorem dX13_is_37 : decode cX13_is 37 = .ok (.iconst 0, 1) := by decide +kernel
theorem dX13_is_38 : decode cX13_is 38 = .ok (.istore_n 3, 1) := by decide +kernel
theorem dX13_is_39 : decode cX13_is 39 = .ok (.iload_n 2, 1) := by decide +kernel
theorem dX13_is_40 : decode cX13_is 40 = .ok (.ifCond .eq 42, 3) := by decide +kernel
theorem dX13_is_43 : decode cX13_is 43 = .ok (.iload_n 3, 1) := by decide +kernel
theorem dX13_is_44 : decode cX13_is 44 = .ok (.aload_n 1, 1) := by decide +kernel
theorem dX13_is_45 : decode cX13_is 45 = .ok (.invokevirtual 237, 3) := by decide +kernel
theorem dX13_is_48 : decode cX13_is 48 = .ok (.if_icmp .ge 34, 3) := by decide +kernel
theorem dX13_is_51 : decode cX13_is 51 = .ok (.aload_n 1, 1) := by decide +kernel
theorem dX13_is_52 : decode cX13_is 52 = .ok (.iload_n 3, 1) := by decide +kernel
theorem dX13_is_53 : decode cX13_is 53 = .ok (.invokevirtual 241, 3) := by decide +kernel
theorem dX13_is_56 : decode cX13_is 56 = .ok (.aload_n 0, 1) := by decide +kernel
theorem dX13_is_57 : decode cX13_is 57 = .ok (.getfield 107, 3) := by decide +kernel
theorem dX13_is_60 : decode cX13_is 60 = .ok (.aload_n 0, 1) := by decide +kernel
theorem dX13_is_61 : decode cX13_is 61 = .ok (.getfield 206, 3) := by decide +kernel
theorem dX13_is_64 : decode cX13_is 64 = .ok (.iload_n 3, 1) := by decide +kernel
theorem dX13_is_65 : decode cX13_is 65 = .ok (.iadd, 1) := by decide +kernel
theorem dX13_is_66 : decode cX13_is 66 = .ok (.iaload, 1) := by decide +kernel
theorem dX13_is_67 : decode cX13_is 67 = .ok (.if_icmp .ne 7, 3) := by decide +kernel
theorem dX13_is_70 : decode cX13_is 70 = .ok (.iconst 1, 1) := by decide +kernel
theorem dX13_is_71 : decode cX13_is 71 = .ok (.goto 4, 3) := by decide +kernel
theorem dX13_is_74 : decode cX13_is 74 = .ok (.iconst 0, 1) := by decide +kernel
theorem dX13_is_75 : decode cX13_is 75 = .ok (.istore_n 2, 1) := by decide +kernel
theorem dX13_is_76 : decode cX13_is 76 = .ok (.iinc 3 1, 3) := by decide +kernel
theorem dX13_is_79 : decode cX13_is 79 = .ok (.goto (-40), 3) := by decide +kernel
theorem dX13_is_82 : decode cX13_is 82 = .ok (.iload_n 2, 1) := by decide +kernel
theorem dX13_is_83 : decode cX13_is 83 = .ok (.ireturn, 1) := by decide +kernel
theorem dX13_which_0 : decode cX13_which 0 = .ok (.iconst 0, 1) := by decide +kernel
theorem dX13_which_1 : decode cX13_which 1 = .ok (.istore_n 2, 1) := by decide +kernel
theorem dX13_which_2 : decode cX13_which 2 = .ok (.iload_n 2, 1) := by decide +kernel
theorem dX13_which_3 : decode cX13_which 3 = .ok (.aload_n 1, 1) := by decide +kernel
theorem dX13_which_4 : decode cX13_which 4 = .ok (.arraylength, 1) := by decide +kernel
theorem dX13_which_5 : decode cX13_which 5 = .ok (.if_icmp .ge 21, 3) := by decide +kernel
theorem dX13_which_8 : decode cX13_which 8 = .ok (.aload_n 0, 1) := by decide +kernel
theorem dX13_which_9 : decode cX13_which 9 = .ok (.aload_n 1, 1) := by decide +kernel
theorem dX13_which_10 : decode cX13_which 10 = .ok (.iload_n 2, 1) := by decide +kernel
theorem dX13_which_11 : decode cX13_which 11 = .ok (.aaload, 1) := by decide +kernel
theorem dX13_which_12 : decode cX13_which 12 = .ok (.invokevirtual 245, 3) := by decide +kernel
theorem dX13_which_15 : decode cX13_which 15 = .ok (.ifCond .eq 5, 3) := by decide +kernel
theorem dX13_which_18 : decode cX13_which 18 = .ok (.iload_n 2, 1) := by decide +kernel
theorem dX13_which_19 : decode cX13_which 19 = .ok (.ireturn, 1) := by decide +kernel
theorem dX13_which_20 : decode cX13_which 20 = .ok (.iinc 2 1, 3) := by decide +kernel
theorem dX13_which_23 : decode cX13_which 23 = .ok (.goto (-21), 3) := by decide +kernel
theorem dX13_which_26 : decode cX13_which 26 = .ok (.iconst (-1), 1) := by decide +kernel
theorem dX13_which_27 : decode cX13_which 27 = .ok (.ireturn, 1) := by decide +kernel
theorem dX13_isMarked_0 : decode cX13_isMarked 0 = .ok (.aload_n 0, 1) := by decide +kernel
theorem dX13_isMarked_1 : decode cX13_isMarked 1 = .ok (.getfield 231, 3) := by decide +kernel
theorem dX13_isMarked_4 : decode cX13_isMarked 4 = .ok (.ifCond .ne 28, 3) := by decide +kernel
theorem dX13_isMarked_7 : decode cX13_isMarked 7 = .ok (.aload_n 0, 1) := by decide +kernel
theorem dX13_isMarked_8 : decode cX13_isMarked 8 = .ok (.getfield 209, 3) := by decide +kernel
theorem dX13_isMarked_11 : decode cX13_isMarked 11 = .ok (.iconst 4, 1) := by decide +kernel
theorem dX13_isMarked_12 : decode cX13_isMarked 12 = .ok (.if_icmp .ne 20, 3) := by decide +kernel
theorem dX13_isMarked_15 : decode cX13_isMarked 15 = .ok (.aload_n 0, 1) := by decide +kernel
theorem dX13_isMarked_16 : decode cX13_isMarked 16 = .ok (.getfield 107, 3) := by decide +kernel
theorem dX13_isMarked_19 : decode cX13_isMarked 19 = .ok (.aload_n 0, 1) := by decide +kernel
theorem dX13_isMarked_20 : decode cX13_isMarked 20 = .ok (.getfield 206, 3) := by decide +kernel
theorem dX13_isMarked_23 : decode cX13_isMarked 23 = .ok (.iaload, 1) := by decide +kernel
theorem dX13_isMarked_24 : decode cX13_isMarked 24 = .ok (.iload_n 1, 1) := by decide +kernel
theorem dX13_isMarked_25 : decode cX13_isMarked 25 = .ok (.if_icmp .ne 7, 3) := by decide +kernel
theorem dX13_isMarked_28 : decode cX13_isMarked 28 = .ok (.iconst 1, 1) := by decide +kernel
theorem dX13_isMarked_29 : decode cX13_isMarked 29 = .ok (.goto 4, 3) := by decide +kernel
theorem dX13_isMarked_32 : decode cX13_isMarked 32 = .ok (.iconst 0, 1) := by decide +kernel
theorem dX13_isMarked_33 : decode cX13_isMarked 33 = .ok (.ireturn, 1) := by decide +kernel
theorem dX13_passes_0 : decode cX13_passes 0 = .ok (.aload_n 0, 1) := by decide +kernel
theorem dX13_passes_1 : decode cX13_passes 1 = .ok (.iload_n 1, 1) := by decide +kernel
theorem dX13_passes_2 : decode cX13_passes 2 = .ok (.invokevirtual 249, 3) := by decide +kernel
theorem dX13_passes_5 : decode cX13_passes 5 = .ok (.istore_n 2, 1) := by decide +kernel
theorem dX13_passes_6 : decode cX13_passes 6 = .ok (.iload_n 2, 1) := by decide +kernel
theorem dX13_passes_7 : decode cX13_passes 7 = .ok (.ifCond .eq 7, 3) := by decide +kernel
theorem dX13_passes_10 : decode cX13_passes 10 = .ok (.aload_n 0, 1) := by decide +kernel
theorem dX13_passes_11 : decode cX13_passes 11 = .ok (.invokevirtual 252, 3) := by decide +kernel
theorem dX13_passes_14 : decode cX13_passes 14 = .ok (.iload_n 2, 1) := by decide +kernel
theorem dX13_passes_15 : decode cX13_passes 15 = .ok (.ireturn, 1) := by decide +kernel
theorem dX13_mark_0 : decode cX13_mark 0 = .ok (.aload_n 0, 1) := by decide +kernel
theorem dX13_mark_1 : decode cX13_mark 1 = .ok (.getfield 231, 3) := by decide +kernel
theorem dX13_mark_4 : decode cX13_mark 4 = .ok (.ifCond .ne 16, 3) := by decide +kernel
theorem dX13_mark_7 : decode cX13_mark 7 = .ok (.aload_n 0, 1) := by decide +kernel
theorem dX13_mark_8 : decode cX13_mark 8 = .ok (.iload_n 1, 1) := by decide +kernel
theorem dX13_mark_9 : decode cX13_mark 9 = .ok (.invokevirtual 249, 3) := by decide +kernel
theorem dX13_mark_12 : decode cX13_mark 12 = .ok (.ifCond .ne 8, 3) := by decide +kernel
theorem dX13_mark_15 : decode cX13_mark 15 = .ok (.aload_n 0, 1) := by decide +kernel
theorem dX13_mark_16 : decode cX13_mark 16 = .ok (.iconst 1, 1) := by decide +kernel
theorem dX13_mark_17 : decode cX13_mark 17 = .ok (.invokevirtual 255, 3) := by decide +kernel
theorem dX13_mark_20 : decode cX13_mark 20 = .ok (.aload_n 0, 1) := by decide +kernel
theorem dX13_mark_21 : decode cX13_mark 21 = .ok (.getfield 231, 3) := by decide +kernel
theorem dX13_mark_24 : decode cX13_mark 24 = .ok (.ifCond .ne 7, 3) := by decide +kernel
theorem dX13_mark_27 : decode cX13_mark 27 = .ok (.aload_n 0, 1) := by decide +kernel
theorem dX13_mark_28 : decode cX13_mark 28 = .ok (.invokevirtual 252, 3) := by decide +kernel
theorem dX13_mark_31 : decode cX13_mark 31 = .ok (.return_, 1) := by decide +kernel
theorem dX13_readNumber_0 : decode cX13_readNumber 0 = .ok (.aload_n 0, 1) := by decide +kernel
theorem dX13_readNumber_1 : decode cX13_readNumber 1 = .ok (.getfield 231, 3) := by decide +kernel
theorem dX13_readNumber_4 : decode cX13_readNumber 4 = .ok (.ifCond .eq 5, 3) := by decide +kernel
theorem dX13_readNumber_7 : decode cX13_readNumber 7 = .ok (.iconst 0, 1) := by decide +kernel
theorem dX13_readNumber_8 : decode cX13_readNumber 8 = .ok (.ireturn, 1) := by decide +kernel
theorem dX13_readNumber_9 : decode cX13_readNumber 9 = .ok (.aload_n 0, 1) := by decide +kernel
theorem dX13_readNumber_10 : decode cX13_readNumber 10 = .ok (.getfield 209, 3) := by decide +kernel
theorem dX13_readNumber_13 : decode cX13_readNumber 13 = .ok (.iconst 2, 1) := by decide +kernel
theorem dX13_readNumber_14 : decode cX13_readNumber 14 = .ok (.if_icmp .eq 11, 3) := by decide +kernel
theorem dX13_readNumber_17 : decode cX13_readNumber 17 = .ok (.aload_n 0, 1) := by decide +kernel
theorem dX13_readNumber_18 : decode cX13_readNumber 18 = .ok (.iconst 1, 1) := by decide +kernel
theorem dX13_readNumber_19 : decode cX13_readNumber 19 = .ok (.invokevirtual 255, 3) := by decide +kernel
theorem dX13_readNumber_22 : decode cX13_readNumber 22 = .ok (.goto 24, 3) := by decide +kernel
theorem dX13_readNumber_25 : decode cX13_readNumber 25 = .ok (.aload_n 0, 1) := by decide +kernel
theorem dX13_readNumber_26 : decode cX13_readNumber 26 = .ok (.getfield 215, 3) := by decide +kernel
theorem dX13_readNumber_29 : decode cX13_readNumber 29 = .ok (.iload_n 1, 1) := by decide +kernel
theorem dX13_readNumber_30 : decode cX13_readNumber 30 = .ok (.if_icmp .lt 11, 3) := by decide +kernel
theorem dX13_readNumber_33 : decode cX13_readNumber 33 = .ok (.aload_n 0, 1) := by decide +kernel
theorem dX13_readNumber_34 : decode cX13_readNumber 34 = .ok (.getfield 215, 3) := by decide +kernel
theorem dX13_readNumber_37 : decode cX13_readNumber 37 = .ok (.iload_n 2, 1) := by decide +kernel
theorem dX13_readNumber_38 : decode cX13_readNumber 38 = .ok (.if_icmp .le 8, 3) := by decide +kernel
theorem dX13_readNumber_41 : decode cX13_readNumber 41 = .ok (.aload_n 0, 1) := by decide +kernel
theorem dX13_readNumber_42 : decode cX13_readNumber 42 = .ok (.iconst 2, 1) := by decide +kernel
theorem dX13_readNumber_43 : decode cX13_readNumber 43 = .ok (.invokevirtual 255, 3) := by decide +kernel
theorem dX13_readNumber_46 : decode cX13_readNumber 46 = .ok (.aload_n 0, 1) := by decide +kernel
theorem dX13_readNumber_47 : decode cX13_readNumber 47 = .ok (.getfield 231, 3) := by decide +kernel
theorem dX13_readNumber_50 : decode cX13_readNumber 50 = .ok (.ifCond .ne 10, 3) := by decide +kernel
theorem dX13_readNumber_53 : decode cX13_readNumber 53 = .ok (.aload_n 0, 1) := by decide +kernel
theorem dX13_readNumber_54 : decode cX13_readNumber 54 = .ok (.getfield 215, 3) := by decide +kernel
theorem dX13_readNumber_57 : decode cX13_readNumber 57 = .ok (.goto 4, 3) := by decide +kernel
theorem dX13_readNumber_60 : decode cX13_readNumber 60 = .ok (.iconst 0, 1) := by decide +kernel
theorem dX13_readNumber_61 : decode cX13_readNumber 61 = .ok (.istore_n 3, 1) := by decide +kernel
theorem dX13_readNumber_62 : decode cX13_readNumber 62 = .ok (.aload_n 0, 1) := by decide +kernel
theorem dX13_readNumber_63 : decode cX13_readNumber 63 = .ok (.getfield 231, 3) := by decide +kernel
theorem dX13_readNumber_66 : decode cX13_readNumber 66 = .ok (.ifCond .ne 7, 3) := by decide +kernel
theorem dX13_readNumber_69 : decode cX13_readNumber 69 = .ok (.aload_n 0, 1) := by decide +kernel
theorem dX13_readNumber_70 : decode cX13_readNumber 70 = .ok (.invokevirtual 252, 3) := by decide +kernel
theorem dX13_readNumber_73 : decode cX13_readNumber 73 = .ok (.iload_n 3, 1) := by decide +kernel
theorem dX13_readNumber_74 : decode cX13_readNumber 74 = .ok (.ireturn, 1) := by decide +kernel
theorem dX13_isName_0 : decode cX13_isName 0 = .ok (.aload_n 0, 1) := by decide +kernel
theorem dX13_isName_1 : decode cX13_isName 1 = .ok (.getfield 117, 3) := by decide +kernel
theorem dX13_isName_4 : decode cX13_isName 4 = .ok (.iload_n 3, 1) := by decide +kernel
theorem dX13_isName_5 : decode cX13_isName 5 = .ok (.iaload, 1) := by decide +kernel
theorem dX13_isName_6 : decode cX13_isName 6 = .ok (.iload_n 2, 1) := by decide +kernel
theorem dX13_isName_7 : decode cX13_isName 7 = .ok (.if_icmp .ne 7, 3) := by decide +kernel
theorem dX13_isName_10 : decode cX13_isName 10 = .ok (.iconst 1, 1) := by decide +kernel
theorem dX13_isName_11 : decode cX13_isName 11 = .ok (.goto 4, 3) := by decide +kernel
theorem dX13_isName_14 : decode cX13_isName 14 = .ok (.iconst 0, 1) := by decide +kernel
theorem dX13_isName_15 : decode cX13_isName 15 = .ok (.istore 4, 2) := by decide +kernel
theorem dX13_isName_17 : decode cX13_isName 17 = .ok (.iconst 0, 1) := by decide +kernel
theorem dX13_isName_18 : decode cX13_isName 18 = .ok (.istore 5, 2) := by decide +kernel
theorem dX13_isName_20 : decode cX13_isName 20 = .ok (.iload 4, 2) := by decide +kernel
theorem dX13_isName_22 : decode cX13_isName 22 = .ok (.ifCond .eq 48, 3) := by decide +kernel
theorem dX13_isName_25 : decode cX13_isName 25 = .ok (.iload 5, 2) := by decide +kernel
theorem dX13_isName_27 : decode cX13_isName 27 = .ok (.iload_n 2, 1) := by decide +kernel
theorem dX13_isName_28 : decode cX13_isName 28 = .ok (.if_icmp .ge 42, 3) := by decide +kernel
theorem dX13_isName_31 : decode cX13_isName 31 = .ok (.aload_n 0, 1) := by decide +kernel
theorem dX13_isName_32 : decode cX13_isName 32 = .ok (.getfield 107, 3) := by decide +kernel
theorem dX13_isName_35 : decode cX13_isName 35 = .ok (.iload_n 1, 1) := by decide +kernel
theorem dX13_isName_36 : decode cX13_isName 36 = .ok (.iload 5, 2) := by decide +kernel
theorem dX13_isName_38 : decode cX13_isName 38 = .ok (.iadd, 1) := by decide +kernel
theorem dX13_isName_39 : decode cX13_isName 39 = .ok (.iaload, 1) := by decide +kernel
theorem dX13_isName_40 : decode cX13_isName 40 = .ok (.aload_n 0, 1) := by decide +kernel
theorem dX13_isName_41 : decode cX13_isName 41 = .ok (.getfield 107, 3) := by decide +kernel
theorem dX13_isName_44 : decode cX13_isName 44 = .ok (.aload_n 0, 1) := by decide +kernel
theorem dX13_isName_45 : decode cX13_isName 45 = .ok (.getfield 114, 3) := by decide +kernel
theorem dX13_isName_48 : decode cX13_isName 48 = .ok (.iload_n 3, 1) := by decide +kernel
theorem dX13_isName_49 : decode cX13_isName 49 = .ok (.iaload, 1) := by decide +kernel
theorem dX13_isName_50 : decode cX13_isName 50 = .ok (.iload 5, 2) := by decide +kernel
theorem dX13_isName_52 : decode cX13_isName 52 = .ok (.iadd, 1) := by decide +kernel
theorem dX13_isName_53 : decode cX13_isName 53 = .ok (.iaload, 1) := by decide +kernel
theorem dX13_isName_54 : decode cX13_isName 54 = .ok (.if_icmp .ne 7, 3) := by decide +kernel
theorem dX13_isName_57 : decode cX13_isName 57 = .ok (.iconst 1, 1) := by decide +kernel
theorem dX13_isName_58 : decode cX13_isName 58 = .ok (.goto 4, 3) := by decide +kernel
theorem dX13_isName_61 : decode cX13_isName 61 = .ok (.iconst 0, 1) := by decide +kernel
theorem dX13_isName_62 : decode cX13_isName 62 = .ok (.istore 4, 2) := by decide +kernel
theorem dX13_isName_64 : decode cX13_isName 64 = .ok (.iinc 5 1, 3) := by decide +kernel
theorem dX13_isName_67 : decode cX13_isName 67 = .ok (.goto (-47), 3) := by decide +kernel
theorem dX13_isName_70 : decode cX13_isName 70 = .ok (.iload 4, 2) := by decide +kernel
theorem dX13_isName_72 : decode cX13_isName 72 = .ok (.ireturn, 1) := by decide +kernel
theorem dX13_named_0 : decode cX13_named 0 = .ok (.iconst 0, 1) := by decide +kernel
theorem dX13_named_1 : decode cX13_named 1 = .ok (.istore_n 3, 1) := by decide +kernel
theorem dX13_named_2 : decode cX13_named 2 = .ok (.iload_n 3, 1) := by decide +kernel
theorem dX13_named_3 : decode cX13_named 3 = .ok (.aload_n 0, 1) := by decide +kernel
theorem dX13_named_4 : decode cX13_named 4 = .ok (.getfield 259, 3) := by decide +kernel
theorem dX13_named_7 : decode cX13_named 7 = .ok (.if_icmp .ge 30, 3) := by decide +kernel
theorem dX13_named_10 : decode cX13_named 10 = .ok (.aload_n 0, 1) := by decide +kernel
theorem dX13_named_11 : decode cX13_named 11 = .ok (.getfield 117, 3) := by decide +kernel
theorem dX13_named_14 : decode cX13_named 14 = .ok (.iload_n 3, 1) := by decide +kernel
theorem dX13_named_15 : decode cX13_named 15 = .ok (.iaload, 1) := by decide +kernel
theorem dX13_named_16 : decode cX13_named 16 = .ok (.ifCond .le 15, 3) := by decide +kernel
theorem dX13_named_19 : decode cX13_named 19 = .ok (.aload_n 0, 1) := by decide +kernel
theorem dX13_named_20 : decode cX13_named 20 = .ok (.iload_n 1, 1) := by decide +kernel
theorem dX13_named_21 : decode cX13_named 21 = .ok (.iload_n 2, 1) := by decide +kernel
theorem dX13_named_22 : decode cX13_named 22 = .ok (.iload_n 3, 1) := by decide +kernel
theorem dX13_named_23 : decode cX13_named 23 = .ok (.invokevirtual 262, 3) := by decide +kernel
theorem dX13_named_26 : decode cX13_named 26 = .ok (.ifCond .eq 5, 3) := by decide +kernel
theorem dX13_named_29 : decode cX13_named 29 = .ok (.iload_n 3, 1) := by decide +kernel
theorem dX13_named_30 : decode cX13_named 30 = .ok (.ireturn, 1) := by decide +kernel
theorem dX13_named_31 : decode cX13_named 31 = .ok (.iinc 3 1, 3) := by decide +kernel
theorem dX13_named_34 : decode cX13_named 34 = .ok (.goto (-32), 3) := by decide +kernel
theorem dX13_named_37 : decode cX13_named 37 = .ok (.iconst (-1), 1) := by decide +kernel
theorem dX13_named_38 : decode cX13_named 38 = .ok (.ireturn, 1) := by decide +kernel
theorem dX13_nameHere_0 : decode cX13_nameHere 0 = .ok (.aload_n 0, 1) := by decide +kernel
theorem dX13_nameHere_1 : decode cX13_nameHere 1 = .ok (.getfield 231, 3) := by decide +kernel
theorem dX13_nameHere_4 : decode cX13_nameHere 4 = .ok (.ifCond .eq 5, 3) := by decide +kernel
theorem dX13_nameHere_7 : decode cX13_nameHere 7 = .ok (.iconst 0, 1) := by decide +kernel
theorem dX13_nameHere_8 : decode cX13_nameHere 8 = .ok (.ireturn, 1) := by decide +kernel
theorem dX13_nameHere_9 : decode cX13_nameHere 9 = .ok (.aload_n 0, 1) := by decide +kernel
theorem dX13_nameHere_10 : decode cX13_nameHere 10 = .ok (.getfield 209, 3) := by decide +kernel
theorem dX13_nameHere_13 : decode cX13_nameHere 13 = .ok (.iconst 1, 1) := by decide +kernel
theorem dX13_nameHere_14 : decode cX13_nameHere 14 = .ok (.if_icmp .ne 27, 3) := by decide +kernel
theorem dX13_nameHere_17 : decode cX13_nameHere 17 = .ok (.aload_n 0, 1) := by decide +kernel
theorem dX13_nameHere_18 : decode cX13_nameHere 18 = .ok (.aload_n 0, 1) := by decide +kernel
theorem dX13_nameHere_19 : decode cX13_nameHere 19 = .ok (.getfield 59, 3) := by decide +kernel
theorem dX13_nameHere_22 : decode cX13_nameHere 22 = .ok (.invokevirtual 266, 3) := by decide +kernel
theorem dX13_nameHere_25 : decode cX13_nameHere 25 = .ok (.iconst (-1), 1) := by decide +kernel
theorem dX13_nameHere_26 : decode cX13_nameHere 26 = .ok (.if_icmp .ne 15, 3) := by decide +kernel
theorem dX13_nameHere_29 : decode cX13_nameHere 29 = .ok (.aload_n 0, 1) := by decide +kernel
theorem dX13_nameHere_30 : decode cX13_nameHere 30 = .ok (.aload_n 0, 1) := by decide +kernel
theorem dX13_nameHere_31 : decode cX13_nameHere 31 = .ok (.getfield 73, 3) := by decide +kernel
theorem dX13_nameHere_34 : decode cX13_nameHere 34 = .ok (.invokevirtual 266, 3) := by decide +kernel
theorem dX13_nameHere_37 : decode cX13_nameHere 37 = .ok (.iconst (-1), 1) := by decide +kernel
theorem dX13_nameHere_38 : decode cX13_nameHere 38 = .ok (.if_icmp .eq 11, 3) := by decide +kernel
theorem dX13_nameHere_41 : decode cX13_nameHere 41 = .ok (.aload_n 0, 1) := by decide +kernel
theorem dX13_nameHere_42 : decode cX13_nameHere 42 = .ok (.iconst 1, 1) := by decide +kernel
theorem dX13_nameHere_43 : decode cX13_nameHere 43 = .ok (.invokevirtual 255, 3) := by decide +kernel
theorem dX13_nameHere_46 : decode cX13_nameHere 46 = .ok (.goto 22, 3) := by decide +kernel
theorem dX13_nameHere_49 : decode cX13_nameHere 49 = .ok (.aload_n 0, 1) := by decide +kernel
theorem dX13_nameHere_50 : decode cX13_nameHere 50 = .ok (.getfield 228, 3) := by decide +kernel
theorem dX13_nameHere_53 : decode cX13_nameHere 53 = .ok (.aload_n 0, 1) := by decide +kernel
theorem dX13_nameHere_54 : decode cX13_nameHere 54 = .ok (.getfield 206, 3) := by decide +kernel
theorem dX13_nameHere_57 : decode cX13_nameHere 57 = .ok (.isub, 1) := by decide +kernel
theorem dX13_nameHere_58 : decode cX13_nameHere 58 = .ok (.bipush 8, 2) := by decide +kernel
theorem dX13_nameHere_60 : decode cX13_nameHere 60 = .ok (.if_icmp .le 8, 3) := by decide +kernel
theorem dX13_nameHere_63 : decode cX13_nameHere 63 = .ok (.aload_n 0, 1) := by decide +kernel
theorem dX13_nameHere_64 : decode cX13_nameHere 64 = .ok (.iconst 2, 1) := by decide +kernel
theorem dX13_nameHere_65 : decode cX13_nameHere 65 = .ok (.invokevirtual 255, 3) := by decide +kernel
theorem dX13_nameHere_68 : decode cX13_nameHere 68 = .ok (.aload_n 0, 1) := by decide +kernel
theorem dX13_nameHere_69 : decode cX13_nameHere 69 = .ok (.getfield 231, 3) := by decide +kernel
theorem dX13_nameHere_72 : decode cX13_nameHere 72 = .ok (.ifCond .ne 7, 3) := by decide +kernel
theorem dX13_nameHere_75 : decode cX13_nameHere 75 = .ok (.iconst 1, 1) := by decide +kernel
theorem dX13_nameHere_76 : decode cX13_nameHere 76 = .ok (.goto 4, 3) := by decide +kernel
theorem dX13_nameHere_79 : decode cX13_nameHere 79 = .ok (.iconst 0, 1) := by decide +kernel
theorem dX13_nameHere_80 : decode cX13_nameHere 80 = .ok (.ireturn, 1) := by decide +kernel
theorem dX13_readLabel_0 : decode cX13_readLabel 0 = .ok (.aload_n 0, 1) := by decide +kernel
theorem dX13_readLabel_1 : decode cX13_readLabel 1 = .ok (.invokevirtual 270, 3) := by decide +kernel
theorem dX13_readLabel_4 : decode cX13_readLabel 4 = .ok (.ifCond .ne 4, 3) := by decide +kernel
theorem dX13_readLabel_7 : decode cX13_readLabel 7 = .ok (.return_, 1) := by decide +kernel
theorem dX13_readLabel_8 : decode cX13_readLabel 8 = .ok (.aload_n 0, 1) := by decide +kernel
theorem dX13_readLabel_9 : decode cX13_readLabel 9 = .ok (.aload_n 0, 1) := by decide +kernel
theorem dX13_readLabel_10 : decode cX13_readLabel 10 = .ok (.getfield 206, 3) := by decide +kernel
theorem dX13_readLabel_13 : decode cX13_readLabel 13 = .ok (.aload_n 0, 1) := by decide +kernel
theorem dX13_readLabel_14 : decode cX13_readLabel 14 = .ok (.getfield 228, 3) := by decide +kernel
theorem dX13_readLabel_17 : decode cX13_readLabel 17 = .ok (.aload_n 0, 1) := by decide +kernel
theorem dX13_readLabel_18 : decode cX13_readLabel 18 = .ok (.getfield 206, 3) := by decide +kernel
theorem dX13_readLabel_21 : decode cX13_readLabel 21 = .ok (.isub, 1) := by decide +kernel
theorem dX13_readLabel_22 : decode cX13_readLabel 22 = .ok (.invokevirtual 274, 3) := by decide +kernel
theorem dX13_readLabel_25 : decode cX13_readLabel 25 = .ok (.iconst (-1), 1) := by decide +kernel
theorem dX13_readLabel_26 : decode cX13_readLabel 26 = .ok (.if_icmp .eq 8, 3) := by decide +kernel
theorem dX13_readLabel_29 : decode cX13_readLabel 29 = .ok (.aload_n 0, 1) := by decide +kernel
theorem dX13_readLabel_30 : decode cX13_readLabel 30 = .ok (.iconst 4, 1) := by decide +kernel
theorem dX13_readLabel_31 : decode cX13_readLabel 31 = .ok (.invokevirtual 255, 3) := by decide +kernel
theorem dX13_readLabel_34 : decode cX13_readLabel 34 = .ok (.aload_n 0, 1) := by decide +kernel
theorem dX13_readLabel_35 : decode cX13_readLabel 35 = .ok (.getfield 114, 3) := by decide +kernel
theorem dX13_readLabel_38 : decode cX13_readLabel 38 = .ok (.aload_n 0, 1) := by decide +kernel
theorem dX13_readLabel_39 : decode cX13_readLabel 39 = .ok (.getfield 259, 3) := by decide +kernel
theorem dX13_readLabel_42 : decode cX13_readLabel 42 = .ok (.aload_n 0, 1) := by decide +kernel
theorem dX13_readLabel_43 : decode cX13_readLabel 43 = .ok (.getfield 206, 3) := by decide +kernel
theorem dX13_readLabel_46 : decode cX13_readLabel 46 = .ok (.iastore, 1) := by decide +kernel
theorem dX13_readLabel_47 : decode cX13_readLabel 47 = .ok (.aload_n 0, 1) := by decide +kernel
theorem dX13_readLabel_48 : decode cX13_readLabel 48 = .ok (.getfield 117, 3) := by decide +kernel
theorem dX13_readLabel_51 : decode cX13_readLabel 51 = .ok (.aload_n 0, 1) := by decide +kernel
theorem dX13_readLabel_52 : decode cX13_readLabel 52 = .ok (.getfield 259, 3) := by decide +kernel
theorem dX13_readLabel_55 : decode cX13_readLabel 55 = .ok (.aload_n 0, 1) := by decide +kernel
theorem dX13_readLabel_56 : decode cX13_readLabel 56 = .ok (.getfield 228, 3) := by decide +kernel
theorem dX13_readLabel_59 : decode cX13_readLabel 59 = .ok (.aload_n 0, 1) := by decide +kernel
theorem dX13_readLabel_60 : decode cX13_readLabel 60 = .ok (.getfield 206, 3) := by decide +kernel
theorem dX13_readLabel_63 : decode cX13_readLabel 63 = .ok (.isub, 1) := by decide +kernel
theorem dX13_readLabel_64 : decode cX13_readLabel 64 = .ok (.iastore, 1) := by decide +kernel
theorem dX13_readLabel_65 : decode cX13_readLabel 65 = .ok (.aload_n 0, 1) := by decide +kernel
theorem dX13_readLabel_66 : decode cX13_readLabel 66 = .ok (.getfield 231, 3) := by decide +kernel
theorem dX13_readLabel_69 : decode cX13_readLabel 69 = .ok (.ifCond .ne 7, 3) := by decide +kernel
theorem dX13_readLabel_72 : decode cX13_readLabel 72 = .ok (.aload_n 0, 1) := by decide +kernel
theorem dX13_readLabel_73 : decode cX13_readLabel 73 = .ok (.invokevirtual 252, 3) := by decide +kernel
theorem dX13_readLabel_76 : decode cX13_readLabel 76 = .ok (.aload_n 0, 1) := by decide +kernel
theorem dX13_readLabel_77 : decode cX13_readLabel 77 = .ok (.bipush 58, 2) := by decide +kernel
theorem dX13_readLabel_79 : decode cX13_readLabel 79 = .ok (.invokevirtual 277, 3) := by decide +kernel
theorem dX13_readLabel_82 : decode cX13_readLabel 82 = .ok (.return_, 1) := by decide +kernel
theorem dX13_readTarget_0 : decode cX13_readTarget 0 = .ok (.aload_n 0, 1) := by decide +kernel
theorem dX13_readTarget_1 : decode cX13_readTarget 1 = .ok (.invokevirtual 270, 3) := by decide +kernel
theorem dX13_readTarget_4 : decode cX13_readTarget 4 = .ok (.ifCond .ne 4, 3) := by decide +kernel
theorem dX13_readTarget_7 : decode cX13_readTarget 7 = .ok (.return_, 1) := by decide +kernel
theorem dX13_readTarget_8 : decode cX13_readTarget 8 = .ok (.aload_n 0, 1) := by decide +kernel
theorem dX13_readTarget_9 : decode cX13_readTarget 9 = .ok (.getfield 120, 3) := by decide +kernel
theorem dX13_readTarget_12 : decode cX13_readTarget 12 = .ok (.aload_n 0, 1) := by decide +kernel
theorem dX13_readTarget_13 : decode cX13_readTarget 13 = .ok (.getfield 259, 3) := by decide +kernel
theorem dX13_readTarget_16 : decode cX13_readTarget 16 = .ok (.aload_n 0, 1) := by decide +kernel
theorem dX13_readTarget_17 : decode cX13_readTarget 17 = .ok (.getfield 206, 3) := by decide +kernel
theorem dX13_readTarget_20 : decode cX13_readTarget 20 = .ok (.iastore, 1) := by decide +kernel
theorem dX13_readTarget_21 : decode cX13_readTarget 21 = .ok (.aload_n 0, 1) := by decide +kernel
theorem dX13_readTarget_22 : decode cX13_readTarget 22 = .ok (.getfield 123, 3) := by decide +kernel
theorem dX13_readTarget_25 : decode cX13_readTarget 25 = .ok (.aload_n 0, 1) := by decide +kernel
theorem dX13_readTarget_26 : decode cX13_readTarget 26 = .ok (.getfield 259, 3) := by decide +kernel
theorem dX13_readTarget_29 : decode cX13_readTarget 29 = .ok (.aload_n 0, 1) := by decide +kernel
theorem dX13_readTarget_30 : decode cX13_readTarget 30 = .ok (.getfield 228, 3) := by decide +kernel
theorem dX13_readTarget_33 : decode cX13_readTarget 33 = .ok (.aload_n 0, 1) := by decide +kernel
theorem dX13_readTarget_34 : decode cX13_readTarget 34 = .ok (.getfield 206, 3) := by decide +kernel
theorem dX13_readTarget_37 : decode cX13_readTarget 37 = .ok (.isub, 1) := by decide +kernel
theorem dX13_readTarget_38 : decode cX13_readTarget 38 = .ok (.iastore, 1) := by decide +kernel
