theorem dX5_init_0 : decode cX5_init 0 = .ok (.aload_n 0, 1) := by decide +kernel
theorem dX5_init_1 : decode cX5_init 1 = .ok (.invokespecial 3, 3) := by decide +kernel
theorem dX5_init_4 : decode cX5_init 4 = .ok (.aload_n 0, 1) := by decide +kernel
theorem dX5_init_5 : decode cX5_init 5 = .ok (.getstatic 9, 3) := by decide +kernel
theorem dX5_init_8 : decode cX5_init 8 = .ok (.putfield 15, 3) := by decide +kernel
theorem dX5_init_11 : decode cX5_init 11 = .ok (.return_, 1) := by decide +kernel
theorem dX5_renew_0 : decode cX5_renew 0 = .ok (.aload_n 0, 1) := by decide +kernel
theorem dX5_renew_1 : decode cX5_renew 1 = .ok (.aload_n 1, 1) := by decide +kernel
theorem dX5_renew_2 : decode cX5_renew 2 = .ok (.putfield 15, 3) := by decide +kernel
theorem dX5_renew_5 : decode cX5_renew 5 = .ok (.aload_n 0, 1) := by decide +kernel
theorem dX5_renew_6 : decode cX5_renew 6 = .ok (.iconst 0, 1) := by decide +kernel
theorem dX5_renew_7 : decode cX5_renew 7 = .ok (.putfield 20, 3) := by decide +kernel
theorem dX5_renew_10 : decode cX5_renew 10 = .ok (.aload_n 0, 1) := by decide +kernel
theorem dX5_renew_11 : decode cX5_renew 11 = .ok (.iconst (-1), 1) := by decide +kernel
theorem dX5_renew_12 : decode cX5_renew 12 = .ok (.putfield 24, 3) := by decide +kernel
theorem dX5_renew_15 : decode cX5_renew 15 = .ok (.aload_n 0, 1) := by decide +kernel
theorem dX5_renew_16 : decode cX5_renew 16 = .ok (.iconst 0, 1) := by decide +kernel
theorem dX5_renew_17 : decode cX5_renew 17 = .ok (.putfield 27, 3) := by decide +kernel
theorem dX5_renew_20 : decode cX5_renew 20 = .ok (.aload_n 0, 1) := by decide +kernel
theorem dX5_renew_21 : decode cX5_renew 21 = .ok (.iconst 0, 1) := by decide +kernel
theorem dX5_renew_22 : decode cX5_renew 22 = .ok (.putfield 30, 3) := by decide +kernel
theorem dX5_renew_25 : decode cX5_renew 25 = .ok (.aload_n 0, 1) := by decide +kernel
theorem dX5_renew_26 : decode cX5_renew 26 = .ok (.iconst (-1), 1) := by decide +kernel
theorem dX5_renew_27 : decode cX5_renew 27 = .ok (.putfield 33, 3) := by decide +kernel
theorem dX5_renew_30 : decode cX5_renew 30 = .ok (.aload_n 0, 1) := by decide +kernel
theorem dX5_renew_31 : decode cX5_renew 31 = .ok (.iconst 0, 1) := by decide +kernel
theorem dX5_renew_32 : decode cX5_renew 32 = .ok (.putfield 36, 3) := by decide +kernel
theorem dX5_renew_35 : decode cX5_renew 35 = .ok (.aload_n 0, 1) := by decide +kernel
theorem dX5_renew_36 : decode cX5_renew 36 = .ok (.iconst 0, 1) := by decide +kernel
theorem dX5_renew_37 : decode cX5_renew 37 = .ok (.putfield 39, 3) := by decide +kernel
theorem dX5_renew_40 : decode cX5_renew 40 = .ok (.aload_n 0, 1) := by decide +kernel
theorem dX5_renew_41 : decode cX5_renew 41 = .ok (.iconst 0, 1) := by decide +kernel
theorem dX5_renew_42 : decode cX5_renew 42 = .ok (.putfield 42, 3) := by decide +kernel
theorem dX5_renew_45 : decode cX5_renew 45 = .ok (.aload_n 0, 1) := by decide +kernel
theorem dX5_renew_46 : decode cX5_renew 46 = .ok (.iconst 0, 1) := by decide +kernel
theorem dX5_renew_47 : decode cX5_renew 47 = .ok (.putfield 45, 3) := by decide +kernel
theorem dX5_renew_50 : decode cX5_renew 50 = .ok (.aload_n 0, 1) := by decide +kernel
theorem dX5_renew_51 : decode cX5_renew 51 = .ok (.iconst (-1), 1) := by decide +kernel
theorem dX5_renew_52 : decode cX5_renew 52 = .ok (.putfield 48, 3) := by decide +kernel
theorem dX5_renew_55 : decode cX5_renew 55 = .ok (.return_, 1) := by decide +kernel
theorem dX6_size_0 : decode cX6_size 0 = .ok (.aload_n 0, 1) := by decide +kernel
theorem dX6_size_1 : decode cX6_size 1 = .ok (.getfield 21, 3) := by decide +kernel
theorem dX6_size_4 : decode cX6_size 4 = .ok (.ireturn, 1) := by decide +kernel
theorem dX6_clear_0 : decode cX6_clear 0 = .ok (.aload_n 0, 1) := by decide +kernel
theorem dX6_clear_1 : decode cX6_clear 1 = .ok (.iconst 0, 1) := by decide +kernel
theorem dX6_clear_2 : decode cX6_clear 2 = .ok (.putfield 21, 3) := by decide +kernel
theorem dX6_clear_5 : decode cX6_clear 5 = .ok (.iconst 0, 1) := by decide +kernel
theorem dX6_clear_6 : decode cX6_clear 6 = .ok (.istore_n 1, 1) := by decide +kernel
theorem dX6_clear_7 : decode cX6_clear 7 = .ok (.iload_n 1, 1) := by decide +kernel
theorem dX6_clear_8 : decode cX6_clear 8 = .ok (.aload_n 0, 1) := by decide +kernel
theorem dX6_clear_9 : decode cX6_clear 9 = .ok (.getfield 17, 3) := by decide +kernel
theorem dX6_clear_12 : decode cX6_clear 12 = .ok (.arraylength, 1) := by decide +kernel
theorem dX6_clear_13 : decode cX6_clear 13 = .ok (.if_icmp .ge 16, 3) := by decide +kernel
theorem dX6_clear_16 : decode cX6_clear 16 = .ok (.aload_n 0, 1) := by decide +kernel
theorem dX6_clear_17 : decode cX6_clear 17 = .ok (.getfield 17, 3) := by decide +kernel
theorem dX6_clear_20 : decode cX6_clear 20 = .ok (.iload_n 1, 1) := by decide +kernel
theorem dX6_clear_21 : decode cX6_clear 21 = .ok (.iconst 0, 1) := by decide +kernel
theorem dX6_clear_22 : decode cX6_clear 22 = .ok (.iastore, 1) := by decide +kernel
theorem dX6_clear_23 : decode cX6_clear 23 = .ok (.iinc 1 1, 3) := by decide +kernel
theorem dX6_clear_26 : decode cX6_clear 26 = .ok (.goto (-19), 3) := by decide +kernel
theorem dX6_clear_29 : decode cX6_clear 29 = .ok (.return_, 1) := by decide +kernel
theorem dX6_told_0 : decode cX6_told 0 = .ok (.iload_n 1, 1) := by decide +kernel
theorem dX6_told_1 : decode cX6_told 1 = .ok (.ifCond .lt 20, 3) := by decide +kernel
theorem dX6_told_4 : decode cX6_told 4 = .ok (.iload_n 1, 1) := by decide +kernel
theorem dX6_told_5 : decode cX6_told 5 = .ok (.aload_n 0, 1) := by decide +kernel
theorem dX6_told_6 : decode cX6_told 6 = .ok (.getfield 21, 3) := by decide +kernel
theorem dX6_told_9 : decode cX6_told 9 = .ok (.if_icmp .ge 12, 3) := by decide +kernel
theorem dX6_told_12 : decode cX6_told 12 = .ok (.aload_n 0, 1) := by decide +kernel
theorem dX6_told_13 : decode cX6_told 13 = .ok (.getfield 11, 3) := by decide +kernel
theorem dX6_told_16 : decode cX6_told 16 = .ok (.iload_n 1, 1) := by decide +kernel
theorem dX6_told_17 : decode cX6_told 17 = .ok (.aaload, 1) := by decide +kernel
theorem dX6_told_18 : decode cX6_told 18 = .ok (.goto 4, 3) := by decide +kernel
theorem dX6_told_21 : decode cX6_told 21 = .ok (.aconst_null, 1) := by decide +kernel
theorem dX6_told_22 : decode cX6_told 22 = .ok (.areturn, 1) := by decide +kernel
theorem dX6_laidAt_0 : decode cX6_laidAt 0 = .ok (.iload_n 1, 1) := by decide +kernel
theorem dX6_laidAt_1 : decode cX6_laidAt 1 = .ok (.invokestatic 30, 3) := by decide +kernel
theorem dX6_laidAt_4 : decode cX6_laidAt 4 = .ok (.ifCond .eq 12, 3) := by decide +kernel
theorem dX6_laidAt_7 : decode cX6_laidAt 7 = .ok (.aload_n 0, 1) := by decide +kernel
theorem dX6_laidAt_8 : decode cX6_laidAt 8 = .ok (.getfield 17, 3) := by decide +kernel
theorem dX6_laidAt_11 : decode cX6_laidAt 11 = .ok (.iload_n 1, 1) := by decide +kernel
theorem dX6_laidAt_12 : decode cX6_laidAt 12 = .ok (.iaload, 1) := by decide +kernel
theorem dX6_laidAt_13 : decode cX6_laidAt 13 = .ok (.goto 4, 3) := by decide +kernel
theorem dX6_laidAt_16 : decode cX6_laidAt 16 = .ok (.iconst 0, 1) := by decide +kernel
theorem dX6_laidAt_17 : decode cX6_laidAt 17 = .ok (.ireturn, 1) := by decide +kernel
theorem dX6_layHalf_0 : decode cX6_layHalf 0 = .ok (.iload_n 1, 1) := by decide +kernel
theorem dX6_layHalf_1 : decode cX6_layHalf 1 = .ok (.iconst 1, 1) := by decide +kernel
theorem dX6_layHalf_2 : decode cX6_layHalf 2 = .ok (.ishr, 1) := by decide +kernel
theorem dX6_layHalf_3 : decode cX6_layHalf 3 = .ok (.istore_n 3, 1) := by decide +kernel
theorem dX6_layHalf_4 : decode cX6_layHalf 4 = .ok (.iload_n 3, 1) := by decide +kernel
theorem dX6_layHalf_5 : decode cX6_layHalf 5 = .ok (.invokestatic 30, 3) := by decide +kernel
theorem dX6_layHalf_8 : decode cX6_layHalf 8 = .ok (.ifCond .eq 22, 3) := by decide +kernel
theorem dX6_layHalf_11 : decode cX6_layHalf 11 = .ok (.aload_n 0, 1) := by decide +kernel
theorem dX6_layHalf_12 : decode cX6_layHalf 12 = .ok (.getfield 17, 3) := by decide +kernel
theorem dX6_layHalf_15 : decode cX6_layHalf 15 = .ok (.iload_n 3, 1) := by decide +kernel
theorem dX6_layHalf_16 : decode cX6_layHalf 16 = .ok (.aload_n 0, 1) := by decide +kernel
theorem dX6_layHalf_17 : decode cX6_layHalf 17 = .ok (.getfield 17, 3) := by decide +kernel
theorem dX6_layHalf_20 : decode cX6_layHalf 20 = .ok (.iload_n 3, 1) := by decide +kernel
theorem dX6_layHalf_21 : decode cX6_layHalf 21 = .ok (.iaload, 1) := by decide +kernel
theorem dX6_layHalf_22 : decode cX6_layHalf 22 = .ok (.iload_n 1, 1) := by decide +kernel
theorem dX6_layHalf_23 : decode cX6_layHalf 23 = .ok (.iconst 1, 1) := by decide +kernel
theorem dX6_layHalf_24 : decode cX6_layHalf 24 = .ok (.iand, 1) := by decide +kernel
theorem dX6_layHalf_25 : decode cX6_layHalf 25 = .ok (.iload_n 2, 1) := by decide +kernel
theorem dX6_layHalf_26 : decode cX6_layHalf 26 = .ok (.invokestatic 34, 3) := by decide +kernel
theorem dX6_layHalf_29 : decode cX6_layHalf 29 = .ok (.iastore, 1) := by decide +kernel
theorem dX6_layHalf_30 : decode cX6_layHalf 30 = .ok (.return_, 1) := by decide +kernel
theorem dX10_isPlace_0 : decode cX10_isPlace 0 = .ok (.iload_n 0, 1) := by decide +kernel
theorem dX10_isPlace_1 : decode cX10_isPlace 1 = .ok (.ifCond .lt 14, 3) := by decide +kernel
theorem dX10_isPlace_4 : decode cX10_isPlace 4 = .ok (.iload_n 0, 1) := by decide +kernel
theorem dX10_isPlace_5 : decode cX10_isPlace 5 = .ok (.sipush 256, 3) := by decide +kernel
theorem dX10_isPlace_8 : decode cX10_isPlace 8 = .ok (.if_icmp .ge 7, 3) := by decide +kernel
theorem dX10_isPlace_11 : decode cX10_isPlace 11 = .ok (.iconst 1, 1) := by decide +kernel
theorem dX10_isPlace_12 : decode cX10_isPlace 12 = .ok (.goto 4, 3) := by decide +kernel
theorem dX10_isPlace_15 : decode cX10_isPlace 15 = .ok (.iconst 0, 1) := by decide +kernel
theorem dX10_isPlace_16 : decode cX10_isPlace 16 = .ok (.ireturn, 1) := by decide +kernel
theorem dX10_isByte_0 : decode cX10_isByte 0 = .ok (.iload_n 0, 1) := by decide +kernel
theorem dX10_isByte_1 : decode cX10_isByte 1 = .ok (.ifCond .lt 14, 3) := by decide +kernel
theorem dX10_isByte_4 : decode cX10_isByte 4 = .ok (.iload_n 0, 1) := by decide +kernel
theorem dX10_isByte_5 : decode cX10_isByte 5 = .ok (.sipush 256, 3) := by decide +kernel
theorem dX10_isByte_8 : decode cX10_isByte 8 = .ok (.if_icmp .ge 7, 3) := by decide +kernel
theorem dX10_isByte_11 : decode cX10_isByte 11 = .ok (.iconst 1, 1) := by decide +kernel
theorem dX10_isByte_12 : decode cX10_isByte 12 = .ok (.goto 4, 3) := by decide +kernel
theorem dX10_isByte_15 : decode cX10_isByte 15 = .ok (.iconst 0, 1) := by decide +kernel
theorem dX10_isByte_16 : decode cX10_isByte 16 = .ok (.ireturn, 1) := by decide +kernel
theorem dX10_isField_0 : decode cX10_isField 0 = .ok (.iload_n 1, 1) := by decide +kernel
theorem dX10_isField_1 : decode cX10_isField 1 = .ok (.ifCond .lt 27, 3) := by decide +kernel
theorem dX10_isField_4 : decode cX10_isField 4 = .ok (.iload_n 1, 1) := by decide +kernel
theorem dX10_isField_5 : decode cX10_isField 5 = .ok (.sipush 256, 3) := by decide +kernel
theorem dX10_isField_8 : decode cX10_isField 8 = .ok (.if_icmp .gt 20, 3) := by decide +kernel
theorem dX10_isField_11 : decode cX10_isField 11 = .ok (.iload_n 0, 1) := by decide +kernel
theorem dX10_isField_12 : decode cX10_isField 12 = .ok (.ifCond .lt 16, 3) := by decide +kernel
theorem dX10_isField_15 : decode cX10_isField 15 = .ok (.iload_n 0, 1) := by decide +kernel
theorem dX10_isField_16 : decode cX10_isField 16 = .ok (.sipush 256, 3) := by decide +kernel
theorem dX10_isField_19 : decode cX10_isField 19 = .ok (.iload_n 1, 1) := by decide +kernel
theorem dX10_isField_20 : decode cX10_isField 20 = .ok (.isub, 1) := by decide +kernel
theorem dX10_isField_21 : decode cX10_isField 21 = .ok (.if_icmp .gt 7, 3) := by decide +kernel
theorem dX10_isField_24 : decode cX10_isField 24 = .ok (.iconst 1, 1) := by decide +kernel
theorem dX10_isField_25 : decode cX10_isField 25 = .ok (.goto 4, 3) := by decide +kernel
theorem dX10_isField_28 : decode cX10_isField 28 = .ok (.iconst 0, 1) := by decide +kernel
theorem dX10_isField_29 : decode cX10_isField 29 = .ok (.ireturn, 1) := by decide +kernel
theorem dX10_withHalf_0 : decode cX10_withHalf 0 = .ok (.iload_n 1, 1) := by decide +kernel
theorem dX10_withHalf_1 : decode cX10_withHalf 1 = .ok (.ifCond .ne 14, 3) := by decide +kernel
theorem dX10_withHalf_4 : decode cX10_withHalf 4 = .ok (.iload_n 2, 1) := by decide +kernel
theorem dX10_withHalf_5 : decode cX10_withHalf 5 = .ok (.iconst 4, 1) := by decide +kernel
theorem dX10_withHalf_6 : decode cX10_withHalf 6 = .ok (.ishl, 1) := by decide +kernel
theorem dX10_withHalf_7 : decode cX10_withHalf 7 = .ok (.iload_n 0, 1) := by decide +kernel
theorem dX10_withHalf_8 : decode cX10_withHalf 8 = .ok (.bipush 15, 2) := by decide +kernel
theorem dX10_withHalf_10 : decode cX10_withHalf 10 = .ok (.iand, 1) := by decide +kernel
theorem dX10_withHalf_11 : decode cX10_withHalf 11 = .ok (.ior, 1) := by decide +kernel
theorem dX10_withHalf_12 : decode cX10_withHalf 12 = .ok (.goto 10, 3) := by decide +kernel
theorem dX10_withHalf_15 : decode cX10_withHalf 15 = .ok (.iload_n 0, 1) := by decide +kernel
theorem dX10_withHalf_16 : decode cX10_withHalf 16 = .ok (.sipush 240, 3) := by decide +kernel
theorem dX10_withHalf_19 : decode cX10_withHalf 19 = .ok (.iand, 1) := by decide +kernel
theorem dX10_withHalf_20 : decode cX10_withHalf 20 = .ok (.iload_n 2, 1) := by decide +kernel
theorem dX10_withHalf_21 : decode cX10_withHalf 21 = .ok (.ior, 1) := by decide +kernel
theorem dX10_withHalf_22 : decode cX10_withHalf 22 = .ok (.ireturn, 1) := by decide +kernel
theorem dX10_cell_0 : decode cX10_cell 0 = .ok (.iload_n 1, 1) := by decide +kernel
theorem dX10_cell_1 : decode cX10_cell 1 = .ok (.ifCond .lt 19, 3) := by decide +kernel
theorem dX10_cell_4 : decode cX10_cell 4 = .ok (.iload_n 1, 1) := by decide +kernel
theorem dX10_cell_5 : decode cX10_cell 5 = .ok (.sipush 411, 3) := by decide +kernel
theorem dX10_cell_8 : decode cX10_cell 8 = .ok (.if_icmp .ge 12, 3) := by decide +kernel
theorem dX10_cell_11 : decode cX10_cell 11 = .ok (.aload_n 0, 1) := by decide +kernel
theorem dX10_cell_12 : decode cX10_cell 12 = .ok (.getfield 13, 3) := by decide +kernel
theorem dX10_cell_15 : decode cX10_cell 15 = .ok (.iload_n 1, 1) := by decide +kernel
theorem dX10_cell_16 : decode cX10_cell 16 = .ok (.iaload, 1) := by decide +kernel
theorem dX10_cell_17 : decode cX10_cell 17 = .ok (.goto 4, 3) := by decide +kernel
theorem dX10_cell_20 : decode cX10_cell 20 = .ok (.iconst 0, 1) := by decide +kernel
theorem dX10_cell_21 : decode cX10_cell 21 = .ok (.ireturn, 1) := by decide +kernel
theorem dX10_put_0 : decode cX10_put 0 = .ok (.iload_n 1, 1) := by decide +kernel
theorem dX10_put_1 : decode cX10_put 1 = .ok (.ifCond .lt 17, 3) := by decide +kernel
theorem dX10_put_4 : decode cX10_put 4 = .ok (.iload_n 1, 1) := by decide +kernel
theorem dX10_put_5 : decode cX10_put 5 = .ok (.sipush 411, 3) := by decide +kernel
theorem dX10_put_8 : decode cX10_put 8 = .ok (.if_icmp .ge 10, 3) := by decide +kernel
theorem dX10_put_11 : decode cX10_put 11 = .ok (.aload_n 0, 1) := by decide +kernel
theorem dX10_put_12 : decode cX10_put 12 = .ok (.getfield 13, 3) := by decide +kernel
theorem dX10_put_15 : decode cX10_put 15 = .ok (.iload_n 1, 1) := by decide +kernel
theorem dX10_put_16 : decode cX10_put 16 = .ok (.iload_n 2, 1) := by decide +kernel
theorem dX10_put_17 : decode cX10_put 17 = .ok (.iastore, 1) := by decide +kernel
theorem dX10_put_18 : decode cX10_put 18 = .ok (.return_, 1) := by decide +kernel
theorem dX10_running_0 : decode cX10_running 0 = .ok (.aload_n 0, 1) := by decide +kernel
theorem dX10_running_1 : decode cX10_running 1 = .ok (.getfield 13, 3) := by decide +kernel
theorem dX10_running_4 : decode cX10_running 4 = .ok (.sipush 267, 3) := by decide +kernel
theorem dX10_running_7 : decode cX10_running 7 = .ok (.iaload, 1) := by decide +kernel
theorem dX10_running_8 : decode cX10_running 8 = .ok (.ifCond .ne 7, 3) := by decide +kernel
theorem dX10_running_11 : decode cX10_running 11 = .ok (.iconst 1, 1) := by decide +kernel
theorem dX10_running_12 : decode cX10_running 12 = .ok (.goto 4, 3) := by decide +kernel
theorem dX10_running_15 : decode cX10_running 15 = .ok (.iconst 0, 1) := by decide +kernel
theorem dX10_running_16 : decode cX10_running 16 = .ok (.ireturn, 1) := by decide +kernel
theorem dX10_half_0 : decode cX10_half 0 = .ok (.iload_n 1, 1) := by decide +kernel
theorem dX10_half_1 : decode cX10_half 1 = .ok (.iconst 1, 1) := by decide +kernel
theorem dX10_half_2 : decode cX10_half 2 = .ok (.ishr, 1) := by decide +kernel
theorem dX10_half_3 : decode cX10_half 3 = .ok (.istore_n 2, 1) := by decide +kernel
theorem dX10_half_4 : decode cX10_half 4 = .ok (.iload_n 2, 1) := by decide +kernel
theorem dX10_half_5 : decode cX10_half 5 = .ok (.ifCond .lt 10, 3) := by decide +kernel
theorem dX10_half_8 : decode cX10_half 8 = .ok (.iload_n 2, 1) := by decide +kernel
theorem dX10_half_9 : decode cX10_half 9 = .ok (.sipush 256, 3) := by decide +kernel
theorem dX10_half_12 : decode cX10_half 12 = .ok (.if_icmp .lt 7, 3) := by decide +kernel
theorem dX10_half_15 : decode cX10_half 15 = .ok (.iconst 0, 1) := by decide +kernel
theorem dX10_half_16 : decode cX10_half 16 = .ok (.goto 24, 3) := by decide +kernel
theorem dX10_half_19 : decode cX10_half 19 = .ok (.aload_n 0, 1) := by decide +kernel
theorem dX10_half_20 : decode cX10_half 20 = .ok (.getfield 13, 3) := by decide +kernel
theorem dX10_half_23 : decode cX10_half 23 = .ok (.iload_n 2, 1) := by decide +kernel
theorem dX10_half_24 : decode cX10_half 24 = .ok (.iaload, 1) := by decide +kernel
theorem dX10_half_25 : decode cX10_half 25 = .ok (.iload_n 1, 1) := by decide +kernel
theorem dX10_half_26 : decode cX10_half 26 = .ok (.iconst 1, 1) := by decide +kernel
theorem dX10_half_27 : decode cX10_half 27 = .ok (.iand, 1) := by decide +kernel
theorem dX10_half_28 : decode cX10_half 28 = .ok (.ifCond .ne 7, 3) := by decide +kernel
theorem dX10_half_31 : decode cX10_half 31 = .ok (.iconst 4, 1) := by decide +kernel
theorem dX10_half_32 : decode cX10_half 32 = .ok (.goto 4, 3) := by decide +kernel
theorem dX10_half_35 : decode cX10_half 35 = .ok (.iconst 0, 1) := by decide +kernel
theorem dX10_half_36 : decode cX10_half 36 = .ok (.ishr, 1) := by decide +kernel
theorem dX10_half_37 : decode cX10_half 37 = .ok (.bipush 15, 2) := by decide +kernel
theorem dX10_half_39 : decode cX10_half 39 = .ok (.iand, 1) := by decide +kernel
theorem dX10_half_40 : decode cX10_half 40 = .ok (.ireturn, 1) := by decide +kernel
theorem dX10_putHalf_0 : decode cX10_putHalf 0 = .ok (.iload_n 1, 1) := by decide +kernel
theorem dX10_putHalf_1 : decode cX10_putHalf 1 = .ok (.iconst 1, 1) := by decide +kernel
theorem dX10_putHalf_2 : decode cX10_putHalf 2 = .ok (.ishr, 1) := by decide +kernel
theorem dX10_putHalf_3 : decode cX10_putHalf 3 = .ok (.istore_n 3, 1) := by decide +kernel
theorem dX10_putHalf_4 : decode cX10_putHalf 4 = .ok (.iload_n 3, 1) := by decide +kernel
theorem dX10_putHalf_5 : decode cX10_putHalf 5 = .ok (.ifCond .lt 29, 3) := by decide +kernel
theorem dX10_putHalf_8 : decode cX10_putHalf 8 = .ok (.iload_n 3, 1) := by decide +kernel
theorem dX10_putHalf_9 : decode cX10_putHalf 9 = .ok (.sipush 256, 3) := by decide +kernel
theorem dX10_putHalf_12 : decode cX10_putHalf 12 = .ok (.if_icmp .ge 22, 3) := by decide +kernel
theorem dX10_putHalf_15 : decode cX10_putHalf 15 = .ok (.aload_n 0, 1) := by decide +kernel
theorem dX10_putHalf_16 : decode cX10_putHalf 16 = .ok (.getfield 13, 3) := by decide +kernel
theorem dX10_putHalf_19 : decode cX10_putHalf 19 = .ok (.iload_n 3, 1) := by decide +kernel
theorem dX10_putHalf_20 : decode cX10_putHalf 20 = .ok (.aload_n 0, 1) := by decide +kernel
theorem dX10_putHalf_21 : decode cX10_putHalf 21 = .ok (.getfield 13, 3) := by decide +kernel
theorem dX10_putHalf_24 : decode cX10_putHalf 24 = .ok (.iload_n 3, 1) := by decide +kernel
theorem dX10_putHalf_25 : decode cX10_putHalf 25 = .ok (.iaload, 1) := by decide +kernel
theorem dX10_putHalf_26 : decode cX10_putHalf 26 = .ok (.iload_n 1, 1) := by decide +kernel
theorem dX10_putHalf_27 : decode cX10_putHalf 27 = .ok (.iconst 1, 1) := by decide +kernel
theorem dX10_putHalf_28 : decode cX10_putHalf 28 = .ok (.iand, 1) := by decide +kernel
theorem dX10_putHalf_29 : decode cX10_putHalf 29 = .ok (.iload_n 2, 1) := by decide +kernel
theorem dX10_putHalf_30 : decode cX10_putHalf 30 = .ok (.invokestatic 20, 3) := by decide +kernel
theorem dX10_putHalf_33 : decode cX10_putHalf 33 = .ok (.iastore, 1) := by decide +kernel
theorem dX10_putHalf_34 : decode cX10_putHalf 34 = .ok (.return_, 1) := by decide +kernel
theorem dX10_firstFlaw_0 : decode cX10_firstFlaw 0 = .ok (.iconst 2, 1) := by decide +kernel
theorem dX10_firstFlaw_1 : decode cX10_firstFlaw 1 = .ok (.iload_n 1, 1) := by decide +kernel
theorem dX10_firstFlaw_2 : decode cX10_firstFlaw 2 = .ok (.iload_n 2, 1) := by decide +kernel
theorem dX10_firstFlaw_3 : decode cX10_firstFlaw 3 = .ok (.iadd, 1) := by decide +kernel
theorem dX10_firstFlaw_4 : decode cX10_firstFlaw 4 = .ok (.imul, 1) := by decide +kernel
theorem dX10_firstFlaw_5 : decode cX10_firstFlaw 5 = .ok (.iconst 1, 1) := by decide +kernel
theorem dX10_firstFlaw_6 : decode cX10_firstFlaw 6 = .ok (.isub, 1) := by decide +kernel
theorem dX10_firstFlaw_7 : decode cX10_firstFlaw 7 = .ok (.istore 5, 2) := by decide +kernel
theorem dX10_firstFlaw_9 : decode cX10_firstFlaw 9 = .ok (.iload_n 3, 1) := by decide +kernel
theorem dX10_firstFlaw_10 : decode cX10_firstFlaw 10 = .ok (.ifCond .eq 10, 3) := by decide +kernel
theorem dX10_firstFlaw_13 : decode cX10_firstFlaw 13 = .ok (.iload 5, 2) := by decide +kernel
theorem dX10_firstFlaw_15 : decode cX10_firstFlaw 15 = .ok (.iconst 1, 1) := by decide +kernel
theorem dX10_firstFlaw_16 : decode cX10_firstFlaw 16 = .ok (.isub, 1) := by decide +kernel
theorem dX10_firstFlaw_17 : decode cX10_firstFlaw 17 = .ok (.goto 5, 3) := by decide +kernel
theorem dX10_firstFlaw_20 : decode cX10_firstFlaw 20 = .ok (.iload 5, 2) := by decide +kernel
theorem dX10_firstFlaw_22 : decode cX10_firstFlaw 22 = .ok (.istore 6, 2) := by decide +kernel
theorem dX10_firstFlaw_24 : decode cX10_firstFlaw 24 = .ok (.iload 4, 2) := by decide +kernel
theorem dX10_firstFlaw_26 : decode cX10_firstFlaw 26 = .ok (.iconst 0, 1) := by decide +kernel
theorem dX10_firstFlaw_27 : decode cX10_firstFlaw 27 = .ok (.invokestatic 24, 3) := by decide +kernel
theorem dX10_firstFlaw_30 : decode cX10_firstFlaw 30 = .ok (.istore 7, 2) := by decide +kernel
theorem dX10_firstFlaw_32 : decode cX10_firstFlaw 32 = .ok (.iload 7, 2) := by decide +kernel
theorem dX10_firstFlaw_34 : decode cX10_firstFlaw 34 = .ok (.iload 5, 2) := by decide +kernel
theorem dX10_firstFlaw_36 : decode cX10_firstFlaw 36 = .ok (.if_icmp .gt 115, 3) := by decide +kernel
theorem dX10_firstFlaw_39 : decode cX10_firstFlaw 39 = .ok (.iload 7, 2) := by decide +kernel
theorem dX10_firstFlaw_41 : decode cX10_firstFlaw 41 = .ok (.sipush 512, 3) := by decide +kernel
theorem dX10_firstFlaw_44 : decode cX10_firstFlaw 44 = .ok (.if_icmp .ge 107, 3) := by decide +kernel
theorem dX10_firstFlaw_47 : decode cX10_firstFlaw 47 = .ok (.aload_n 0, 1) := by decide +kernel
theorem dX10_firstFlaw_48 : decode cX10_firstFlaw 48 = .ok (.getfield 13, 3) := by decide +kernel
theorem dX10_firstFlaw_51 : decode cX10_firstFlaw 51 = .ok (.iload 7, 2) := by decide +kernel
theorem dX10_firstFlaw_53 : decode cX10_firstFlaw 53 = .ok (.iconst 1, 1) := by decide +kernel
theorem dX10_firstFlaw_54 : decode cX10_firstFlaw 54 = .ok (.ishr, 1) := by decide +kernel
theorem dX10_firstFlaw_55 : decode cX10_firstFlaw 55 = .ok (.iaload, 1) := by decide +kernel
theorem dX10_firstFlaw_56 : decode cX10_firstFlaw 56 = .ok (.iload 7, 2) := by decide +kernel
theorem dX10_firstFlaw_58 : decode cX10_firstFlaw 58 = .ok (.iconst 1, 1) := by decide +kernel
theorem dX10_firstFlaw_59 : decode cX10_firstFlaw 59 = .ok (.iand, 1) := by decide +kernel
theorem dX10_firstFlaw_60 : decode cX10_firstFlaw 60 = .ok (.ifCond .ne 7, 3) := by decide +kernel
theorem dX10_firstFlaw_63 : decode cX10_firstFlaw 63 = .ok (.iconst 4, 1) := by decide +kernel
theorem dX10_firstFlaw_64 : decode cX10_firstFlaw 64 = .ok (.goto 4, 3) := by decide +kernel
theorem dX10_firstFlaw_67 : decode cX10_firstFlaw 67 = .ok (.iconst 0, 1) := by decide +kernel
theorem dX10_firstFlaw_68 : decode cX10_firstFlaw 68 = .ok (.ishr, 1) := by decide +kernel
theorem dX10_firstFlaw_69 : decode cX10_firstFlaw 69 = .ok (.bipush 15, 2) := by decide +kernel
theorem dX10_firstFlaw_71 : decode cX10_firstFlaw 71 = .ok (.iand, 1) := by decide +kernel
theorem dX10_firstFlaw_72 : decode cX10_firstFlaw 72 = .ok (.istore 8, 2) := by decide +kernel
theorem dX10_firstFlaw_74 : decode cX10_firstFlaw 74 = .ok (.iload 8, 2) := by decide +kernel
theorem dX10_firstFlaw_76 : decode cX10_firstFlaw 76 = .ok (.bipush 10, 2) := by decide +kernel
theorem dX10_firstFlaw_78 : decode cX10_firstFlaw 78 = .ok (.if_icmp .ge 7, 3) := by decide +kernel
theorem dX10_firstFlaw_81 : decode cX10_firstFlaw 81 = .ok (.iconst 1, 1) := by decide +kernel
theorem dX10_firstFlaw_82 : decode cX10_firstFlaw 82 = .ok (.goto 4, 3) := by decide +kernel
theorem dX10_firstFlaw_85 : decode cX10_firstFlaw 85 = .ok (.iconst 0, 1) := by decide +kernel
theorem dX10_firstFlaw_86 : decode cX10_firstFlaw 86 = .ok (.istore 9, 2) := by decide +kernel
theorem dX10_firstFlaw_88 : decode cX10_firstFlaw 88 = .ok (.iload 7, 2) := by decide +kernel
theorem dX10_firstFlaw_90 : decode cX10_firstFlaw 90 = .ok (.iload 6, 2) := by decide +kernel
theorem dX10_firstFlaw_92 : decode cX10_firstFlaw 92 = .ok (.if_icmp .ne 20, 3) := by decide +kernel
theorem dX10_firstFlaw_95 : decode cX10_firstFlaw 95 = .ok (.iload 8, 2) := by decide +kernel
theorem dX10_firstFlaw_97 : decode cX10_firstFlaw 97 = .ok (.bipush 9, 2) := by decide +kernel
theorem dX10_firstFlaw_99 : decode cX10_firstFlaw 99 = .ok (.if_icmp .le 7, 3) := by decide +kernel
theorem dX10_firstFlaw_102 : decode cX10_firstFlaw 102 = .ok (.iconst 1, 1) := by decide +kernel
theorem dX10_firstFlaw_103 : decode cX10_firstFlaw 103 = .ok (.goto 4, 3) := by decide +kernel
theorem dX10_firstFlaw_106 : decode cX10_firstFlaw 106 = .ok (.iconst 0, 1) := by decide +kernel
theorem dX10_firstFlaw_107 : decode cX10_firstFlaw 107 = .ok (.istore 9, 2) := by decide +kernel
theorem dX10_firstFlaw_109 : decode cX10_firstFlaw 109 = .ok (.goto 28, 3) := by decide +kernel
theorem dX10_firstFlaw_112 : decode cX10_firstFlaw 112 = .ok (.iload_n 3, 1) := by decide +kernel
theorem dX10_firstFlaw_113 : decode cX10_firstFlaw 113 = .ok (.ifCond .eq 24, 3) := by decide +kernel
theorem dX10_firstFlaw_116 : decode cX10_firstFlaw 116 = .ok (.iload 7, 2) := by decide +kernel
theorem dX10_firstFlaw_118 : decode cX10_firstFlaw 118 = .ok (.iconst 1, 1) := by decide +kernel
theorem dX10_firstFlaw_119 : decode cX10_firstFlaw 119 = .ok (.iand, 1) := by decide +kernel
theorem dX10_firstFlaw_120 : decode cX10_firstFlaw 120 = .ok (.ifCond .ne 17, 3) := by decide +kernel
theorem dX10_firstFlaw_123 : decode cX10_firstFlaw 123 = .ok (.iload 8, 2) := by decide +kernel
theorem dX10_firstFlaw_125 : decode cX10_firstFlaw 125 = .ok (.bipush 15, 2) := by decide +kernel
theorem dX10_firstFlaw_127 : decode cX10_firstFlaw 127 = .ok (.if_icmp .ne 7, 3) := by decide +kernel
theorem dX10_firstFlaw_130 : decode cX10_firstFlaw 130 = .ok (.iconst 1, 1) := by decide +kernel
theorem dX10_firstFlaw_131 : decode cX10_firstFlaw 131 = .ok (.goto 4, 3) := by decide +kernel
theorem dX10_firstFlaw_134 : decode cX10_firstFlaw 134 = .ok (.iconst 0, 1) := by decide +kernel
theorem dX10_firstFlaw_135 : decode cX10_firstFlaw 135 = .ok (.istore 9, 2) := by decide +kernel
theorem dX10_firstFlaw_137 : decode cX10_firstFlaw 137 = .ok (.iload 9, 2) := by decide +kernel
theorem dX10_firstFlaw_139 : decode cX10_firstFlaw 139 = .ok (.ifCond .ne 6, 3) := by decide +kernel
theorem dX10_firstFlaw_142 : decode cX10_firstFlaw 142 = .ok (.iload 7, 2) := by decide +kernel
theorem dX10_firstFlaw_144 : decode cX10_firstFlaw 144 = .ok (.ireturn, 1) := by decide +kernel
theorem dX10_firstFlaw_145 : decode cX10_firstFlaw 145 = .ok (.iinc 7 1, 3) := by decide +kernel
theorem dX10_firstFlaw_148 : decode cX10_firstFlaw 148 = .ok (.goto (-116), 3) := by decide +kernel
theorem dX10_firstFlaw_151 : decode cX10_firstFlaw 151 = .ok (.iconst (-1), 1) := by decide +kernel
theorem dX10_firstFlaw_152 : decode cX10_firstFlaw 152 = .ok (.ireturn, 1) := by decide +kernel
theorem dX10_traced_0 : decode cX10_traced 0 = .ok (.aload_n 0, 1) := by decide +kernel
theorem dX10_traced_1 : decode cX10_traced 1 = .ok (.getfield 13, 3) := by decide +kernel
theorem dX10_traced_4 : decode cX10_traced 4 = .ok (.sipush 276, 3) := by decide +kernel
theorem dX10_traced_7 : decode cX10_traced 7 = .ok (.iaload, 1) := by decide +kernel
theorem dX10_traced_8 : decode cX10_traced 8 = .ok (.bipush 64, 2) := by decide +kernel
theorem dX10_traced_10 : decode cX10_traced 10 = .ok (.invokestatic 30, 3) := by decide +kernel
theorem dX10_traced_13 : decode cX10_traced 13 = .ok (.ireturn, 1) := by decide +kernel
theorem dX10_latest_0 : decode cX10_latest 0 = .ok (.aload_n 0, 1) := by decide +kernel
theorem dX10_latest_1 : decode cX10_latest 1 = .ok (.sipush 287, 3) := by decide +kernel
theorem dX10_latest_4 : decode cX10_latest 4 = .ok (.aload_n 0, 1) := by decide +kernel
theorem dX10_latest_5 : decode cX10_latest 5 = .ok (.getfield 13, 3) := by decide +kernel
theorem dX10_latest_8 : decode cX10_latest 8 = .ok (.sipush 276, 3) := by decide +kernel
theorem dX10_latest_11 : decode cX10_latest 11 = .ok (.iaload, 1) := by decide +kernel
theorem dX10_latest_12 : decode cX10_latest 12 = .ok (.iconst 1, 1) := by decide +kernel
theorem dX10_latest_13 : decode cX10_latest 13 = .ok (.isub, 1) := by decide +kernel
theorem dX10_latest_14 : decode cX10_latest 14 = .ok (.iload_n 1, 1) := by decide +kernel
theorem dX10_latest_15 : decode cX10_latest 15 = .ok (.isub, 1) := by decide +kernel
theorem dX10_latest_16 : decode cX10_latest 16 = .ok (.bipush 64, 2) := by decide +kernel
theorem dX10_latest_18 : decode cX10_latest 18 = .ok (.invokestatic 33, 3) := by decide +kernel
theorem dX10_latest_21 : decode cX10_latest 21 = .ok (.iadd, 1) := by decide +kernel
theorem dX10_latest_22 : decode cX10_latest 22 = .ok (.invokevirtual 36, 3) := by decide +kernel
theorem dX10_latest_25 : decode cX10_latest 25 = .ok (.ireturn, 1) := by decide +kernel
theorem dX10_record_0 : decode cX10_record 0 = .ok (.aload_n 0, 1) := by decide +kernel
theorem dX10_record_1 : decode cX10_record 1 = .ok (.sipush 287, 3) := by decide +kernel
theorem dX10_record_4 : decode cX10_record 4 = .ok (.aload_n 0, 1) := by decide +kernel
theorem dX10_record_5 : decode cX10_record 5 = .ok (.getfield 13, 3) := by decide +kernel
theorem dX10_record_8 : decode cX10_record 8 = .ok (.sipush 276, 3) := by decide +kernel
theorem dX10_record_11 : decode cX10_record 11 = .ok (.iaload, 1) := by decide +kernel
theorem dX10_record_12 : decode cX10_record 12 = .ok (.bipush 64, 2) := by decide +kernel
theorem dX10_record_14 : decode cX10_record 14 = .ok (.invokestatic 33, 3) := by decide +kernel
theorem dX10_record_17 : decode cX10_record 17 = .ok (.iadd, 1) := by decide +kernel
theorem dX10_record_18 : decode cX10_record 18 = .ok (.iload_n 1, 1) := by decide +kernel
theorem dX10_record_19 : decode cX10_record 19 = .ok (.invokevirtual 40, 3) := by decide +kernel
theorem dX10_record_22 : decode cX10_record 22 = .ok (.aload_n 0, 1) := by decide +kernel
theorem dX10_record_23 : decode cX10_record 23 = .ok (.sipush 351, 3) := by decide +kernel
theorem dX10_record_26 : decode cX10_record 26 = .ok (.iload_n 1, 1) := by decide +kernel
theorem dX10_record_27 : decode cX10_record 27 = .ok (.iadd, 1) := by decide +kernel
theorem dX10_record_28 : decode cX10_record 28 = .ok (.aload_n 0, 1) := by decide +kernel
theorem dX10_record_29 : decode cX10_record 29 = .ok (.sipush 351, 3) := by decide +kernel
theorem dX10_record_32 : decode cX10_record 32 = .ok (.iload_n 1, 1) := by decide +kernel
theorem dX10_record_33 : decode cX10_record 33 = .ok (.iadd, 1) := by decide +kernel
theorem dX10_record_34 : decode cX10_record 34 = .ok (.invokevirtual 36, 3) := by decide +kernel
theorem dX10_record_37 : decode cX10_record 37 = .ok (.iconst 1, 1) := by decide +kernel
theorem dX10_record_38 : decode cX10_record 38 = .ok (.iadd, 1) := by decide +kernel
theorem dX10_record_39 : decode cX10_record 39 = .ok (.invokevirtual 40, 3) := by decide +kernel
theorem dX10_record_42 : decode cX10_record 42 = .ok (.aload_n 0, 1) := by decide +kernel
theorem dX10_record_43 : decode cX10_record 43 = .ok (.getfield 13, 3) := by decide +kernel
theorem dX10_record_46 : decode cX10_record 46 = .ok (.sipush 276, 3) := by decide +kernel
theorem dX10_record_49 : decode cX10_record 49 = .ok (.dup2, 1) := by decide +kernel
theorem dX10_record_50 : decode cX10_record 50 = .ok (.iaload, 1) := by decide +kernel
theorem dX10_record_51 : decode cX10_record 51 = .ok (.iconst 1, 1) := by decide +kernel
theorem dX10_record_52 : decode cX10_record 52 = .ok (.iadd, 1) := by decide +kernel
theorem dX10_record_53 : decode cX10_record 53 = .ok (.iastore, 1) := by decide +kernel
theorem dX10_record_54 : decode cX10_record 54 = .ok (.return_, 1) := by decide +kernel
theorem dX10_neverDone_0 : decode cX10_neverDone 0 = .ok (.iconst 0, 1) := by decide +kernel
theorem dX10_neverDone_1 : decode cX10_neverDone 1 = .ok (.istore_n 2, 1) := by decide +kernel
theorem dX10_neverDone_2 : decode cX10_neverDone 2 = .ok (.iconst 0, 1) := by decide +kernel
theorem dX10_neverDone_3 : decode cX10_neverDone 3 = .ok (.istore_n 3, 1) := by decide +kernel
theorem dX10_neverDone_4 : decode cX10_neverDone 4 = .ok (.iload_n 3, 1) := by decide +kernel
theorem dX10_neverDone_5 : decode cX10_neverDone 5 = .ok (.iload_n 1, 1) := by decide +kernel
theorem dX10_neverDone_6 : decode cX10_neverDone 6 = .ok (.if_icmp .ge 24, 3) := by decide +kernel
theorem dX10_neverDone_9 : decode cX10_neverDone 9 = .ok (.aload_n 0, 1) := by decide +kernel
theorem dX10_neverDone_10 : decode cX10_neverDone 10 = .ok (.sipush 351, 3) := by decide +kernel
theorem dX10_neverDone_13 : decode cX10_neverDone 13 = .ok (.iload_n 3, 1) := by decide +kernel
theorem dX10_neverDone_14 : decode cX10_neverDone 14 = .ok (.iadd, 1) := by decide +kernel
theorem dX10_neverDone_15 : decode cX10_neverDone 15 = .ok (.invokevirtual 36, 3) := by decide +kernel
theorem dX10_neverDone_18 : decode cX10_neverDone 18 = .ok (.ifCond .ne 6, 3) := by decide +kernel
theorem dX10_neverDone_21 : decode cX10_neverDone 21 = .ok (.iinc 2 1, 3) := by decide +kernel
theorem dX10_neverDone_24 : decode cX10_neverDone 24 = .ok (.iinc 3 1, 3) := by decide +kernel
theorem dX10_neverDone_27 : decode cX10_neverDone 27 = .ok (.goto (-23), 3) := by decide +kernel
theorem dX10_neverDone_30 : decode cX10_neverDone 30 = .ok (.iload_n 2, 1) := by decide +kernel
theorem dX10_neverDone_31 : decode cX10_neverDone 31 = .ok (.ireturn, 1) := by decide +kernel
theorem dX10_causes_0 : decode cX10_causes 0 = .ok (.aload_n 0, 1) := by decide +kernel
theorem dX10_causes_1 : decode cX10_causes 1 = .ok (.getfield 13, 3) := by decide +kernel
theorem dX10_causes_4 : decode cX10_causes 4 = .ok (.sipush 277, 3) := by decide +kernel
theorem dX10_causes_7 : decode cX10_causes 7 = .ok (.iaload, 1) := by decide +kernel
theorem dX10_causes_8 : decode cX10_causes 8 = .ok (.ifCond .ne 5, 3) := by decide +kernel
theorem dX10_causes_11 : decode cX10_causes 11 = .ok (.iconst 0, 1) := by decide +kernel
theorem dX10_causes_12 : decode cX10_causes 12 = .ok (.ireturn, 1) := by decide +kernel
theorem dX10_causes_13 : decode cX10_causes 13 = .ok (.aload_n 0, 1) := by decide +kernel
theorem dX10_causes_14 : decode cX10_causes 14 = .ok (.getfield 13, 3) := by decide +kernel
theorem dX10_causes_17 : decode cX10_causes 17 = .ok (.sipush 278, 3) := by decide +kernel
theorem dX10_causes_20 : decode cX10_causes 20 = .ok (.iaload, 1) := by decide +kernel
theorem dX10_causes_21 : decode cX10_causes 21 = .ok (.iconst 4, 1) := by decide +kernel
theorem dX10_causes_22 : decode cX10_causes 22 = .ok (.if_icmp .eq 15, 3) := by decide +kernel
theorem dX10_causes_25 : decode cX10_causes 25 = .ok (.aload_n 0, 1) := by decide +kernel
theorem dX10_causes_26 : decode cX10_causes 26 = .ok (.getfield 13, 3) := by decide +kernel
theorem dX10_causes_29 : decode cX10_causes 29 = .ok (.sipush 278, 3) := by decide +kernel
theorem dX10_causes_32 : decode cX10_causes 32 = .ok (.iaload, 1) := by decide +kernel
theorem dX10_causes_33 : decode cX10_causes 33 = .ok (.iconst 5, 1) := by decide +kernel
theorem dX10_causes_34 : decode cX10_causes 34 = .ok (.if_icmp .ne 7, 3) := by decide +kernel
theorem dX10_causes_37 : decode cX10_causes 37 = .ok (.iconst 3, 1) := by decide +kernel
theorem dX10_causes_38 : decode cX10_causes 38 = .ok (.goto 4, 3) := by decide +kernel
theorem dX10_causes_41 : decode cX10_causes 41 = .ok (.iconst 2, 1) := by decide +kernel
theorem dX10_causes_42 : decode cX10_causes 42 = .ok (.ireturn, 1) := by decide +kernel
theorem dX10_become_0 : decode cX10_become 0 = .ok (.aload_n 1, 1) := by decide +kernel
theorem dX10_become_1 : decode cX10_become 1 = .ok (.getfield 13, 3) := by decide +kernel
theorem dX10_become_4 : decode cX10_become 4 = .ok (.iconst 0, 1) := by decide +kernel
theorem dX10_become_5 : decode cX10_become 5 = .ok (.aload_n 0, 1) := by decide +kernel
theorem dX10_become_6 : decode cX10_become 6 = .ok (.getfield 13, 3) := by decide +kernel
theorem dX10_become_9 : decode cX10_become 9 = .ok (.iconst 0, 1) := by decide +kernel
theorem dX10_become_10 : decode cX10_become 10 = .ok (.sipush 411, 3) := by decide +kernel
theorem dX10_become_13 : decode cX10_become 13 = .ok (.invokestatic 46, 3) := by decide +kernel
theorem dX10_become_16 : decode cX10_become 16 = .ok (.return_, 1) := by decide +kernel
theorem dX10_alike_0 : decode cX10_alike 0 = .ok (.iconst 0, 1) := by decide +kernel
theorem dX10_alike_1 : decode cX10_alike 1 = .ok (.istore 4, 2) := by decide +kernel
theorem dX10_alike_3 : decode cX10_alike 3 = .ok (.iload 4, 2) := by decide +kernel
theorem dX10_alike_5 : decode cX10_alike 5 = .ok (.iload_n 2, 1) := by decide +kernel
theorem dX10_alike_6 : decode cX10_alike 6 = .ok (.if_icmp .ge 42, 3) := by decide +kernel
theorem dX10_alike_9 : decode cX10_alike 9 = .ok (.iload 4, 2) := by decide +kernel
theorem dX10_alike_11 : decode cX10_alike 11 = .ok (.sipush 411, 3) := by decide +kernel
theorem dX10_alike_14 : decode cX10_alike 14 = .ok (.if_icmp .ge 34, 3) := by decide +kernel
theorem dX10_alike_17 : decode cX10_alike 17 = .ok (.aload_n 0, 1) := by decide +kernel
theorem dX10_alike_18 : decode cX10_alike 18 = .ok (.getfield 13, 3) := by decide +kernel
theorem dX10_alike_21 : decode cX10_alike 21 = .ok (.iload 4, 2) := by decide +kernel
theorem dX10_alike_23 : decode cX10_alike 23 = .ok (.iaload, 1) := by decide +kernel
theorem dX10_alike_24 : decode cX10_alike 24 = .ok (.aload_n 1, 1) := by decide +kernel
theorem dX10_alike_25 : decode cX10_alike 25 = .ok (.getfield 13, 3) := by decide +kernel
theorem dX10_alike_28 : decode cX10_alike 28 = .ok (.iload 4, 2) := by decide +kernel
theorem dX10_alike_30 : decode cX10_alike 30 = .ok (.iaload, 1) := by decide +kernel
theorem dX10_alike_31 : decode cX10_alike 31 = .ok (.if_icmp .eq 11, 3) := by decide +kernel
theorem dX10_alike_34 : decode cX10_alike 34 = .ok (.iload 4, 2) := by decide +kernel
theorem dX10_alike_36 : decode cX10_alike 36 = .ok (.iload_n 3, 1) := by decide +kernel
theorem dX10_alike_37 : decode cX10_alike 37 = .ok (.if_icmp .eq 5, 3) := by decide +kernel
theorem dX10_alike_40 : decode cX10_alike 40 = .ok (.iconst 0, 1) := by decide +kernel
theorem dX10_alike_41 : decode cX10_alike 41 = .ok (.ireturn, 1) := by decide +kernel
theorem dX10_alike_42 : decode cX10_alike 42 = .ok (.iinc 4 1, 3) := by decide +kernel
theorem dX10_alike_45 : decode cX10_alike 45 = .ok (.goto (-42), 3) := by decide +kernel
theorem dX10_alike_48 : decode cX10_alike 48 = .ok (.iconst 1, 1) := by decide +kernel
theorem dX10_alike_49 : decode cX10_alike 49 = .ok (.ireturn, 1) := by decide +kernel
theorem dX10_unlike_0 : decode cX10_unlike 0 = .ok (.iconst 0, 1) := by decide +kernel
theorem dX10_unlike_1 : decode cX10_unlike 1 = .ok (.istore_n 2, 1) := by decide +kernel
theorem dX10_unlike_2 : decode cX10_unlike 2 = .ok (.iconst 0, 1) := by decide +kernel
theorem dX10_unlike_3 : decode cX10_unlike 3 = .ok (.istore_n 3, 1) := by decide +kernel
theorem dX10_unlike_4 : decode cX10_unlike 4 = .ok (.iload_n 3, 1) := by decide +kernel
theorem dX10_unlike_5 : decode cX10_unlike 5 = .ok (.sipush 256, 3) := by decide +kernel
theorem dX10_unlike_8 : decode cX10_unlike 8 = .ok (.if_icmp .ge 27, 3) := by decide +kernel
theorem dX10_unlike_11 : decode cX10_unlike 11 = .ok (.aload_n 0, 1) := by decide +kernel
theorem dX10_unlike_12 : decode cX10_unlike 12 = .ok (.getfield 13, 3) := by decide +kernel
theorem dX10_unlike_15 : decode cX10_unlike 15 = .ok (.iload_n 3, 1) := by decide +kernel
theorem dX10_unlike_16 : decode cX10_unlike 16 = .ok (.iaload, 1) := by decide +kernel
theorem dX10_unlike_17 : decode cX10_unlike 17 = .ok (.aload_n 1, 1) := by decide +kernel
theorem dX10_unlike_18 : decode cX10_unlike 18 = .ok (.getfield 13, 3) := by decide +kernel
theorem dX10_unlike_21 : decode cX10_unlike 21 = .ok (.iload_n 3, 1) := by decide +kernel
theorem dX10_unlike_22 : decode cX10_unlike 22 = .ok (.iaload, 1) := by decide +kernel
theorem dX10_unlike_23 : decode cX10_unlike 23 = .ok (.if_icmp .eq 6, 3) := by decide +kernel
theorem dX10_unlike_26 : decode cX10_unlike 26 = .ok (.iinc 2 1, 3) := by decide +kernel
theorem dX10_unlike_29 : decode cX10_unlike 29 = .ok (.iinc 3 1, 3) := by decide +kernel
theorem dX10_unlike_32 : decode cX10_unlike 32 = .ok (.goto (-28), 3) := by decide +kernel
theorem dX10_unlike_35 : decode cX10_unlike 35 = .ok (.iload_n 2, 1) := by decide +kernel
theorem dX10_unlike_36 : decode cX10_unlike 36 = .ok (.ireturn, 1) := by decide +kernel
theorem dX10_renew_0 : decode cX10_renew 0 = .ok (.aload_n 0, 1) := by decide +kernel
theorem dX10_renew_1 : decode cX10_renew 1 = .ok (.invokevirtual 17, 3) := by decide +kernel
theorem dX10_renew_4 : decode cX10_renew 4 = .ok (.aload_n 0, 1) := by decide +kernel
theorem dX10_renew_5 : decode cX10_renew 5 = .ok (.aload_n 1, 1) := by decide +kernel
theorem dX10_renew_6 : decode cX10_renew 6 = .ok (.invokevirtual 52, 3) := by decide +kernel
theorem dX10_renew_9 : decode cX10_renew 9 = .ok (.return_, 1) := by decide +kernel
theorem dX10_restart_0 : decode cX10_restart 0 = .ok (.iconst 0, 1) := by decide +kernel
theorem dX10_restart_1 : decode cX10_restart 1 = .ok (.istore_n 2, 1) := by decide +kernel
theorem dX10_restart_2 : decode cX10_restart 2 = .ok (.iload_n 2, 1) := by decide +kernel
theorem dX10_restart_3 : decode cX10_restart 3 = .ok (.sipush 256, 3) := by decide +kernel
theorem dX10_restart_6 : decode cX10_restart 6 = .ok (.if_icmp .ge 20, 3) := by decide +kernel
theorem dX10_restart_9 : decode cX10_restart 9 = .ok (.aload_n 0, 1) := by decide +kernel
theorem dX10_restart_10 : decode cX10_restart 10 = .ok (.getfield 13, 3) := by decide +kernel
theorem dX10_restart_13 : decode cX10_restart 13 = .ok (.iload_n 2, 1) := by decide +kernel
theorem dX10_restart_14 : decode cX10_restart 14 = .ok (.aload_n 1, 1) := by decide +kernel
theorem dX10_restart_15 : decode cX10_restart 15 = .ok (.iload_n 2, 1) := by decide +kernel
theorem dX10_restart_16 : decode cX10_restart 16 = .ok (.invokevirtual 56, 3) := by decide +kernel
theorem dX10_restart_19 : decode cX10_restart 19 = .ok (.iastore, 1) := by decide +kernel
theorem dX10_restart_20 : decode cX10_restart 20 = .ok (.iinc 2 1, 3) := by decide +kernel
theorem dX10_restart_23 : decode cX10_restart 23 = .ok (.goto (-21), 3) := by decide +kernel
theorem dX10_restart_26 : decode cX10_restart 26 = .ok (.sipush 256, 3) := by decide +kernel
theorem dX10_restart_29 : decode cX10_restart 29 = .ok (.istore_n 2, 1) := by decide +kernel
theorem dX10_restart_30 : decode cX10_restart 30 = .ok (.iload_n 2, 1) := by decide +kernel
theorem dX10_restart_31 : decode cX10_restart 31 = .ok (.sipush 268, 3) := by decide +kernel
theorem dX10_restart_34 : decode cX10_restart 34 = .ok (.if_icmp .ge 16, 3) := by decide +kernel
theorem dX10_restart_37 : decode cX10_restart 37 = .ok (.aload_n 0, 1) := by decide +kernel
theorem dX10_restart_38 : decode cX10_restart 38 = .ok (.getfield 13, 3) := by decide +kernel
theorem dX10_restart_41 : decode cX10_restart 41 = .ok (.iload_n 2, 1) := by decide +kernel
theorem dX10_restart_42 : decode cX10_restart 42 = .ok (.iconst 0, 1) := by decide +kernel
theorem dX10_restart_43 : decode cX10_restart 43 = .ok (.iastore, 1) := by decide +kernel
theorem dX10_restart_44 : decode cX10_restart 44 = .ok (.iinc 2 1, 3) := by decide +kernel
theorem dX10_restart_47 : decode cX10_restart 47 = .ok (.goto (-17), 3) := by decide +kernel
theorem dX10_restart_50 : decode cX10_restart 50 = .ok (.aload_n 0, 1) := by decide +kernel
theorem dX10_restart_51 : decode cX10_restart 51 = .ok (.invokevirtual 59, 3) := by decide +kernel
theorem dX10_restart_54 : decode cX10_restart 54 = .ok (.aload_n 0, 1) := by decide +kernel
theorem dX10_restart_55 : decode cX10_restart 55 = .ok (.getfield 13, 3) := by decide +kernel
theorem dX10_restart_58 : decode cX10_restart 58 = .ok (.sipush 267, 3) := by decide +kernel
theorem dX10_restart_61 : decode cX10_restart 61 = .ok (.aload_n 1, 1) := by decide +kernel
theorem dX10_restart_62 : decode cX10_restart 62 = .ok (.invokevirtual 62, 3) := by decide +kernel
theorem dX10_restart_65 : decode cX10_restart 65 = .ok (.ifCond .le 7, 3) := by decide +kernel
theorem dX10_restart_68 : decode cX10_restart 68 = .ok (.iconst 0, 1) := by decide +kernel
theorem dX10_restart_69 : decode cX10_restart 69 = .ok (.goto 4, 3) := by decide +kernel
theorem dX10_restart_72 : decode cX10_restart 72 = .ok (.iconst 1, 1) := by decide +kernel
theorem dX10_restart_73 : decode cX10_restart 73 = .ok (.iastore, 1) := by decide +kernel
theorem dX10_restart_74 : decode cX10_restart 74 = .ok (.return_, 1) := by decide +kernel
theorem dX10_clear_0 : decode cX10_clear 0 = .ok (.iconst 0, 1) := by decide +kernel
theorem dX10_clear_1 : decode cX10_clear 1 = .ok (.istore_n 1, 1) := by decide +kernel
theorem dX10_clear_2 : decode cX10_clear 2 = .ok (.iload_n 1, 1) := by decide +kernel
theorem dX10_clear_3 : decode cX10_clear 3 = .ok (.sipush 411, 3) := by decide +kernel
theorem dX10_clear_6 : decode cX10_clear 6 = .ok (.if_icmp .ge 16, 3) := by decide +kernel
theorem dX10_clear_9 : decode cX10_clear 9 = .ok (.aload_n 0, 1) := by decide +kernel
theorem dX10_clear_10 : decode cX10_clear 10 = .ok (.getfield 13, 3) := by decide +kernel
theorem dX10_clear_13 : decode cX10_clear 13 = .ok (.iload_n 1, 1) := by decide +kernel
theorem dX10_clear_14 : decode cX10_clear 14 = .ok (.iconst 0, 1) := by decide +kernel
theorem dX10_clear_15 : decode cX10_clear 15 = .ok (.iastore, 1) := by decide +kernel
theorem dX10_clear_16 : decode cX10_clear 16 = .ok (.iinc 1 1, 3) := by decide +kernel
theorem dX10_clear_19 : decode cX10_clear 19 = .ok (.goto (-17), 3) := by decide +kernel
theorem dX10_clear_22 : decode cX10_clear 22 = .ok (.aload_n 0, 1) := by decide +kernel
theorem dX10_clear_23 : decode cX10_clear 23 = .ok (.invokevirtual 59, 3) := by decide +kernel
theorem dX10_clear_26 : decode cX10_clear 26 = .ok (.aload_n 0, 1) := by decide +kernel
theorem dX10_clear_27 : decode cX10_clear 27 = .ok (.getfield 13, 3) := by decide +kernel
theorem dX10_clear_30 : decode cX10_clear 30 = .ok (.sipush 267, 3) := by decide +kernel
theorem dX10_clear_33 : decode cX10_clear 33 = .ok (.iconst 1, 1) := by decide +kernel
theorem dX10_clear_34 : decode cX10_clear 34 = .ok (.iastore, 1) := by decide +kernel
theorem dX10_clear_35 : decode cX10_clear 35 = .ok (.return_, 1) := by decide +kernel
theorem dX10_clearGuards_0 : decode cX10_clearGuards 0 = .ok (.sipush 268, 3) := by decide +kernel
theorem dX10_clearGuards_3 : decode cX10_clearGuards 3 = .ok (.istore_n 1, 1) := by decide +kernel
theorem dX10_clearGuards_4 : decode cX10_clearGuards 4 = .ok (.iload_n 1, 1) := by decide +kernel
theorem dX10_clearGuards_5 : decode cX10_clearGuards 5 = .ok (.sipush 276, 3) := by decide +kernel
theorem dX10_clearGuards_8 : decode cX10_clearGuards 8 = .ok (.if_icmp .ge 16, 3) := by decide +kernel
theorem dX10_clearGuards_11 : decode cX10_clearGuards 11 = .ok (.aload_n 0, 1) := by decide +kernel
theorem dX10_clearGuards_12 : decode cX10_clearGuards 12 = .ok (.getfield 13, 3) := by decide +kernel
theorem dX10_clearGuards_15 : decode cX10_clearGuards 15 = .ok (.iload_n 1, 1) := by decide +kernel
theorem dX10_clearGuards_16 : decode cX10_clearGuards 16 = .ok (.iconst (-1), 1) := by decide +kernel
theorem dX10_clearGuards_17 : decode cX10_clearGuards 17 = .ok (.iastore, 1) := by decide +kernel
theorem dX10_clearGuards_18 : decode cX10_clearGuards 18 = .ok (.iinc 1 1, 3) := by decide +kernel
theorem dX10_clearGuards_21 : decode cX10_clearGuards 21 = .ok (.goto (-17), 3) := by decide +kernel
theorem dX10_clearGuards_24 : decode cX10_clearGuards 24 = .ok (.aload_n 0, 1) := by decide +kernel
theorem dX10_clearGuards_25 : decode cX10_clearGuards 25 = .ok (.getfield 13, 3) := by decide +kernel
theorem dX10_clearGuards_28 : decode cX10_clearGuards 28 = .ok (.sipush 266, 3) := by decide +kernel
theorem dX10_clearGuards_31 : decode cX10_clearGuards 31 = .ok (.iconst (-1), 1) := by decide +kernel
theorem dX10_clearGuards_32 : decode cX10_clearGuards 32 = .ok (.iastore, 1) := by decide +kernel
theorem dX10_clearGuards_33 : decode cX10_clearGuards 33 = .ok (.return_, 1) := by decide +kernel
theorem dX11_told_0 : decode cX11_told 0 = .ok (.iload_n 1, 1) := by decide +kernel
theorem dX11_told_1 : decode cX11_told 1 = .ok (.ifCond .lt 9, 3) := by decide +kernel
theorem dX11_told_4 : decode cX11_told 4 = .ok (.iload_n 2, 1) := by decide +kernel
theorem dX11_told_5 : decode cX11_told 5 = .ok (.aload_n 0, 1) := by decide +kernel
theorem dX11_told_6 : decode cX11_told 6 = .ok (.arraylength, 1) := by decide +kernel
theorem dX11_told_7 : decode cX11_told 7 = .ok (.if_icmp .le 5, 3) := by decide +kernel
theorem dX11_told_10 : decode cX11_told 10 = .ok (.aconst_null, 1) := by decide +kernel
theorem dX11_told_11 : decode cX11_told 11 = .ok (.areturn, 1) := by decide +kernel
theorem dX11_told_12 : decode cX11_told 12 = .ok (.iconst 0, 1) := by decide +kernel
theorem dX11_told_13 : decode cX11_told 13 = .ok (.istore_n 3, 1) := by decide +kernel
theorem dX11_told_14 : decode cX11_told 14 = .ok (.iload_n 3, 1) := by decide +kernel
theorem dX11_told_15 : decode cX11_told 15 = .ok (.getstatic 125, 3) := by decide +kernel
theorem dX11_told_18 : decode cX11_told 18 = .ok (.arraylength, 1) := by decide +kernel
theorem dX11_told_19 : decode cX11_told 19 = .ok (.if_icmp .ge 86, 3) := by decide +kernel
theorem dX11_told_22 : decode cX11_told 22 = .ok (.getstatic 125, 3) := by decide +kernel
theorem dX11_told_25 : decode cX11_told 25 = .ok (.iload_n 3, 1) := by decide +kernel
theorem dX11_told_26 : decode cX11_told 26 = .ok (.aaload, 1) := by decide +kernel
theorem dX11_told_27 : decode cX11_told 27 = .ok (.getfield 110, 3) := by decide +kernel
theorem dX11_told_30 : decode cX11_told 30 = .ok (.astore 4, 2) := by decide +kernel
theorem dX11_told_32 : decode cX11_told 32 = .ok (.iconst 0, 1) := by decide +kernel
theorem dX11_told_33 : decode cX11_told 33 = .ok (.istore 5, 2) := by decide +kernel
theorem dX11_told_35 : decode cX11_told 35 = .ok (.aload 4, 2) := by decide +kernel
theorem dX11_told_37 : decode cX11_told 37 = .ok (.invokevirtual 128, 3) := by decide +kernel
theorem dX11_told_40 : decode cX11_told 40 = .ok (.iload_n 2, 1) := by decide +kernel
theorem dX11_told_41 : decode cX11_told 41 = .ok (.iload_n 1, 1) := by decide +kernel
theorem dX11_told_42 : decode cX11_told 42 = .ok (.isub, 1) := by decide +kernel
theorem dX11_told_43 : decode cX11_told 43 = .ok (.if_icmp .ne 35, 3) := by decide +kernel
theorem dX11_told_46 : decode cX11_told 46 = .ok (.iload 5, 2) := by decide +kernel
theorem dX11_told_48 : decode cX11_told 48 = .ok (.aload 4, 2) := by decide +kernel
theorem dX11_told_50 : decode cX11_told 50 = .ok (.invokevirtual 128, 3) := by decide +kernel
theorem dX11_told_53 : decode cX11_told 53 = .ok (.if_icmp .ge 25, 3) := by decide +kernel
theorem dX11_told_56 : decode cX11_told 56 = .ok (.aload 4, 2) := by decide +kernel
theorem dX11_told_58 : decode cX11_told 58 = .ok (.iload 5, 2) := by decide +kernel
theorem dX11_told_60 : decode cX11_told 60 = .ok (.invokevirtual 134, 3) := by decide +kernel
theorem dX11_told_63 : decode cX11_told 63 = .ok (.aload_n 0, 1) := by decide +kernel
theorem dX11_told_64 : decode cX11_told 64 = .ok (.iload_n 1, 1) := by decide +kernel
theorem dX11_told_65 : decode cX11_told 65 = .ok (.iload 5, 2) := by decide +kernel
theorem dX11_told_67 : decode cX11_told 67 = .ok (.iadd, 1) := by decide +kernel
theorem dX11_told_68 : decode cX11_told 68 = .ok (.iaload, 1) := by decide +kernel
theorem dX11_told_69 : decode cX11_told 69 = .ok (.if_icmp .ne 9, 3) := by decide +kernel
theorem dX11_told_72 : decode cX11_told 72 = .ok (.iinc 5 1, 3) := by decide +kernel
theorem dX11_told_75 : decode cX11_told 75 = .ok (.goto (-40), 3) := by decide +kernel
theorem dX11_told_78 : decode cX11_told 78 = .ok (.iload 5, 2) := by decide +kernel
theorem dX11_told_80 : decode cX11_told 80 = .ok (.ifCond .le 19, 3) := by decide +kernel
theorem dX11_told_83 : decode cX11_told 83 = .ok (.iload 5, 2) := by decide +kernel
theorem dX11_told_85 : decode cX11_told 85 = .ok (.aload 4, 2) := by decide +kernel
theorem dX11_told_87 : decode cX11_told 87 = .ok (.invokevirtual 128, 3) := by decide +kernel
theorem dX11_told_90 : decode cX11_told 90 = .ok (.if_icmp .ne 9, 3) := by decide +kernel
theorem dX11_told_93 : decode cX11_told 93 = .ok (.getstatic 125, 3) := by decide +kernel
theorem dX11_told_96 : decode cX11_told 96 = .ok (.iload_n 3, 1) := by decide +kernel
theorem dX11_told_97 : decode cX11_told 97 = .ok (.aaload, 1) := by decide +kernel
theorem dX11_told_98 : decode cX11_told 98 = .ok (.areturn, 1) := by decide +kernel
theorem dX11_told_99 : decode cX11_told 99 = .ok (.iinc 3 1, 3) := by decide +kernel
theorem dX11_told_102 : decode cX11_told 102 = .ok (.goto (-88), 3) := by decide +kernel
theorem dX11_told_105 : decode cX11_told 105 = .ok (.aconst_null, 1) := by decide +kernel
theorem dX11_told_106 : decode cX11_told 106 = .ok (.areturn, 1) := by decide +kernel
theorem dJ9_floorMod_7cf53_0 : decode cJ9_floorMod_7cf53 0 = .ok (.iload_n 0, 1) := by decide +kernel
theorem dJ9_floorMod_7cf53_1 : decode cJ9_floorMod_7cf53 1 = .ok (.iload_n 1, 1) := by decide +kernel
theorem dJ9_floorMod_7cf53_2 : decode cJ9_floorMod_7cf53 2 = .ok (.irem, 1) := by decide +kernel
theorem dJ9_floorMod_7cf53_3 : decode cJ9_floorMod_7cf53 3 = .ok (.istore_n 2, 1) := by decide +kernel
theorem dJ9_floorMod_7cf53_4 : decode cJ9_floorMod_7cf53 4 = .ok (.iload_n 0, 1) := by decide +kernel
theorem dJ9_floorMod_7cf53_5 : decode cJ9_floorMod_7cf53 5 = .ok (.iload_n 1, 1) := by decide +kernel
theorem dJ9_floorMod_7cf53_6 : decode cJ9_floorMod_7cf53 6 = .ok (.ixor, 1) := by decide +kernel
theorem dJ9_floorMod_7cf53_7 : decode cJ9_floorMod_7cf53 7 = .ok (.ifCond .ge 11, 3) := by decide +kernel
theorem dJ9_floorMod_7cf53_10 : decode cJ9_floorMod_7cf53 10 = .ok (.iload_n 2, 1) := by decide +kernel
theorem dJ9_floorMod_7cf53_11 : decode cJ9_floorMod_7cf53 11 = .ok (.ifCond .eq 7, 3) := by decide +kernel
theorem dJ9_floorMod_7cf53_14 : decode cJ9_floorMod_7cf53 14 = .ok (.iload_n 2, 1) := by decide +kernel
theorem dJ9_floorMod_7cf53_15 : decode cJ9_floorMod_7cf53 15 = .ok (.iload_n 1, 1) := by decide +kernel
theorem dJ9_floorMod_7cf53_16 : decode cJ9_floorMod_7cf53 16 = .ok (.iadd, 1) := by decide +kernel
theorem dJ9_floorMod_7cf53_17 : decode cJ9_floorMod_7cf53 17 = .ok (.ireturn, 1) := by decide +kernel
theorem dJ9_floorMod_7cf53_18 : decode cJ9_floorMod_7cf53 18 = .ok (.iload_n 2, 1) := by decide +kernel
theorem dJ9_floorMod_7cf53_19 : decode cJ9_floorMod_7cf53 19 = .ok (.ireturn, 1) := by decide +kernel
