theorem dX1_init_0 : decode cX1_init 0 = .ok (.aload_n 0, 1) := by decide +kernel
theorem dX1_init_1 : decode cX1_init 1 = .ok (.invokespecial 3, 3) := by decide +kernel
theorem dX1_init_4 : decode cX1_init 4 = .ok (.aload_n 0, 1) := by decide +kernel
theorem dX1_init_5 : decode cX1_init 5 = .ok (.bipush 64, 2) := by decide +kernel
theorem dX1_init_7 : decode cX1_init 7 = .ok (.newarray .int, 2) := by decide +kernel
theorem dX1_init_9 : decode cX1_init 9 = .ok (.putfield 11, 3) := by decide +kernel
theorem dX1_init_12 : decode cX1_init 12 = .ok (.return_, 1) := by decide +kernel
theorem dX1_size_0 : decode cX1_size 0 = .ok (.aload_n 0, 1) := by decide +kernel
theorem dX1_size_1 : decode cX1_size 1 = .ok (.getfield 15, 3) := by decide +kernel
theorem dX1_size_4 : decode cX1_size 4 = .ok (.ireturn, 1) := by decide +kernel
theorem dX1_below_0 : decode cX1_below 0 = .ok (.aload_n 0, 1) := by decide +kernel
theorem dX1_below_1 : decode cX1_below 1 = .ok (.getfield 19, 3) := by decide +kernel
theorem dX1_below_4 : decode cX1_below 4 = .ok (.ireturn, 1) := by decide +kernel
theorem dX1_digit_0 : decode cX1_digit 0 = .ok (.iload_n 1, 1) := by decide +kernel
theorem dX1_digit_1 : decode cX1_digit 1 = .ok (.ifCond .lt 18, 3) := by decide +kernel
theorem dX1_digit_4 : decode cX1_digit 4 = .ok (.iload_n 1, 1) := by decide +kernel
theorem dX1_digit_5 : decode cX1_digit 5 = .ok (.bipush 64, 2) := by decide +kernel
theorem dX1_digit_7 : decode cX1_digit 7 = .ok (.if_icmp .ge 12, 3) := by decide +kernel
theorem dX1_digit_10 : decode cX1_digit 10 = .ok (.aload_n 0, 1) := by decide +kernel
theorem dX1_digit_11 : decode cX1_digit 11 = .ok (.getfield 11, 3) := by decide +kernel
theorem dX1_digit_14 : decode cX1_digit 14 = .ok (.iload_n 1, 1) := by decide +kernel
theorem dX1_digit_15 : decode cX1_digit 15 = .ok (.iaload, 1) := by decide +kernel
theorem dX1_digit_16 : decode cX1_digit 16 = .ok (.goto 4, 3) := by decide +kernel
theorem dX1_digit_19 : decode cX1_digit 19 = .ok (.iconst 0, 1) := by decide +kernel
theorem dX1_digit_20 : decode cX1_digit 20 = .ok (.ireturn, 1) := by decide +kernel
theorem dX1_sign_0 : decode cX1_sign 0 = .ok (.aload_n 0, 1) := by decide +kernel
theorem dX1_sign_1 : decode cX1_sign 1 = .ok (.getfield 19, 3) := by decide +kernel
theorem dX1_sign_4 : decode cX1_sign 4 = .ok (.ifCond .eq 15, 3) := by decide +kernel
theorem dX1_sign_7 : decode cX1_sign 7 = .ok (.aload_n 0, 1) := by decide +kernel
theorem dX1_sign_8 : decode cX1_sign 8 = .ok (.getfield 15, 3) := by decide +kernel
theorem dX1_sign_11 : decode cX1_sign 11 = .ok (.ifCond .le 8, 3) := by decide +kernel
theorem dX1_sign_14 : decode cX1_sign 14 = .ok (.bipush 13, 2) := by decide +kernel
theorem dX1_sign_16 : decode cX1_sign 16 = .ok (.goto 5, 3) := by decide +kernel
theorem dX1_sign_19 : decode cX1_sign 19 = .ok (.bipush 12, 2) := by decide +kernel
theorem dX1_sign_21 : decode cX1_sign 21 = .ok (.ireturn, 1) := by decide +kernel
theorem dX1_kind_0 : decode cX1_kind 0 = .ok (.aload_n 0, 1) := by decide +kernel
theorem dX1_kind_1 : decode cX1_kind 1 = .ok (.getfield 15, 3) := by decide +kernel
theorem dX1_kind_4 : decode cX1_kind 4 = .ok (.ifCond .ne 5, 3) := by decide +kernel
theorem dX1_kind_7 : decode cX1_kind 7 = .ok (.iconst 0, 1) := by decide +kernel
theorem dX1_kind_8 : decode cX1_kind 8 = .ok (.ireturn, 1) := by decide +kernel
theorem dX1_kind_9 : decode cX1_kind 9 = .ok (.aload_n 0, 1) := by decide +kernel
theorem dX1_kind_10 : decode cX1_kind 10 = .ok (.getfield 19, 3) := by decide +kernel
theorem dX1_kind_13 : decode cX1_kind 13 = .ok (.ifCond .eq 7, 3) := by decide +kernel
theorem dX1_kind_16 : decode cX1_kind 16 = .ok (.iconst 1, 1) := by decide +kernel
theorem dX1_kind_17 : decode cX1_kind 17 = .ok (.goto 4, 3) := by decide +kernel
theorem dX1_kind_20 : decode cX1_kind 20 = .ok (.iconst 2, 1) := by decide +kernel
theorem dX1_kind_21 : decode cX1_kind 21 = .ok (.ireturn, 1) := by decide +kernel
theorem dX1_takePacked_0 : decode cX1_takePacked 0 = .ok (.iconst 2, 1) := by decide +kernel
theorem dX1_takePacked_1 : decode cX1_takePacked 1 = .ok (.iload_n 2, 1) := by decide +kernel
theorem dX1_takePacked_2 : decode cX1_takePacked 2 = .ok (.iload_n 3, 1) := by decide +kernel
theorem dX1_takePacked_3 : decode cX1_takePacked 3 = .ok (.iadd, 1) := by decide +kernel
theorem dX1_takePacked_4 : decode cX1_takePacked 4 = .ok (.imul, 1) := by decide +kernel
theorem dX1_takePacked_5 : decode cX1_takePacked 5 = .ok (.iconst 1, 1) := by decide +kernel
theorem dX1_takePacked_6 : decode cX1_takePacked 6 = .ok (.isub, 1) := by decide +kernel
theorem dX1_takePacked_7 : decode cX1_takePacked 7 = .ok (.istore 4, 2) := by decide +kernel
theorem dX1_takePacked_9 : decode cX1_takePacked 9 = .ok (.iconst 0, 1) := by decide +kernel
theorem dX1_takePacked_10 : decode cX1_takePacked 10 = .ok (.istore 5, 2) := by decide +kernel
theorem dX1_takePacked_12 : decode cX1_takePacked 12 = .ok (.iload 5, 2) := by decide +kernel
theorem dX1_takePacked_14 : decode cX1_takePacked 14 = .ok (.bipush 64, 2) := by decide +kernel
theorem dX1_takePacked_16 : decode cX1_takePacked 16 = .ok (.if_icmp .ge 41, 3) := by decide +kernel
theorem dX1_takePacked_19 : decode cX1_takePacked 19 = .ok (.aload_n 0, 1) := by decide +kernel
theorem dX1_takePacked_20 : decode cX1_takePacked 20 = .ok (.getfield 11, 3) := by decide +kernel
theorem dX1_takePacked_23 : decode cX1_takePacked 23 = .ok (.iload 5, 2) := by decide +kernel
theorem dX1_takePacked_25 : decode cX1_takePacked 25 = .ok (.iload 5, 2) := by decide +kernel
theorem dX1_takePacked_27 : decode cX1_takePacked 27 = .ok (.iconst 2, 1) := by decide +kernel
theorem dX1_takePacked_28 : decode cX1_takePacked 28 = .ok (.iload_n 3, 1) := by decide +kernel
theorem dX1_takePacked_29 : decode cX1_takePacked 29 = .ok (.imul, 1) := by decide +kernel
theorem dX1_takePacked_30 : decode cX1_takePacked 30 = .ok (.iconst 1, 1) := by decide +kernel
theorem dX1_takePacked_31 : decode cX1_takePacked 31 = .ok (.isub, 1) := by decide +kernel
theorem dX1_takePacked_32 : decode cX1_takePacked 32 = .ok (.if_icmp .ge 17, 3) := by decide +kernel
theorem dX1_takePacked_35 : decode cX1_takePacked 35 = .ok (.aload_n 1, 1) := by decide +kernel
theorem dX1_takePacked_36 : decode cX1_takePacked 36 = .ok (.iload 4, 2) := by decide +kernel
theorem dX1_takePacked_38 : decode cX1_takePacked 38 = .ok (.iconst 1, 1) := by decide +kernel
theorem dX1_takePacked_39 : decode cX1_takePacked 39 = .ok (.isub, 1) := by decide +kernel
theorem dX1_takePacked_40 : decode cX1_takePacked 40 = .ok (.iload 5, 2) := by decide +kernel
theorem dX1_takePacked_42 : decode cX1_takePacked 42 = .ok (.isub, 1) := by decide +kernel
theorem dX1_takePacked_43 : decode cX1_takePacked 43 = .ok (.invokevirtual 23, 3) := by decide +kernel
theorem dX1_takePacked_46 : decode cX1_takePacked 46 = .ok (.goto 4, 3) := by decide +kernel
theorem dX1_takePacked_49 : decode cX1_takePacked 49 = .ok (.iconst 0, 1) := by decide +kernel
theorem dX1_takePacked_50 : decode cX1_takePacked 50 = .ok (.iastore, 1) := by decide +kernel
theorem dX1_takePacked_51 : decode cX1_takePacked 51 = .ok (.iinc 5 1, 3) := by decide +kernel
theorem dX1_takePacked_54 : decode cX1_takePacked 54 = .ok (.goto (-42), 3) := by decide +kernel
theorem dX1_takePacked_57 : decode cX1_takePacked 57 = .ok (.aload_n 0, 1) := by decide +kernel
theorem dX1_takePacked_58 : decode cX1_takePacked 58 = .ok (.aload_n 1, 1) := by decide +kernel
theorem dX1_takePacked_59 : decode cX1_takePacked 59 = .ok (.iload 4, 2) := by decide +kernel
theorem dX1_takePacked_61 : decode cX1_takePacked 61 = .ok (.invokevirtual 23, 3) := by decide +kernel
theorem dX1_takePacked_64 : decode cX1_takePacked 64 = .ok (.invokestatic 29, 3) := by decide +kernel
theorem dX1_takePacked_67 : decode cX1_takePacked 67 = .ok (.putfield 19, 3) := by decide +kernel
theorem dX1_takePacked_70 : decode cX1_takePacked 70 = .ok (.aload_n 0, 1) := by decide +kernel
theorem dX1_takePacked_71 : decode cX1_takePacked 71 = .ok (.invokevirtual 33, 3) := by decide +kernel
theorem dX1_takePacked_74 : decode cX1_takePacked 74 = .ok (.return_, 1) := by decide +kernel
theorem dX1_takeZoned_0 : decode cX1_takeZoned 0 = .ok (.iconst 2, 1) := by decide +kernel
theorem dX1_takeZoned_1 : decode cX1_takeZoned 1 = .ok (.iload_n 2, 1) := by decide +kernel
theorem dX1_takeZoned_2 : decode cX1_takeZoned 2 = .ok (.iload_n 3, 1) := by decide +kernel
theorem dX1_takeZoned_3 : decode cX1_takeZoned 3 = .ok (.iadd, 1) := by decide +kernel
theorem dX1_takeZoned_4 : decode cX1_takeZoned 4 = .ok (.imul, 1) := by decide +kernel
theorem dX1_takeZoned_5 : decode cX1_takeZoned 5 = .ok (.iconst 1, 1) := by decide +kernel
theorem dX1_takeZoned_6 : decode cX1_takeZoned 6 = .ok (.isub, 1) := by decide +kernel
theorem dX1_takeZoned_7 : decode cX1_takeZoned 7 = .ok (.istore 4, 2) := by decide +kernel
theorem dX1_takeZoned_9 : decode cX1_takeZoned 9 = .ok (.iconst 0, 1) := by decide +kernel
theorem dX1_takeZoned_10 : decode cX1_takeZoned 10 = .ok (.istore 5, 2) := by decide +kernel
theorem dX1_takeZoned_12 : decode cX1_takeZoned 12 = .ok (.iload 5, 2) := by decide +kernel
theorem dX1_takeZoned_14 : decode cX1_takeZoned 14 = .ok (.bipush 64, 2) := by decide +kernel
theorem dX1_takeZoned_16 : decode cX1_takeZoned 16 = .ok (.if_icmp .ge 37, 3) := by decide +kernel
theorem dX1_takeZoned_19 : decode cX1_takeZoned 19 = .ok (.aload_n 0, 1) := by decide +kernel
theorem dX1_takeZoned_20 : decode cX1_takeZoned 20 = .ok (.getfield 11, 3) := by decide +kernel
theorem dX1_takeZoned_23 : decode cX1_takeZoned 23 = .ok (.iload 5, 2) := by decide +kernel
theorem dX1_takeZoned_25 : decode cX1_takeZoned 25 = .ok (.iload 5, 2) := by decide +kernel
theorem dX1_takeZoned_27 : decode cX1_takeZoned 27 = .ok (.iload_n 3, 1) := by decide +kernel
theorem dX1_takeZoned_28 : decode cX1_takeZoned 28 = .ok (.if_icmp .ge 17, 3) := by decide +kernel
theorem dX1_takeZoned_31 : decode cX1_takeZoned 31 = .ok (.aload_n 1, 1) := by decide +kernel
theorem dX1_takeZoned_32 : decode cX1_takeZoned 32 = .ok (.iload 4, 2) := by decide +kernel
theorem dX1_takeZoned_34 : decode cX1_takeZoned 34 = .ok (.iconst 2, 1) := by decide +kernel
theorem dX1_takeZoned_35 : decode cX1_takeZoned 35 = .ok (.iload 5, 2) := by decide +kernel
theorem dX1_takeZoned_37 : decode cX1_takeZoned 37 = .ok (.imul, 1) := by decide +kernel
theorem dX1_takeZoned_38 : decode cX1_takeZoned 38 = .ok (.isub, 1) := by decide +kernel
theorem dX1_takeZoned_39 : decode cX1_takeZoned 39 = .ok (.invokevirtual 23, 3) := by decide +kernel
theorem dX1_takeZoned_42 : decode cX1_takeZoned 42 = .ok (.goto 4, 3) := by decide +kernel
theorem dX1_takeZoned_45 : decode cX1_takeZoned 45 = .ok (.iconst 0, 1) := by decide +kernel
theorem dX1_takeZoned_46 : decode cX1_takeZoned 46 = .ok (.iastore, 1) := by decide +kernel
theorem dX1_takeZoned_47 : decode cX1_takeZoned 47 = .ok (.iinc 5 1, 3) := by decide +kernel
theorem dX1_takeZoned_50 : decode cX1_takeZoned 50 = .ok (.goto (-38), 3) := by decide +kernel
theorem dX1_takeZoned_53 : decode cX1_takeZoned 53 = .ok (.aload_n 0, 1) := by decide +kernel
theorem dX1_takeZoned_54 : decode cX1_takeZoned 54 = .ok (.aload_n 1, 1) := by decide +kernel
theorem dX1_takeZoned_55 : decode cX1_takeZoned 55 = .ok (.iload 4, 2) := by decide +kernel
theorem dX1_takeZoned_57 : decode cX1_takeZoned 57 = .ok (.iconst 1, 1) := by decide +kernel
theorem dX1_takeZoned_58 : decode cX1_takeZoned 58 = .ok (.isub, 1) := by decide +kernel
theorem dX1_takeZoned_59 : decode cX1_takeZoned 59 = .ok (.invokevirtual 23, 3) := by decide +kernel
theorem dX1_takeZoned_62 : decode cX1_takeZoned 62 = .ok (.invokestatic 29, 3) := by decide +kernel
theorem dX1_takeZoned_65 : decode cX1_takeZoned 65 = .ok (.putfield 19, 3) := by decide +kernel
theorem dX1_takeZoned_68 : decode cX1_takeZoned 68 = .ok (.aload_n 0, 1) := by decide +kernel
theorem dX1_takeZoned_69 : decode cX1_takeZoned 69 = .ok (.invokevirtual 33, 3) := by decide +kernel
theorem dX1_takeZoned_72 : decode cX1_takeZoned 72 = .ok (.return_, 1) := by decide +kernel
theorem dX1_takeNumber_0 : decode cX1_takeNumber 0 = .ok (.lload_n 1, 1) := by decide +kernel
theorem dX1_takeNumber_1 : decode cX1_takeNumber 1 = .ok (.lstore_n 3, 1) := by decide +kernel
theorem dX1_takeNumber_2 : decode cX1_takeNumber 2 = .ok (.iconst 0, 1) := by decide +kernel
theorem dX1_takeNumber_3 : decode cX1_takeNumber 3 = .ok (.istore 5, 2) := by decide +kernel
theorem dX1_takeNumber_5 : decode cX1_takeNumber 5 = .ok (.iload 5, 2) := by decide +kernel
theorem dX1_takeNumber_7 : decode cX1_takeNumber 7 = .ok (.bipush 64, 2) := by decide +kernel
theorem dX1_takeNumber_9 : decode cX1_takeNumber 9 = .ok (.if_icmp .ge 31, 3) := by decide +kernel
theorem dX1_takeNumber_12 : decode cX1_takeNumber 12 = .ok (.aload_n 0, 1) := by decide +kernel
theorem dX1_takeNumber_13 : decode cX1_takeNumber 13 = .ok (.getfield 11, 3) := by decide +kernel
theorem dX1_takeNumber_16 : decode cX1_takeNumber 16 = .ok (.iload 5, 2) := by decide +kernel
theorem dX1_takeNumber_18 : decode cX1_takeNumber 18 = .ok (.lload_n 3, 1) := by decide +kernel
theorem dX1_takeNumber_19 : decode cX1_takeNumber 19 = .ok (.ldc2_w 36, 3) := by decide +kernel
theorem dX1_takeNumber_22 : decode cX1_takeNumber 22 = .ok (.lrem, 1) := by decide +kernel
theorem dX1_takeNumber_23 : decode cX1_takeNumber 23 = .ok (.invokestatic 38, 3) := by decide +kernel
theorem dX1_takeNumber_26 : decode cX1_takeNumber 26 = .ok (.l2i, 1) := by decide +kernel
theorem dX1_takeNumber_27 : decode cX1_takeNumber 27 = .ok (.iastore, 1) := by decide +kernel
theorem dX1_takeNumber_28 : decode cX1_takeNumber 28 = .ok (.lload_n 3, 1) := by decide +kernel
theorem dX1_takeNumber_29 : decode cX1_takeNumber 29 = .ok (.ldc2_w 36, 3) := by decide +kernel
theorem dX1_takeNumber_32 : decode cX1_takeNumber 32 = .ok (.ldiv, 1) := by decide +kernel
theorem dX1_takeNumber_33 : decode cX1_takeNumber 33 = .ok (.lstore_n 3, 1) := by decide +kernel
theorem dX1_takeNumber_34 : decode cX1_takeNumber 34 = .ok (.iinc 5 1, 3) := by decide +kernel
theorem dX1_takeNumber_37 : decode cX1_takeNumber 37 = .ok (.goto (-32), 3) := by decide +kernel
theorem dX1_takeNumber_40 : decode cX1_takeNumber 40 = .ok (.aload_n 0, 1) := by decide +kernel
theorem dX1_takeNumber_41 : decode cX1_takeNumber 41 = .ok (.lload_n 1, 1) := by decide +kernel
theorem dX1_takeNumber_42 : decode cX1_takeNumber 42 = .ok (.lconst 0, 1) := by decide +kernel
theorem dX1_takeNumber_43 : decode cX1_takeNumber 43 = .ok (.lcmp, 1) := by decide +kernel
theorem dX1_takeNumber_44 : decode cX1_takeNumber 44 = .ok (.ifCond .ge 7, 3) := by decide +kernel
theorem dX1_takeNumber_47 : decode cX1_takeNumber 47 = .ok (.iconst 1, 1) := by decide +kernel
theorem dX1_takeNumber_48 : decode cX1_takeNumber 48 = .ok (.goto 4, 3) := by decide +kernel
theorem dX1_takeNumber_51 : decode cX1_takeNumber 51 = .ok (.iconst 0, 1) := by decide +kernel
theorem dX1_takeNumber_52 : decode cX1_takeNumber 52 = .ok (.putfield 19, 3) := by decide +kernel
theorem dX1_takeNumber_55 : decode cX1_takeNumber 55 = .ok (.aload_n 0, 1) := by decide +kernel
theorem dX1_takeNumber_56 : decode cX1_takeNumber 56 = .ok (.invokevirtual 33, 3) := by decide +kernel
theorem dX1_takeNumber_59 : decode cX1_takeNumber 59 = .ok (.return_, 1) := by decide +kernel
theorem dX1_magnitude_0 : decode cX1_magnitude 0 = .ok (.lconst 0, 1) := by decide +kernel
theorem dX1_magnitude_1 : decode cX1_magnitude 1 = .ok (.lstore_n 1, 1) := by decide +kernel
theorem dX1_magnitude_2 : decode cX1_magnitude 2 = .ok (.aload_n 0, 1) := by decide +kernel
theorem dX1_magnitude_3 : decode cX1_magnitude 3 = .ok (.getfield 15, 3) := by decide +kernel
theorem dX1_magnitude_6 : decode cX1_magnitude 6 = .ok (.bipush 18, 2) := by decide +kernel
theorem dX1_magnitude_8 : decode cX1_magnitude 8 = .ok (.invokestatic 44, 3) := by decide +kernel
theorem dX1_magnitude_11 : decode cX1_magnitude 11 = .ok (.iconst 1, 1) := by decide +kernel
theorem dX1_magnitude_12 : decode cX1_magnitude 12 = .ok (.isub, 1) := by decide +kernel
theorem dX1_magnitude_13 : decode cX1_magnitude 13 = .ok (.istore_n 3, 1) := by decide +kernel
theorem dX1_magnitude_14 : decode cX1_magnitude 14 = .ok (.iload_n 3, 1) := by decide +kernel
theorem dX1_magnitude_15 : decode cX1_magnitude 15 = .ok (.ifCond .lt 23, 3) := by decide +kernel
theorem dX1_magnitude_18 : decode cX1_magnitude 18 = .ok (.lload_n 1, 1) := by decide +kernel
theorem dX1_magnitude_19 : decode cX1_magnitude 19 = .ok (.ldc2_w 36, 3) := by decide +kernel
theorem dX1_magnitude_22 : decode cX1_magnitude 22 = .ok (.lmul, 1) := by decide +kernel
theorem dX1_magnitude_23 : decode cX1_magnitude 23 = .ok (.aload_n 0, 1) := by decide +kernel
theorem dX1_magnitude_24 : decode cX1_magnitude 24 = .ok (.getfield 11, 3) := by decide +kernel
theorem dX1_magnitude_27 : decode cX1_magnitude 27 = .ok (.iload_n 3, 1) := by decide +kernel
theorem dX1_magnitude_28 : decode cX1_magnitude 28 = .ok (.iaload, 1) := by decide +kernel
theorem dX1_magnitude_29 : decode cX1_magnitude 29 = .ok (.i2l, 1) := by decide +kernel
theorem dX1_magnitude_30 : decode cX1_magnitude 30 = .ok (.ladd, 1) := by decide +kernel
theorem dX1_magnitude_31 : decode cX1_magnitude 31 = .ok (.lstore_n 1, 1) := by decide +kernel
theorem dX1_magnitude_32 : decode cX1_magnitude 32 = .ok (.iinc 3 (-1), 3) := by decide +kernel
theorem dX1_magnitude_35 : decode cX1_magnitude 35 = .ok (.goto (-21), 3) := by decide +kernel
theorem dX1_magnitude_38 : decode cX1_magnitude 38 = .ok (.lload_n 1, 1) := by decide +kernel
theorem dX1_magnitude_39 : decode cX1_magnitude 39 = .ok (.lreturn, 1) := by decide +kernel
theorem dX1_value_0 : decode cX1_value 0 = .ok (.aload_n 0, 1) := by decide +kernel
theorem dX1_value_1 : decode cX1_value 1 = .ok (.getfield 19, 3) := by decide +kernel
theorem dX1_value_4 : decode cX1_value 4 = .ok (.ifCond .eq 11, 3) := by decide +kernel
theorem dX1_value_7 : decode cX1_value 7 = .ok (.aload_n 0, 1) := by decide +kernel
theorem dX1_value_8 : decode cX1_value 8 = .ok (.invokevirtual 48, 3) := by decide +kernel
theorem dX1_value_11 : decode cX1_value 11 = .ok (.lneg, 1) := by decide +kernel
theorem dX1_value_12 : decode cX1_value 12 = .ok (.goto 7, 3) := by decide +kernel
theorem dX1_value_15 : decode cX1_value 15 = .ok (.aload_n 0, 1) := by decide +kernel
theorem dX1_value_16 : decode cX1_value 16 = .ok (.invokevirtual 48, 3) := by decide +kernel
theorem dX1_value_19 : decode cX1_value 19 = .ok (.lreturn, 1) := by decide +kernel
theorem dX1_put_0 : decode cX1_put 0 = .ok (.iload 4, 2) := by decide +kernel
theorem dX1_put_2 : decode cX1_put 2 = .ok (.istore 5, 2) := by decide +kernel
theorem dX1_put_4 : decode cX1_put 4 = .ok (.iconst 0, 1) := by decide +kernel
theorem dX1_put_5 : decode cX1_put 5 = .ok (.istore 6, 2) := by decide +kernel
theorem dX1_put_7 : decode cX1_put 7 = .ok (.iload 6, 2) := by decide +kernel
theorem dX1_put_9 : decode cX1_put 9 = .ok (.iload_n 3, 1) := by decide +kernel
theorem dX1_put_10 : decode cX1_put 10 = .ok (.if_icmp .ge 77, 3) := by decide +kernel
theorem dX1_put_13 : decode cX1_put 13 = .ok (.iconst 2, 1) := by decide +kernel
theorem dX1_put_14 : decode cX1_put 14 = .ok (.iload 6, 2) := by decide +kernel
theorem dX1_put_16 : decode cX1_put 16 = .ok (.imul, 1) := by decide +kernel
theorem dX1_put_17 : decode cX1_put 17 = .ok (.iconst 1, 1) := by decide +kernel
theorem dX1_put_18 : decode cX1_put 18 = .ok (.iadd, 1) := by decide +kernel
theorem dX1_put_19 : decode cX1_put 19 = .ok (.bipush 64, 2) := by decide +kernel
theorem dX1_put_21 : decode cX1_put 21 = .ok (.if_icmp .ge 66, 3) := by decide +kernel
theorem dX1_put_24 : decode cX1_put 24 = .ok (.iload_n 2, 1) := by decide +kernel
theorem dX1_put_25 : decode cX1_put 25 = .ok (.iload_n 3, 1) := by decide +kernel
theorem dX1_put_26 : decode cX1_put 26 = .ok (.iadd, 1) := by decide +kernel
theorem dX1_put_27 : decode cX1_put 27 = .ok (.iconst 1, 1) := by decide +kernel
theorem dX1_put_28 : decode cX1_put 28 = .ok (.isub, 1) := by decide +kernel
theorem dX1_put_29 : decode cX1_put 29 = .ok (.iload 6, 2) := by decide +kernel
theorem dX1_put_31 : decode cX1_put 31 = .ok (.isub, 1) := by decide +kernel
theorem dX1_put_32 : decode cX1_put 32 = .ok (.istore 7, 2) := by decide +kernel
theorem dX1_put_34 : decode cX1_put 34 = .ok (.iload 7, 2) := by decide +kernel
theorem dX1_put_36 : decode cX1_put 36 = .ok (.ifCond .lt 32, 3) := by decide +kernel
theorem dX1_put_39 : decode cX1_put 39 = .ok (.iload 7, 2) := by decide +kernel
theorem dX1_put_41 : decode cX1_put 41 = .ok (.sipush 256, 3) := by decide +kernel
theorem dX1_put_44 : decode cX1_put 44 = .ok (.if_icmp .ge 24, 3) := by decide +kernel
theorem dX1_put_47 : decode cX1_put 47 = .ok (.aload_n 1, 1) := by decide +kernel
theorem dX1_put_48 : decode cX1_put 48 = .ok (.getfield 52, 3) := by decide +kernel
theorem dX1_put_51 : decode cX1_put 51 = .ok (.iload 7, 2) := by decide +kernel
theorem dX1_put_53 : decode cX1_put 53 = .ok (.aload_n 0, 1) := by decide +kernel
theorem dX1_put_54 : decode cX1_put 54 = .ok (.getfield 11, 3) := by decide +kernel
theorem dX1_put_57 : decode cX1_put 57 = .ok (.iconst 2, 1) := by decide +kernel
theorem dX1_put_58 : decode cX1_put 58 = .ok (.iload 6, 2) := by decide +kernel
theorem dX1_put_60 : decode cX1_put 60 = .ok (.imul, 1) := by decide +kernel
theorem dX1_put_61 : decode cX1_put 61 = .ok (.iaload, 1) := by decide +kernel
theorem dX1_put_62 : decode cX1_put 62 = .ok (.iconst 4, 1) := by decide +kernel
theorem dX1_put_63 : decode cX1_put 63 = .ok (.ishl, 1) := by decide +kernel
theorem dX1_put_64 : decode cX1_put 64 = .ok (.iload 5, 2) := by decide +kernel
theorem dX1_put_66 : decode cX1_put 66 = .ok (.ior, 1) := by decide +kernel
theorem dX1_put_67 : decode cX1_put 67 = .ok (.iastore, 1) := by decide +kernel
theorem dX1_put_68 : decode cX1_put 68 = .ok (.aload_n 0, 1) := by decide +kernel
theorem dX1_put_69 : decode cX1_put 69 = .ok (.getfield 11, 3) := by decide +kernel
theorem dX1_put_72 : decode cX1_put 72 = .ok (.iconst 2, 1) := by decide +kernel
theorem dX1_put_73 : decode cX1_put 73 = .ok (.iload 6, 2) := by decide +kernel
theorem dX1_put_75 : decode cX1_put 75 = .ok (.imul, 1) := by decide +kernel
theorem dX1_put_76 : decode cX1_put 76 = .ok (.iconst 1, 1) := by decide +kernel
theorem dX1_put_77 : decode cX1_put 77 = .ok (.iadd, 1) := by decide +kernel
theorem dX1_put_78 : decode cX1_put 78 = .ok (.iaload, 1) := by decide +kernel
theorem dX1_put_79 : decode cX1_put 79 = .ok (.istore 5, 2) := by decide +kernel
theorem dX1_put_81 : decode cX1_put 81 = .ok (.iinc 6 1, 3) := by decide +kernel
theorem dX1_put_84 : decode cX1_put 84 = .ok (.goto (-77), 3) := by decide +kernel
theorem dX1_put_87 : decode cX1_put 87 = .ok (.return_, 1) := by decide +kernel
theorem dX1_add_0 : decode cX1_add 0 = .ok (.aload_n 2, 1) := by decide +kernel
theorem dX1_add_1 : decode cX1_add 1 = .ok (.getfield 19, 3) := by decide +kernel
theorem dX1_add_4 : decode cX1_add 4 = .ok (.iload_n 3, 1) := by decide +kernel
theorem dX1_add_5 : decode cX1_add 5 = .ok (.if_icmp .eq 7, 3) := by decide +kernel
theorem dX1_add_8 : decode cX1_add 8 = .ok (.iconst 1, 1) := by decide +kernel
theorem dX1_add_9 : decode cX1_add 9 = .ok (.goto 4, 3) := by decide +kernel
theorem dX1_add_12 : decode cX1_add 12 = .ok (.iconst 0, 1) := by decide +kernel
theorem dX1_add_13 : decode cX1_add 13 = .ok (.istore 4, 2) := by decide +kernel
theorem dX1_add_15 : decode cX1_add 15 = .ok (.aload_n 1, 1) := by decide +kernel
theorem dX1_add_16 : decode cX1_add 16 = .ok (.getfield 19, 3) := by decide +kernel
theorem dX1_add_19 : decode cX1_add 19 = .ok (.iload 4, 2) := by decide +kernel
theorem dX1_add_21 : decode cX1_add 21 = .ok (.if_icmp .ne 20, 3) := by decide +kernel
theorem dX1_add_24 : decode cX1_add 24 = .ok (.aload_n 0, 1) := by decide +kernel
theorem dX1_add_25 : decode cX1_add 25 = .ok (.aload_n 1, 1) := by decide +kernel
theorem dX1_add_26 : decode cX1_add 26 = .ok (.aload_n 2, 1) := by decide +kernel
theorem dX1_add_27 : decode cX1_add 27 = .ok (.invokevirtual 55, 3) := by decide +kernel
theorem dX1_add_30 : decode cX1_add 30 = .ok (.aload_n 0, 1) := by decide +kernel
theorem dX1_add_31 : decode cX1_add 31 = .ok (.aload_n 1, 1) := by decide +kernel
theorem dX1_add_32 : decode cX1_add 32 = .ok (.getfield 19, 3) := by decide +kernel
theorem dX1_add_35 : decode cX1_add 35 = .ok (.putfield 19, 3) := by decide +kernel
theorem dX1_add_38 : decode cX1_add 38 = .ok (.goto 40, 3) := by decide +kernel
theorem dX1_add_41 : decode cX1_add 41 = .ok (.aload_n 1, 1) := by decide +kernel
theorem dX1_add_42 : decode cX1_add 42 = .ok (.aload_n 2, 1) := by decide +kernel
theorem dX1_add_43 : decode cX1_add 43 = .ok (.invokestatic 59, 3) := by decide +kernel
theorem dX1_add_46 : decode cX1_add 46 = .ok (.ifCond .eq 18, 3) := by decide +kernel
theorem dX1_add_49 : decode cX1_add 49 = .ok (.aload_n 0, 1) := by decide +kernel
theorem dX1_add_50 : decode cX1_add 50 = .ok (.aload_n 2, 1) := by decide +kernel
theorem dX1_add_51 : decode cX1_add 51 = .ok (.aload_n 1, 1) := by decide +kernel
theorem dX1_add_52 : decode cX1_add 52 = .ok (.invokevirtual 63, 3) := by decide +kernel
theorem dX1_add_55 : decode cX1_add 55 = .ok (.aload_n 0, 1) := by decide +kernel
theorem dX1_add_56 : decode cX1_add 56 = .ok (.iload 4, 2) := by decide +kernel
theorem dX1_add_58 : decode cX1_add 58 = .ok (.putfield 19, 3) := by decide +kernel
theorem dX1_add_61 : decode cX1_add 61 = .ok (.goto 17, 3) := by decide +kernel
theorem dX1_add_64 : decode cX1_add 64 = .ok (.aload_n 0, 1) := by decide +kernel
theorem dX1_add_65 : decode cX1_add 65 = .ok (.aload_n 1, 1) := by decide +kernel
theorem dX1_add_66 : decode cX1_add 66 = .ok (.aload_n 2, 1) := by decide +kernel
theorem dX1_add_67 : decode cX1_add 67 = .ok (.invokevirtual 63, 3) := by decide +kernel
theorem dX1_add_70 : decode cX1_add 70 = .ok (.aload_n 0, 1) := by decide +kernel
theorem dX1_add_71 : decode cX1_add 71 = .ok (.aload_n 1, 1) := by decide +kernel
theorem dX1_add_72 : decode cX1_add 72 = .ok (.getfield 19, 3) := by decide +kernel
theorem dX1_add_75 : decode cX1_add 75 = .ok (.putfield 19, 3) := by decide +kernel
theorem dX1_add_78 : decode cX1_add 78 = .ok (.aload_n 0, 1) := by decide +kernel
theorem dX1_add_79 : decode cX1_add 79 = .ok (.invokevirtual 33, 3) := by decide +kernel
theorem dX1_add_82 : decode cX1_add 82 = .ok (.return_, 1) := by decide +kernel
theorem dX1_addDigits_0 : decode cX1_addDigits 0 = .ok (.iconst 0, 1) := by decide +kernel
theorem dX1_addDigits_1 : decode cX1_addDigits 1 = .ok (.istore_n 3, 1) := by decide +kernel
theorem dX1_addDigits_2 : decode cX1_addDigits 2 = .ok (.iconst 0, 1) := by decide +kernel
theorem dX1_addDigits_3 : decode cX1_addDigits 3 = .ok (.istore 4, 2) := by decide +kernel
theorem dX1_addDigits_5 : decode cX1_addDigits 5 = .ok (.iload 4, 2) := by decide +kernel
theorem dX1_addDigits_7 : decode cX1_addDigits 7 = .ok (.bipush 64, 2) := by decide +kernel
theorem dX1_addDigits_9 : decode cX1_addDigits 9 = .ok (.if_icmp .ge 55, 3) := by decide +kernel
theorem dX1_addDigits_12 : decode cX1_addDigits 12 = .ok (.aload_n 1, 1) := by decide +kernel
theorem dX1_addDigits_13 : decode cX1_addDigits 13 = .ok (.getfield 11, 3) := by decide +kernel
theorem dX1_addDigits_16 : decode cX1_addDigits 16 = .ok (.iload 4, 2) := by decide +kernel
theorem dX1_addDigits_18 : decode cX1_addDigits 18 = .ok (.iaload, 1) := by decide +kernel
theorem dX1_addDigits_19 : decode cX1_addDigits 19 = .ok (.aload_n 2, 1) := by decide +kernel
theorem dX1_addDigits_20 : decode cX1_addDigits 20 = .ok (.getfield 11, 3) := by decide +kernel
theorem dX1_addDigits_23 : decode cX1_addDigits 23 = .ok (.iload 4, 2) := by decide +kernel
theorem dX1_addDigits_25 : decode cX1_addDigits 25 = .ok (.iaload, 1) := by decide +kernel
theorem dX1_addDigits_26 : decode cX1_addDigits 26 = .ok (.iadd, 1) := by decide +kernel
theorem dX1_addDigits_27 : decode cX1_addDigits 27 = .ok (.iload_n 3, 1) := by decide +kernel
theorem dX1_addDigits_28 : decode cX1_addDigits 28 = .ok (.iadd, 1) := by decide +kernel
theorem dX1_addDigits_29 : decode cX1_addDigits 29 = .ok (.istore 5, 2) := by decide +kernel
theorem dX1_addDigits_31 : decode cX1_addDigits 31 = .ok (.iload 5, 2) := by decide +kernel
theorem dX1_addDigits_33 : decode cX1_addDigits 33 = .ok (.bipush 9, 2) := by decide +kernel
theorem dX1_addDigits_35 : decode cX1_addDigits 35 = .ok (.if_icmp .le 7, 3) := by decide +kernel
theorem dX1_addDigits_38 : decode cX1_addDigits 38 = .ok (.iconst 1, 1) := by decide +kernel
theorem dX1_addDigits_39 : decode cX1_addDigits 39 = .ok (.goto 4, 3) := by decide +kernel
theorem dX1_addDigits_42 : decode cX1_addDigits 42 = .ok (.iconst 0, 1) := by decide +kernel
theorem dX1_addDigits_43 : decode cX1_addDigits 43 = .ok (.istore_n 3, 1) := by decide +kernel
theorem dX1_addDigits_44 : decode cX1_addDigits 44 = .ok (.aload_n 0, 1) := by decide +kernel
theorem dX1_addDigits_45 : decode cX1_addDigits 45 = .ok (.getfield 11, 3) := by decide +kernel
theorem dX1_addDigits_48 : decode cX1_addDigits 48 = .ok (.iload 4, 2) := by decide +kernel
theorem dX1_addDigits_50 : decode cX1_addDigits 50 = .ok (.iload 5, 2) := by decide +kernel
theorem dX1_addDigits_52 : decode cX1_addDigits 52 = .ok (.bipush 10, 2) := by decide +kernel
theorem dX1_addDigits_54 : decode cX1_addDigits 54 = .ok (.iload_n 3, 1) := by decide +kernel
theorem dX1_addDigits_55 : decode cX1_addDigits 55 = .ok (.imul, 1) := by decide +kernel
theorem dX1_addDigits_56 : decode cX1_addDigits 56 = .ok (.isub, 1) := by decide +kernel
theorem dX1_addDigits_57 : decode cX1_addDigits 57 = .ok (.iastore, 1) := by decide +kernel
theorem dX1_addDigits_58 : decode cX1_addDigits 58 = .ok (.iinc 4 1, 3) := by decide +kernel
theorem dX1_addDigits_61 : decode cX1_addDigits 61 = .ok (.goto (-56), 3) := by decide +kernel
theorem dX1_addDigits_64 : decode cX1_addDigits 64 = .ok (.return_, 1) := by decide +kernel
theorem dX1_subtractDigits_0 : decode cX1_subtractDigits 0 = .ok (.iconst 0, 1) := by decide +kernel
theorem dX1_subtractDigits_1 : decode cX1_subtractDigits 1 = .ok (.istore_n 3, 1) := by decide +kernel
theorem dX1_subtractDigits_2 : decode cX1_subtractDigits 2 = .ok (.iconst 0, 1) := by decide +kernel
theorem dX1_subtractDigits_3 : decode cX1_subtractDigits 3 = .ok (.istore 4, 2) := by decide +kernel
theorem dX1_subtractDigits_5 : decode cX1_subtractDigits 5 = .ok (.iload 4, 2) := by decide +kernel
theorem dX1_subtractDigits_7 : decode cX1_subtractDigits 7 = .ok (.bipush 64, 2) := by decide +kernel
theorem dX1_subtractDigits_9 : decode cX1_subtractDigits 9 = .ok (.if_icmp .ge 53, 3) := by decide +kernel
theorem dX1_subtractDigits_12 : decode cX1_subtractDigits 12 = .ok (.aload_n 1, 1) := by decide +kernel
theorem dX1_subtractDigits_13 : decode cX1_subtractDigits 13 = .ok (.getfield 11, 3) := by decide +kernel
theorem dX1_subtractDigits_16 : decode cX1_subtractDigits 16 = .ok (.iload 4, 2) := by decide +kernel
theorem dX1_subtractDigits_18 : decode cX1_subtractDigits 18 = .ok (.iaload, 1) := by decide +kernel
theorem dX1_subtractDigits_19 : decode cX1_subtractDigits 19 = .ok (.aload_n 2, 1) := by decide +kernel
theorem dX1_subtractDigits_20 : decode cX1_subtractDigits 20 = .ok (.getfield 11, 3) := by decide +kernel
theorem dX1_subtractDigits_23 : decode cX1_subtractDigits 23 = .ok (.iload 4, 2) := by decide +kernel
theorem dX1_subtractDigits_25 : decode cX1_subtractDigits 25 = .ok (.iaload, 1) := by decide +kernel
theorem dX1_subtractDigits_26 : decode cX1_subtractDigits 26 = .ok (.isub, 1) := by decide +kernel
theorem dX1_subtractDigits_27 : decode cX1_subtractDigits 27 = .ok (.iload_n 3, 1) := by decide +kernel
theorem dX1_subtractDigits_28 : decode cX1_subtractDigits 28 = .ok (.isub, 1) := by decide +kernel
theorem dX1_subtractDigits_29 : decode cX1_subtractDigits 29 = .ok (.istore 5, 2) := by decide +kernel
theorem dX1_subtractDigits_31 : decode cX1_subtractDigits 31 = .ok (.iload 5, 2) := by decide +kernel
theorem dX1_subtractDigits_33 : decode cX1_subtractDigits 33 = .ok (.ifCond .ge 7, 3) := by decide +kernel
theorem dX1_subtractDigits_36 : decode cX1_subtractDigits 36 = .ok (.iconst 1, 1) := by decide +kernel
theorem dX1_subtractDigits_37 : decode cX1_subtractDigits 37 = .ok (.goto 4, 3) := by decide +kernel
theorem dX1_subtractDigits_40 : decode cX1_subtractDigits 40 = .ok (.iconst 0, 1) := by decide +kernel
theorem dX1_subtractDigits_41 : decode cX1_subtractDigits 41 = .ok (.istore_n 3, 1) := by decide +kernel
theorem dX1_subtractDigits_42 : decode cX1_subtractDigits 42 = .ok (.aload_n 0, 1) := by decide +kernel
theorem dX1_subtractDigits_43 : decode cX1_subtractDigits 43 = .ok (.getfield 11, 3) := by decide +kernel
theorem dX1_subtractDigits_46 : decode cX1_subtractDigits 46 = .ok (.iload 4, 2) := by decide +kernel
theorem dX1_subtractDigits_48 : decode cX1_subtractDigits 48 = .ok (.iload 5, 2) := by decide +kernel
theorem dX1_subtractDigits_50 : decode cX1_subtractDigits 50 = .ok (.bipush 10, 2) := by decide +kernel
theorem dX1_subtractDigits_52 : decode cX1_subtractDigits 52 = .ok (.iload_n 3, 1) := by decide +kernel
theorem dX1_subtractDigits_53 : decode cX1_subtractDigits 53 = .ok (.imul, 1) := by decide +kernel
theorem dX1_subtractDigits_54 : decode cX1_subtractDigits 54 = .ok (.iadd, 1) := by decide +kernel
theorem dX1_subtractDigits_55 : decode cX1_subtractDigits 55 = .ok (.iastore, 1) := by decide +kernel
theorem dX1_subtractDigits_56 : decode cX1_subtractDigits 56 = .ok (.iinc 4 1, 3) := by decide +kernel
theorem dX1_subtractDigits_59 : decode cX1_subtractDigits 59 = .ok (.goto (-54), 3) := by decide +kernel
theorem dX1_subtractDigits_62 : decode cX1_subtractDigits 62 = .ok (.return_, 1) := by decide +kernel
theorem dX1_isLess_0 : decode cX1_isLess 0 = .ok (.bipush 63, 2) := by decide +kernel
theorem dX1_isLess_2 : decode cX1_isLess 2 = .ok (.istore_n 2, 1) := by decide +kernel
theorem dX1_isLess_3 : decode cX1_isLess 3 = .ok (.iload_n 2, 1) := by decide +kernel
theorem dX1_isLess_4 : decode cX1_isLess 4 = .ok (.ifCond .lt 45, 3) := by decide +kernel
theorem dX1_isLess_7 : decode cX1_isLess 7 = .ok (.aload_n 0, 1) := by decide +kernel
theorem dX1_isLess_8 : decode cX1_isLess 8 = .ok (.getfield 11, 3) := by decide +kernel
theorem dX1_isLess_11 : decode cX1_isLess 11 = .ok (.iload_n 2, 1) := by decide +kernel
theorem dX1_isLess_12 : decode cX1_isLess 12 = .ok (.iaload, 1) := by decide +kernel
theorem dX1_isLess_13 : decode cX1_isLess 13 = .ok (.aload_n 1, 1) := by decide +kernel
theorem dX1_isLess_14 : decode cX1_isLess 14 = .ok (.getfield 11, 3) := by decide +kernel
theorem dX1_isLess_17 : decode cX1_isLess 17 = .ok (.iload_n 2, 1) := by decide +kernel
theorem dX1_isLess_18 : decode cX1_isLess 18 = .ok (.iaload, 1) := by decide +kernel
theorem dX1_isLess_19 : decode cX1_isLess 19 = .ok (.if_icmp .eq 24, 3) := by decide +kernel
theorem dX1_isLess_22 : decode cX1_isLess 22 = .ok (.aload_n 0, 1) := by decide +kernel
theorem dX1_isLess_23 : decode cX1_isLess 23 = .ok (.getfield 11, 3) := by decide +kernel
theorem dX1_isLess_26 : decode cX1_isLess 26 = .ok (.iload_n 2, 1) := by decide +kernel
theorem dX1_isLess_27 : decode cX1_isLess 27 = .ok (.iaload, 1) := by decide +kernel
theorem dX1_isLess_28 : decode cX1_isLess 28 = .ok (.aload_n 1, 1) := by decide +kernel
theorem dX1_isLess_29 : decode cX1_isLess 29 = .ok (.getfield 11, 3) := by decide +kernel
theorem dX1_isLess_32 : decode cX1_isLess 32 = .ok (.iload_n 2, 1) := by decide +kernel
theorem dX1_isLess_33 : decode cX1_isLess 33 = .ok (.iaload, 1) := by decide +kernel
theorem dX1_isLess_34 : decode cX1_isLess 34 = .ok (.if_icmp .ge 7, 3) := by decide +kernel
theorem dX1_isLess_37 : decode cX1_isLess 37 = .ok (.iconst 1, 1) := by decide +kernel
theorem dX1_isLess_38 : decode cX1_isLess 38 = .ok (.goto 4, 3) := by decide +kernel
theorem dX1_isLess_41 : decode cX1_isLess 41 = .ok (.iconst 0, 1) := by decide +kernel
theorem dX1_isLess_42 : decode cX1_isLess 42 = .ok (.ireturn, 1) := by decide +kernel
theorem dX1_isLess_43 : decode cX1_isLess 43 = .ok (.iinc 2 (-1), 3) := by decide +kernel
theorem dX1_isLess_46 : decode cX1_isLess 46 = .ok (.goto (-43), 3) := by decide +kernel
theorem dX1_isLess_49 : decode cX1_isLess 49 = .ok (.iconst 0, 1) := by decide +kernel
theorem dX1_isLess_50 : decode cX1_isLess 50 = .ok (.ireturn, 1) := by decide +kernel
theorem dX1_multiply_0 : decode cX1_multiply 0 = .ok (.iconst 0, 1) := by decide +kernel
theorem dX1_multiply_1 : decode cX1_multiply 1 = .ok (.istore_n 3, 1) := by decide +kernel
theorem dX1_multiply_2 : decode cX1_multiply 2 = .ok (.iconst 0, 1) := by decide +kernel
theorem dX1_multiply_3 : decode cX1_multiply 3 = .ok (.istore 4, 2) := by decide +kernel
theorem dX1_multiply_5 : decode cX1_multiply 5 = .ok (.iload 4, 2) := by decide +kernel
theorem dX1_multiply_7 : decode cX1_multiply 7 = .ok (.bipush 64, 2) := by decide +kernel
theorem dX1_multiply_9 : decode cX1_multiply 9 = .ok (.if_icmp .ge 90, 3) := by decide +kernel
theorem dX1_multiply_12 : decode cX1_multiply 12 = .ok (.iload_n 3, 1) := by decide +kernel
theorem dX1_multiply_13 : decode cX1_multiply 13 = .ok (.istore 5, 2) := by decide +kernel
theorem dX1_multiply_15 : decode cX1_multiply 15 = .ok (.iconst 0, 1) := by decide +kernel
theorem dX1_multiply_16 : decode cX1_multiply 16 = .ok (.iload 4, 2) := by decide +kernel
theorem dX1_multiply_18 : decode cX1_multiply 18 = .ok (.aload_n 2, 1) := by decide +kernel
theorem dX1_multiply_19 : decode cX1_multiply 19 = .ok (.getfield 15, 3) := by decide +kernel
theorem dX1_multiply_22 : decode cX1_multiply 22 = .ok (.isub, 1) := by decide +kernel
theorem dX1_multiply_23 : decode cX1_multiply 23 = .ok (.iconst 1, 1) := by decide +kernel
theorem dX1_multiply_24 : decode cX1_multiply 24 = .ok (.iadd, 1) := by decide +kernel
theorem dX1_multiply_25 : decode cX1_multiply 25 = .ok (.invokestatic 66, 3) := by decide +kernel
theorem dX1_multiply_28 : decode cX1_multiply 28 = .ok (.istore 6, 2) := by decide +kernel
theorem dX1_multiply_30 : decode cX1_multiply 30 = .ok (.iload 6, 2) := by decide +kernel
theorem dX1_multiply_32 : decode cX1_multiply 32 = .ok (.iload 4, 2) := by decide +kernel
theorem dX1_multiply_34 : decode cX1_multiply 34 = .ok (.if_icmp .gt 41, 3) := by decide +kernel
theorem dX1_multiply_37 : decode cX1_multiply 37 = .ok (.iload 6, 2) := by decide +kernel
theorem dX1_multiply_39 : decode cX1_multiply 39 = .ok (.aload_n 1, 1) := by decide +kernel
theorem dX1_multiply_40 : decode cX1_multiply 40 = .ok (.getfield 15, 3) := by decide +kernel
theorem dX1_multiply_43 : decode cX1_multiply 43 = .ok (.if_icmp .ge 32, 3) := by decide +kernel
theorem dX1_multiply_46 : decode cX1_multiply 46 = .ok (.iload 5, 2) := by decide +kernel
theorem dX1_multiply_48 : decode cX1_multiply 48 = .ok (.aload_n 1, 1) := by decide +kernel
theorem dX1_multiply_49 : decode cX1_multiply 49 = .ok (.getfield 11, 3) := by decide +kernel
theorem dX1_multiply_52 : decode cX1_multiply 52 = .ok (.iload 6, 2) := by decide +kernel
theorem dX1_multiply_54 : decode cX1_multiply 54 = .ok (.iaload, 1) := by decide +kernel
theorem dX1_multiply_55 : decode cX1_multiply 55 = .ok (.aload_n 2, 1) := by decide +kernel
theorem dX1_multiply_56 : decode cX1_multiply 56 = .ok (.getfield 11, 3) := by decide +kernel
theorem dX1_multiply_59 : decode cX1_multiply 59 = .ok (.iload 4, 2) := by decide +kernel
theorem dX1_multiply_61 : decode cX1_multiply 61 = .ok (.iload 6, 2) := by decide +kernel
theorem dX1_multiply_63 : decode cX1_multiply 63 = .ok (.isub, 1) := by decide +kernel
theorem dX1_multiply_64 : decode cX1_multiply 64 = .ok (.iaload, 1) := by decide +kernel
theorem dX1_multiply_65 : decode cX1_multiply 65 = .ok (.imul, 1) := by decide +kernel
theorem dX1_multiply_66 : decode cX1_multiply 66 = .ok (.iadd, 1) := by decide +kernel
theorem dX1_multiply_67 : decode cX1_multiply 67 = .ok (.istore 5, 2) := by decide +kernel
theorem dX1_multiply_69 : decode cX1_multiply 69 = .ok (.iinc 6 1, 3) := by decide +kernel
theorem dX1_multiply_72 : decode cX1_multiply 72 = .ok (.goto (-42), 3) := by decide +kernel
theorem dX1_multiply_75 : decode cX1_multiply 75 = .ok (.aload_n 0, 1) := by decide +kernel
theorem dX1_multiply_76 : decode cX1_multiply 76 = .ok (.getfield 11, 3) := by decide +kernel
theorem dX1_multiply_79 : decode cX1_multiply 79 = .ok (.iload 4, 2) := by decide +kernel
theorem dX1_multiply_81 : decode cX1_multiply 81 = .ok (.iload 5, 2) := by decide +kernel
theorem dX1_multiply_83 : decode cX1_multiply 83 = .ok (.bipush 10, 2) := by decide +kernel
theorem dX1_multiply_85 : decode cX1_multiply 85 = .ok (.irem, 1) := by decide +kernel
theorem dX1_multiply_86 : decode cX1_multiply 86 = .ok (.iastore, 1) := by decide +kernel
theorem dX1_multiply_87 : decode cX1_multiply 87 = .ok (.iload 5, 2) := by decide +kernel
theorem dX1_multiply_89 : decode cX1_multiply 89 = .ok (.bipush 10, 2) := by decide +kernel
theorem dX1_multiply_91 : decode cX1_multiply 91 = .ok (.idiv, 1) := by decide +kernel
theorem dX1_multiply_92 : decode cX1_multiply 92 = .ok (.istore_n 3, 1) := by decide +kernel
theorem dX1_multiply_93 : decode cX1_multiply 93 = .ok (.iinc 4 1, 3) := by decide +kernel
theorem dX1_multiply_96 : decode cX1_multiply 96 = .ok (.goto (-91), 3) := by decide +kernel
theorem dX1_multiply_99 : decode cX1_multiply 99 = .ok (.aload_n 0, 1) := by decide +kernel
theorem dX1_multiply_100 : decode cX1_multiply 100 = .ok (.aload_n 1, 1) := by decide +kernel
theorem dX1_multiply_101 : decode cX1_multiply 101 = .ok (.getfield 19, 3) := by decide +kernel
theorem dX1_multiply_104 : decode cX1_multiply 104 = .ok (.aload_n 2, 1) := by decide +kernel
theorem dX1_multiply_105 : decode cX1_multiply 105 = .ok (.getfield 19, 3) := by decide +kernel
theorem dX1_multiply_108 : decode cX1_multiply 108 = .ok (.if_icmp .eq 7, 3) := by decide +kernel
theorem dX1_multiply_111 : decode cX1_multiply 111 = .ok (.iconst 1, 1) := by decide +kernel
theorem dX1_multiply_112 : decode cX1_multiply 112 = .ok (.goto 4, 3) := by decide +kernel
theorem dX1_multiply_115 : decode cX1_multiply 115 = .ok (.iconst 0, 1) := by decide +kernel
theorem dX1_multiply_116 : decode cX1_multiply 116 = .ok (.putfield 19, 3) := by decide +kernel
theorem dX1_multiply_119 : decode cX1_multiply 119 = .ok (.aload_n 0, 1) := by decide +kernel
theorem dX1_multiply_120 : decode cX1_multiply 120 = .ok (.invokevirtual 33, 3) := by decide +kernel
theorem dX1_multiply_123 : decode cX1_multiply 123 = .ok (.return_, 1) := by decide +kernel
theorem dX1_divide_0 : decode cX1_divide 0 = .ok (.lload_n 2, 1) := by decide +kernel
theorem dX1_divide_1 : decode cX1_divide 1 = .ok (.lconst 0, 1) := by decide +kernel
theorem dX1_divide_2 : decode cX1_divide 2 = .ok (.lcmp, 1) := by decide +kernel
theorem dX1_divide_3 : decode cX1_divide 3 = .ok (.ifCond .gt 7, 3) := by decide +kernel
theorem dX1_divide_6 : decode cX1_divide 6 = .ok (.ldc2_w 69, 3) := by decide +kernel
theorem dX1_divide_9 : decode cX1_divide 9 = .ok (.lreturn, 1) := by decide +kernel
theorem dX1_divide_10 : decode cX1_divide 10 = .ok (.lconst 0, 1) := by decide +kernel
theorem dX1_divide_11 : decode cX1_divide 11 = .ok (.lstore 4, 2) := by decide +kernel
theorem dX1_divide_13 : decode cX1_divide 13 = .ok (.bipush 63, 2) := by decide +kernel
theorem dX1_divide_15 : decode cX1_divide 15 = .ok (.istore 6, 2) := by decide +kernel
theorem dX1_divide_17 : decode cX1_divide 17 = .ok (.iload 6, 2) := by decide +kernel
theorem dX1_divide_19 : decode cX1_divide 19 = .ok (.ifCond .lt 44, 3) := by decide +kernel
theorem dX1_divide_22 : decode cX1_divide 22 = .ok (.lload 4, 2) := by decide +kernel
theorem dX1_divide_24 : decode cX1_divide 24 = .ok (.ldc2_w 36, 3) := by decide +kernel
theorem dX1_divide_27 : decode cX1_divide 27 = .ok (.lmul, 1) := by decide +kernel
theorem dX1_divide_28 : decode cX1_divide 28 = .ok (.aload_n 1, 1) := by decide +kernel
theorem dX1_divide_29 : decode cX1_divide 29 = .ok (.getfield 11, 3) := by decide +kernel
theorem dX1_divide_32 : decode cX1_divide 32 = .ok (.iload 6, 2) := by decide +kernel
theorem dX1_divide_34 : decode cX1_divide 34 = .ok (.iaload, 1) := by decide +kernel
theorem dX1_divide_35 : decode cX1_divide 35 = .ok (.i2l, 1) := by decide +kernel
theorem dX1_divide_36 : decode cX1_divide 36 = .ok (.ladd, 1) := by decide +kernel
theorem dX1_divide_37 : decode cX1_divide 37 = .ok (.lstore 4, 2) := by decide +kernel
theorem dX1_divide_39 : decode cX1_divide 39 = .ok (.aload_n 0, 1) := by decide +kernel
theorem dX1_divide_40 : decode cX1_divide 40 = .ok (.getfield 11, 3) := by decide +kernel
theorem dX1_divide_43 : decode cX1_divide 43 = .ok (.iload 6, 2) := by decide +kernel
theorem dX1_divide_45 : decode cX1_divide 45 = .ok (.lload 4, 2) := by decide +kernel
theorem dX1_divide_47 : decode cX1_divide 47 = .ok (.lload_n 2, 1) := by decide +kernel
theorem dX1_divide_48 : decode cX1_divide 48 = .ok (.ldiv, 1) := by decide +kernel
theorem dX1_divide_49 : decode cX1_divide 49 = .ok (.l2i, 1) := by decide +kernel
theorem dX1_divide_50 : decode cX1_divide 50 = .ok (.iastore, 1) := by decide +kernel
theorem dX1_divide_51 : decode cX1_divide 51 = .ok (.lload 4, 2) := by decide +kernel
theorem dX1_divide_53 : decode cX1_divide 53 = .ok (.lload_n 2, 1) := by decide +kernel
theorem dX1_divide_54 : decode cX1_divide 54 = .ok (.lrem, 1) := by decide +kernel
theorem dX1_divide_55 : decode cX1_divide 55 = .ok (.lstore 4, 2) := by decide +kernel
theorem dX1_divide_57 : decode cX1_divide 57 = .ok (.iinc 6 (-1), 3) := by decide +kernel
theorem dX1_divide_60 : decode cX1_divide 60 = .ok (.goto (-43), 3) := by decide +kernel
theorem dX1_divide_63 : decode cX1_divide 63 = .ok (.aload_n 0, 1) := by decide +kernel
theorem dX1_divide_64 : decode cX1_divide 64 = .ok (.invokevirtual 33, 3) := by decide +kernel
theorem dX1_divide_67 : decode cX1_divide 67 = .ok (.lload 4, 2) := by decide +kernel
theorem dX1_divide_69 : decode cX1_divide 69 = .ok (.lreturn, 1) := by decide +kernel
theorem dX1_shiftLeft_0 : decode cX1_shiftLeft 0 = .ok (.iconst 0, 1) := by decide +kernel
theorem dX1_shiftLeft_1 : decode cX1_shiftLeft 1 = .ok (.istore_n 3, 1) := by decide +kernel
theorem dX1_shiftLeft_2 : decode cX1_shiftLeft 2 = .ok (.iload_n 3, 1) := by decide +kernel
theorem dX1_shiftLeft_3 : decode cX1_shiftLeft 3 = .ok (.bipush 64, 2) := by decide +kernel
theorem dX1_shiftLeft_5 : decode cX1_shiftLeft 5 = .ok (.if_icmp .ge 22, 3) := by decide +kernel
theorem dX1_shiftLeft_8 : decode cX1_shiftLeft 8 = .ok (.aload_n 0, 1) := by decide +kernel
theorem dX1_shiftLeft_9 : decode cX1_shiftLeft 9 = .ok (.getfield 11, 3) := by decide +kernel
theorem dX1_shiftLeft_12 : decode cX1_shiftLeft 12 = .ok (.iload_n 3, 1) := by decide +kernel
theorem dX1_shiftLeft_13 : decode cX1_shiftLeft 13 = .ok (.aload_n 1, 1) := by decide +kernel
theorem dX1_shiftLeft_14 : decode cX1_shiftLeft 14 = .ok (.iload_n 3, 1) := by decide +kernel
theorem dX1_shiftLeft_15 : decode cX1_shiftLeft 15 = .ok (.iload_n 2, 1) := by decide +kernel
theorem dX1_shiftLeft_16 : decode cX1_shiftLeft 16 = .ok (.isub, 1) := by decide +kernel
theorem dX1_shiftLeft_17 : decode cX1_shiftLeft 17 = .ok (.invokevirtual 71, 3) := by decide +kernel
theorem dX1_shiftLeft_20 : decode cX1_shiftLeft 20 = .ok (.iastore, 1) := by decide +kernel
theorem dX1_shiftLeft_21 : decode cX1_shiftLeft 21 = .ok (.iinc 3 1, 3) := by decide +kernel
theorem dX1_shiftLeft_24 : decode cX1_shiftLeft 24 = .ok (.goto (-22), 3) := by decide +kernel
theorem dX1_shiftLeft_27 : decode cX1_shiftLeft 27 = .ok (.aload_n 0, 1) := by decide +kernel
theorem dX1_shiftLeft_28 : decode cX1_shiftLeft 28 = .ok (.aload_n 1, 1) := by decide +kernel
theorem dX1_shiftLeft_29 : decode cX1_shiftLeft 29 = .ok (.getfield 19, 3) := by decide +kernel
theorem dX1_shiftLeft_32 : decode cX1_shiftLeft 32 = .ok (.putfield 19, 3) := by decide +kernel
theorem dX1_shiftLeft_35 : decode cX1_shiftLeft 35 = .ok (.aload_n 0, 1) := by decide +kernel
theorem dX1_shiftLeft_36 : decode cX1_shiftLeft 36 = .ok (.invokevirtual 33, 3) := by decide +kernel
theorem dX1_shiftLeft_39 : decode cX1_shiftLeft 39 = .ok (.return_, 1) := by decide +kernel
theorem dX1_shiftRight_0 : decode cX1_shiftRight 0 = .ok (.aload_n 1, 1) := by decide +kernel
theorem dX1_shiftRight_1 : decode cX1_shiftRight 1 = .ok (.iload_n 2, 1) := by decide +kernel
theorem dX1_shiftRight_2 : decode cX1_shiftRight 2 = .ok (.iconst 1, 1) := by decide +kernel
theorem dX1_shiftRight_3 : decode cX1_shiftRight 3 = .ok (.isub, 1) := by decide +kernel
theorem dX1_shiftRight_4 : decode cX1_shiftRight 4 = .ok (.invokevirtual 71, 3) := by decide +kernel
theorem dX1_shiftRight_7 : decode cX1_shiftRight 7 = .ok (.iload_n 3, 1) := by decide +kernel
theorem dX1_shiftRight_8 : decode cX1_shiftRight 8 = .ok (.iadd, 1) := by decide +kernel
theorem dX1_shiftRight_9 : decode cX1_shiftRight 9 = .ok (.bipush 9, 2) := by decide +kernel
theorem dX1_shiftRight_11 : decode cX1_shiftRight 11 = .ok (.if_icmp .le 7, 3) := by decide +kernel
theorem dX1_shiftRight_14 : decode cX1_shiftRight 14 = .ok (.iconst 1, 1) := by decide +kernel
theorem dX1_shiftRight_15 : decode cX1_shiftRight 15 = .ok (.goto 4, 3) := by decide +kernel
theorem dX1_shiftRight_18 : decode cX1_shiftRight 18 = .ok (.iconst 0, 1) := by decide +kernel
theorem dX1_shiftRight_19 : decode cX1_shiftRight 19 = .ok (.istore 4, 2) := by decide +kernel
theorem dX1_shiftRight_21 : decode cX1_shiftRight 21 = .ok (.iconst 0, 1) := by decide +kernel
theorem dX1_shiftRight_22 : decode cX1_shiftRight 22 = .ok (.istore 5, 2) := by decide +kernel
theorem dX1_shiftRight_24 : decode cX1_shiftRight 24 = .ok (.iload 5, 2) := by decide +kernel
theorem dX1_shiftRight_26 : decode cX1_shiftRight 26 = .ok (.bipush 64, 2) := by decide +kernel
theorem dX1_shiftRight_28 : decode cX1_shiftRight 28 = .ok (.if_icmp .ge 51, 3) := by decide +kernel
theorem dX1_shiftRight_31 : decode cX1_shiftRight 31 = .ok (.aload_n 1, 1) := by decide +kernel
theorem dX1_shiftRight_32 : decode cX1_shiftRight 32 = .ok (.iload 5, 2) := by decide +kernel
theorem dX1_shiftRight_34 : decode cX1_shiftRight 34 = .ok (.iload_n 2, 1) := by decide +kernel
theorem dX1_shiftRight_35 : decode cX1_shiftRight 35 = .ok (.iadd, 1) := by decide +kernel
theorem dX1_shiftRight_36 : decode cX1_shiftRight 36 = .ok (.invokevirtual 71, 3) := by decide +kernel
theorem dX1_shiftRight_39 : decode cX1_shiftRight 39 = .ok (.iload 4, 2) := by decide +kernel
theorem dX1_shiftRight_41 : decode cX1_shiftRight 41 = .ok (.iadd, 1) := by decide +kernel
theorem dX1_shiftRight_42 : decode cX1_shiftRight 42 = .ok (.istore 6, 2) := by decide +kernel
theorem dX1_shiftRight_44 : decode cX1_shiftRight 44 = .ok (.iload 6, 2) := by decide +kernel
theorem dX1_shiftRight_46 : decode cX1_shiftRight 46 = .ok (.bipush 9, 2) := by decide +kernel
theorem dX1_shiftRight_48 : decode cX1_shiftRight 48 = .ok (.if_icmp .le 7, 3) := by decide +kernel
theorem dX1_shiftRight_51 : decode cX1_shiftRight 51 = .ok (.iconst 1, 1) := by decide +kernel
theorem dX1_shiftRight_52 : decode cX1_shiftRight 52 = .ok (.goto 4, 3) := by decide +kernel
theorem dX1_shiftRight_55 : decode cX1_shiftRight 55 = .ok (.iconst 0, 1) := by decide +kernel
theorem dX1_shiftRight_56 : decode cX1_shiftRight 56 = .ok (.istore 4, 2) := by decide +kernel
theorem dX1_shiftRight_58 : decode cX1_shiftRight 58 = .ok (.aload_n 0, 1) := by decide +kernel
theorem dX1_shiftRight_59 : decode cX1_shiftRight 59 = .ok (.getfield 11, 3) := by decide +kernel
theorem dX1_shiftRight_62 : decode cX1_shiftRight 62 = .ok (.iload 5, 2) := by decide +kernel
theorem dX1_shiftRight_64 : decode cX1_shiftRight 64 = .ok (.iload 6, 2) := by decide +kernel
theorem dX1_shiftRight_66 : decode cX1_shiftRight 66 = .ok (.bipush 10, 2) := by decide +kernel
theorem dX1_shiftRight_68 : decode cX1_shiftRight 68 = .ok (.iload 4, 2) := by decide +kernel
theorem dX1_shiftRight_70 : decode cX1_shiftRight 70 = .ok (.imul, 1) := by decide +kernel
theorem dX1_shiftRight_71 : decode cX1_shiftRight 71 = .ok (.isub, 1) := by decide +kernel
theorem dX1_shiftRight_72 : decode cX1_shiftRight 72 = .ok (.iastore, 1) := by decide +kernel
theorem dX1_shiftRight_73 : decode cX1_shiftRight 73 = .ok (.iinc 5 1, 3) := by decide +kernel
theorem dX1_shiftRight_76 : decode cX1_shiftRight 76 = .ok (.goto (-52), 3) := by decide +kernel
theorem dX1_shiftRight_79 : decode cX1_shiftRight 79 = .ok (.aload_n 0, 1) := by decide +kernel
theorem dX1_shiftRight_80 : decode cX1_shiftRight 80 = .ok (.aload_n 1, 1) := by decide +kernel
theorem dX1_shiftRight_81 : decode cX1_shiftRight 81 = .ok (.getfield 19, 3) := by decide +kernel
theorem dX1_shiftRight_84 : decode cX1_shiftRight 84 = .ok (.putfield 19, 3) := by decide +kernel
theorem dX1_shiftRight_87 : decode cX1_shiftRight 87 = .ok (.aload_n 0, 1) := by decide +kernel
theorem dX1_shiftRight_88 : decode cX1_shiftRight 88 = .ok (.invokevirtual 33, 3) := by decide +kernel
theorem dX1_shiftRight_91 : decode cX1_shiftRight 91 = .ok (.return_, 1) := by decide +kernel
theorem dX1_isBelow_0 : decode cX1_isBelow 0 = .ok (.iload_n 0, 1) := by decide +kernel
theorem dX1_isBelow_1 : decode cX1_isBelow 1 = .ok (.bipush 11, 2) := by decide +kernel
theorem dX1_isBelow_3 : decode cX1_isBelow 3 = .ok (.if_icmp .eq 9, 3) := by decide +kernel
theorem dX1_isBelow_6 : decode cX1_isBelow 6 = .ok (.iload_n 0, 1) := by decide +kernel
theorem dX1_isBelow_7 : decode cX1_isBelow 7 = .ok (.bipush 13, 2) := by decide +kernel
theorem dX1_isBelow_9 : decode cX1_isBelow 9 = .ok (.if_icmp .ne 7, 3) := by decide +kernel
theorem dX1_isBelow_12 : decode cX1_isBelow 12 = .ok (.iconst 1, 1) := by decide +kernel
theorem dX1_isBelow_13 : decode cX1_isBelow 13 = .ok (.goto 4, 3) := by decide +kernel
theorem dX1_isBelow_16 : decode cX1_isBelow 16 = .ok (.iconst 0, 1) := by decide +kernel
theorem dX1_isBelow_17 : decode cX1_isBelow 17 = .ok (.ireturn, 1) := by decide +kernel
theorem dX1_measure_0 : decode cX1_measure 0 = .ok (.aload_n 0, 1) := by decide +kernel
theorem dX1_measure_1 : decode cX1_measure 1 = .ok (.bipush 64, 2) := by decide +kernel
theorem dX1_measure_3 : decode cX1_measure 3 = .ok (.putfield 15, 3) := by decide +kernel
theorem dX1_measure_6 : decode cX1_measure 6 = .ok (.aload_n 0, 1) := by decide +kernel
theorem dX1_measure_7 : decode cX1_measure 7 = .ok (.getfield 15, 3) := by decide +kernel
theorem dX1_measure_10 : decode cX1_measure 10 = .ok (.ifCond .le 30, 3) := by decide +kernel
theorem dX1_measure_13 : decode cX1_measure 13 = .ok (.aload_n 0, 1) := by decide +kernel
theorem dX1_measure_14 : decode cX1_measure 14 = .ok (.getfield 11, 3) := by decide +kernel
theorem dX1_measure_17 : decode cX1_measure 17 = .ok (.aload_n 0, 1) := by decide +kernel
theorem dX1_measure_18 : decode cX1_measure 18 = .ok (.getfield 15, 3) := by decide +kernel
theorem dX1_measure_21 : decode cX1_measure 21 = .ok (.iconst 1, 1) := by decide +kernel
theorem dX1_measure_22 : decode cX1_measure 22 = .ok (.isub, 1) := by decide +kernel
theorem dX1_measure_23 : decode cX1_measure 23 = .ok (.iaload, 1) := by decide +kernel
theorem dX1_measure_24 : decode cX1_measure 24 = .ok (.ifCond .ne 16, 3) := by decide +kernel
theorem dX1_measure_27 : decode cX1_measure 27 = .ok (.aload_n 0, 1) := by decide +kernel
theorem dX1_measure_28 : decode cX1_measure 28 = .ok (.dup, 1) := by decide +kernel
theorem dX1_measure_29 : decode cX1_measure 29 = .ok (.getfield 15, 3) := by decide +kernel
theorem dX1_measure_32 : decode cX1_measure 32 = .ok (.iconst 1, 1) := by decide +kernel
theorem dX1_measure_33 : decode cX1_measure 33 = .ok (.isub, 1) := by decide +kernel
theorem dX1_measure_34 : decode cX1_measure 34 = .ok (.putfield 15, 3) := by decide +kernel
theorem dX1_measure_37 : decode cX1_measure 37 = .ok (.goto (-31), 3) := by decide +kernel
theorem dX1_measure_40 : decode cX1_measure 40 = .ok (.return_, 1) := by decide +kernel
theorem dX2_init_0 : decode cX2_init 0 = .ok (.aload_n 0, 1) := by decide +kernel
theorem dX2_init_1 : decode cX2_init 1 = .ok (.invokespecial 3, 3) := by decide +kernel
theorem dX2_init_4 : decode cX2_init 4 = .ok (.aload_n 0, 1) := by decide +kernel
theorem dX2_init_5 : decode cX2_init 5 = .ok (.new 9, 3) := by decide +kernel
theorem dX2_init_8 : decode cX2_init 8 = .ok (.dup, 1) := by decide +kernel
theorem dX2_init_9 : decode cX2_init 9 = .ok (.invokespecial 11, 3) := by decide +kernel
theorem dX2_init_12 : decode cX2_init 12 = .ok (.putfield 12, 3) := by decide +kernel
theorem dX2_init_15 : decode cX2_init 15 = .ok (.aload_n 0, 1) := by decide +kernel
theorem dX2_init_16 : decode cX2_init 16 = .ok (.bipush 40, 2) := by decide +kernel
theorem dX2_init_18 : decode cX2_init 18 = .ok (.anewarray 9, 3) := by decide +kernel
theorem dX2_init_21 : decode cX2_init 21 = .ok (.putfield 18, 3) := by decide +kernel
theorem dX2_init_24 : decode cX2_init 24 = .ok (.aload_n 0, 1) := by decide +kernel
theorem dX2_init_25 : decode cX2_init 25 = .ok (.bipush 24, 2) := by decide +kernel
theorem dX2_init_27 : decode cX2_init 27 = .ok (.newarray .int, 2) := by decide +kernel
theorem dX2_init_29 : decode cX2_init 29 = .ok (.putfield 22, 3) := by decide +kernel
theorem dX2_init_32 : decode cX2_init 32 = .ok (.aload_n 0, 1) := by decide +kernel
theorem dX2_init_33 : decode cX2_init 33 = .ok (.iconst 3, 1) := by decide +kernel
theorem dX2_init_34 : decode cX2_init 34 = .ok (.newarray .int, 2) := by decide +kernel
theorem dX2_init_36 : decode cX2_init 36 = .ok (.putfield 26, 3) := by decide +kernel
theorem dX2_init_39 : decode cX2_init 39 = .ok (.return_, 1) := by decide +kernel
theorem dX2_kept_0 : decode cX2_kept 0 = .ok (.aload_n 0, 1) := by decide +kernel
theorem dX2_kept_1 : decode cX2_kept 1 = .ok (.getfield 29, 3) := by decide +kernel
theorem dX2_kept_4 : decode cX2_kept 4 = .ok (.ireturn, 1) := by decide +kernel
theorem dX2_noted_0 : decode cX2_noted 0 = .ok (.aload_n 0, 1) := by decide +kernel
theorem dX2_noted_1 : decode cX2_noted 1 = .ok (.getfield 33, 3) := by decide +kernel
theorem dX2_noted_4 : decode cX2_noted 4 = .ok (.ireturn, 1) := by decide +kernel
theorem dX2_refused_0 : decode cX2_refused 0 = .ok (.iload_n 1, 1) := by decide +kernel
theorem dX2_refused_1 : decode cX2_refused 1 = .ok (.ifCond .lt 21, 3) := by decide +kernel
theorem dX2_refused_4 : decode cX2_refused 4 = .ok (.iload_n 1, 1) := by decide +kernel
theorem dX2_refused_5 : decode cX2_refused 5 = .ok (.aload_n 0, 1) := by decide +kernel
theorem dX2_refused_6 : decode cX2_refused 6 = .ok (.getfield 26, 3) := by decide +kernel
theorem dX2_refused_9 : decode cX2_refused 9 = .ok (.arraylength, 1) := by decide +kernel
theorem dX2_refused_10 : decode cX2_refused 10 = .ok (.if_icmp .ge 12, 3) := by decide +kernel
theorem dX2_refused_13 : decode cX2_refused 13 = .ok (.aload_n 0, 1) := by decide +kernel
theorem dX2_refused_14 : decode cX2_refused 14 = .ok (.getfield 26, 3) := by decide +kernel
theorem dX2_refused_17 : decode cX2_refused 17 = .ok (.iload_n 1, 1) := by decide +kernel
theorem dX2_refused_18 : decode cX2_refused 18 = .ok (.iaload, 1) := by decide +kernel
theorem dX2_refused_19 : decode cX2_refused 19 = .ok (.goto 4, 3) := by decide +kernel
theorem dX2_refused_22 : decode cX2_refused 22 = .ok (.iconst 0, 1) := by decide +kernel
theorem dX2_refused_23 : decode cX2_refused 23 = .ok (.ireturn, 1) := by decide +kernel
theorem dX2_refuse_0 : decode cX2_refuse 0 = .ok (.iload_n 1, 1) := by decide +kernel
theorem dX2_refuse_1 : decode cX2_refuse 1 = .ok (.ifCond .lt 22, 3) := by decide +kernel
theorem dX2_refuse_4 : decode cX2_refuse 4 = .ok (.iload_n 1, 1) := by decide +kernel
theorem dX2_refuse_5 : decode cX2_refuse 5 = .ok (.aload_n 0, 1) := by decide +kernel
theorem dX2_refuse_6 : decode cX2_refuse 6 = .ok (.getfield 26, 3) := by decide +kernel
theorem dX2_refuse_9 : decode cX2_refuse 9 = .ok (.arraylength, 1) := by decide +kernel
theorem dX2_refuse_10 : decode cX2_refuse 10 = .ok (.if_icmp .ge 13, 3) := by decide +kernel
theorem dX2_refuse_13 : decode cX2_refuse 13 = .ok (.aload_n 0, 1) := by decide +kernel
theorem dX2_refuse_14 : decode cX2_refuse 14 = .ok (.getfield 26, 3) := by decide +kernel
theorem dX2_refuse_17 : decode cX2_refuse 17 = .ok (.iload_n 1, 1) := by decide +kernel
theorem dX2_refuse_18 : decode cX2_refuse 18 = .ok (.dup2, 1) := by decide +kernel
theorem dX2_refuse_19 : decode cX2_refuse 19 = .ok (.iaload, 1) := by decide +kernel
theorem dX2_refuse_20 : decode cX2_refuse 20 = .ok (.iconst 1, 1) := by decide +kernel
theorem dX2_refuse_21 : decode cX2_refuse 21 = .ok (.iadd, 1) := by decide +kernel
theorem dX2_refuse_22 : decode cX2_refuse 22 = .ok (.iastore, 1) := by decide +kernel
theorem dX2_refuse_23 : decode cX2_refuse 23 = .ok (.return_, 1) := by decide +kernel
theorem dX2_remember_0 : decode cX2_remember 0 = .ok (.aload_n 0, 1) := by decide +kernel
theorem dX2_remember_1 : decode cX2_remember 1 = .ok (.getfield 29, 3) := by decide +kernel
theorem dX2_remember_4 : decode cX2_remember 4 = .ok (.bipush 40, 2) := by decide +kernel
theorem dX2_remember_6 : decode cX2_remember 6 = .ok (.if_icmp .ne 26, 3) := by decide +kernel
theorem dX2_remember_9 : decode cX2_remember 9 = .ok (.aload_n 0, 1) := by decide +kernel
theorem dX2_remember_10 : decode cX2_remember 10 = .ok (.aload_n 0, 1) := by decide +kernel
theorem dX2_remember_11 : decode cX2_remember 11 = .ok (.getfield 36, 3) := by decide +kernel
theorem dX2_remember_14 : decode cX2_remember 14 = .ok (.iconst 1, 1) := by decide +kernel
theorem dX2_remember_15 : decode cX2_remember 15 = .ok (.iadd, 1) := by decide +kernel
theorem dX2_remember_16 : decode cX2_remember 16 = .ok (.bipush 40, 2) := by decide +kernel
theorem dX2_remember_18 : decode cX2_remember 18 = .ok (.irem, 1) := by decide +kernel
theorem dX2_remember_19 : decode cX2_remember 19 = .ok (.putfield 36, 3) := by decide +kernel
theorem dX2_remember_22 : decode cX2_remember 22 = .ok (.aload_n 0, 1) := by decide +kernel
theorem dX2_remember_23 : decode cX2_remember 23 = .ok (.dup, 1) := by decide +kernel
theorem dX2_remember_24 : decode cX2_remember 24 = .ok (.getfield 29, 3) := by decide +kernel
theorem dX2_remember_27 : decode cX2_remember 27 = .ok (.iconst 1, 1) := by decide +kernel
theorem dX2_remember_28 : decode cX2_remember 28 = .ok (.isub, 1) := by decide +kernel
theorem dX2_remember_29 : decode cX2_remember 29 = .ok (.putfield 29, 3) := by decide +kernel
theorem dX2_remember_32 : decode cX2_remember 32 = .ok (.aload_n 0, 1) := by decide +kernel
theorem dX2_remember_33 : decode cX2_remember 33 = .ok (.aload_n 0, 1) := by decide +kernel
theorem dX2_remember_34 : decode cX2_remember 34 = .ok (.getfield 36, 3) := by decide +kernel
theorem dX2_remember_37 : decode cX2_remember 37 = .ok (.aload_n 0, 1) := by decide +kernel
theorem dX2_remember_38 : decode cX2_remember 38 = .ok (.getfield 29, 3) := by decide +kernel
theorem dX2_remember_41 : decode cX2_remember 41 = .ok (.iadd, 1) := by decide +kernel
theorem dX2_remember_42 : decode cX2_remember 42 = .ok (.aload_n 0, 1) := by decide +kernel
theorem dX2_remember_43 : decode cX2_remember 43 = .ok (.getfield 12, 3) := by decide +kernel
theorem dX2_remember_46 : decode cX2_remember 46 = .ok (.invokevirtual 39, 3) := by decide +kernel
theorem dX2_remember_49 : decode cX2_remember 49 = .ok (.aload_n 0, 1) := by decide +kernel
theorem dX2_remember_50 : decode cX2_remember 50 = .ok (.dup, 1) := by decide +kernel
theorem dX2_remember_51 : decode cX2_remember 51 = .ok (.getfield 29, 3) := by decide +kernel
theorem dX2_remember_54 : decode cX2_remember 54 = .ok (.iconst 1, 1) := by decide +kernel
theorem dX2_remember_55 : decode cX2_remember 55 = .ok (.iadd, 1) := by decide +kernel
theorem dX2_remember_56 : decode cX2_remember 56 = .ok (.putfield 29, 3) := by decide +kernel
theorem dX2_remember_59 : decode cX2_remember 59 = .ok (.return_, 1) := by decide +kernel
theorem dX2_takeBack_0 : decode cX2_takeBack 0 = .ok (.aload_n 0, 1) := by decide +kernel
theorem dX2_takeBack_1 : decode cX2_takeBack 1 = .ok (.getfield 36, 3) := by decide +kernel
theorem dX2_takeBack_4 : decode cX2_takeBack 4 = .ok (.aload_n 0, 1) := by decide +kernel
theorem dX2_takeBack_5 : decode cX2_takeBack 5 = .ok (.getfield 29, 3) := by decide +kernel
theorem dX2_takeBack_8 : decode cX2_takeBack 8 = .ok (.iadd, 1) := by decide +kernel
theorem dX2_takeBack_9 : decode cX2_takeBack 9 = .ok (.iconst 1, 1) := by decide +kernel
theorem dX2_takeBack_10 : decode cX2_takeBack 10 = .ok (.isub, 1) := by decide +kernel
theorem dX2_takeBack_11 : decode cX2_takeBack 11 = .ok (.bipush 40, 2) := by decide +kernel
theorem dX2_takeBack_13 : decode cX2_takeBack 13 = .ok (.irem, 1) := by decide +kernel
theorem dX2_takeBack_14 : decode cX2_takeBack 14 = .ok (.istore_n 1, 1) := by decide +kernel
theorem dX2_takeBack_15 : decode cX2_takeBack 15 = .ok (.aload_n 0, 1) := by decide +kernel
theorem dX2_takeBack_16 : decode cX2_takeBack 16 = .ok (.getfield 29, 3) := by decide +kernel
theorem dX2_takeBack_19 : decode cX2_takeBack 19 = .ok (.ifCond .le 39, 3) := by decide +kernel
theorem dX2_takeBack_22 : decode cX2_takeBack 22 = .ok (.iload_n 1, 1) := by decide +kernel
theorem dX2_takeBack_23 : decode cX2_takeBack 23 = .ok (.ifCond .lt 35, 3) := by decide +kernel
theorem dX2_takeBack_26 : decode cX2_takeBack 26 = .ok (.aload_n 0, 1) := by decide +kernel
theorem dX2_takeBack_27 : decode cX2_takeBack 27 = .ok (.getfield 18, 3) := by decide +kernel
theorem dX2_takeBack_30 : decode cX2_takeBack 30 = .ok (.iload_n 1, 1) := by decide +kernel
theorem dX2_takeBack_31 : decode cX2_takeBack 31 = .ok (.aaload, 1) := by decide +kernel
theorem dX2_takeBack_32 : decode cX2_takeBack 32 = .ok (.ifnull 26, 3) := by decide +kernel
theorem dX2_takeBack_35 : decode cX2_takeBack 35 = .ok (.aload_n 0, 1) := by decide +kernel
theorem dX2_takeBack_36 : decode cX2_takeBack 36 = .ok (.getfield 12, 3) := by decide +kernel
theorem dX2_takeBack_39 : decode cX2_takeBack 39 = .ok (.aload_n 0, 1) := by decide +kernel
theorem dX2_takeBack_40 : decode cX2_takeBack 40 = .ok (.getfield 18, 3) := by decide +kernel
theorem dX2_takeBack_43 : decode cX2_takeBack 43 = .ok (.iload_n 1, 1) := by decide +kernel
theorem dX2_takeBack_44 : decode cX2_takeBack 44 = .ok (.aaload, 1) := by decide +kernel
theorem dX2_takeBack_45 : decode cX2_takeBack 45 = .ok (.invokevirtual 43, 3) := by decide +kernel
theorem dX2_takeBack_48 : decode cX2_takeBack 48 = .ok (.aload_n 0, 1) := by decide +kernel
theorem dX2_takeBack_49 : decode cX2_takeBack 49 = .ok (.dup, 1) := by decide +kernel
theorem dX2_takeBack_50 : decode cX2_takeBack 50 = .ok (.getfield 29, 3) := by decide +kernel
theorem dX2_takeBack_53 : decode cX2_takeBack 53 = .ok (.iconst 1, 1) := by decide +kernel
theorem dX2_takeBack_54 : decode cX2_takeBack 54 = .ok (.isub, 1) := by decide +kernel
theorem dX2_takeBack_55 : decode cX2_takeBack 55 = .ok (.putfield 29, 3) := by decide +kernel
theorem dX2_takeBack_58 : decode cX2_takeBack 58 = .ok (.return_, 1) := by decide +kernel
theorem dX2_keep_0 : decode cX2_keep 0 = .ok (.iload_n 1, 1) := by decide +kernel
theorem dX2_keep_1 : decode cX2_keep 1 = .ok (.bipush 40, 2) := by decide +kernel
theorem dX2_keep_3 : decode cX2_keep 3 = .ok (.irem, 1) := by decide +kernel
theorem dX2_keep_4 : decode cX2_keep 4 = .ok (.istore_n 3, 1) := by decide +kernel
theorem dX2_keep_5 : decode cX2_keep 5 = .ok (.iload_n 3, 1) := by decide +kernel
theorem dX2_keep_6 : decode cX2_keep 6 = .ok (.ifCond .ge 4, 3) := by decide +kernel
theorem dX2_keep_9 : decode cX2_keep 9 = .ok (.return_, 1) := by decide +kernel
theorem dX2_keep_10 : decode cX2_keep 10 = .ok (.aload_n 0, 1) := by decide +kernel
theorem dX2_keep_11 : decode cX2_keep 11 = .ok (.getfield 18, 3) := by decide +kernel
theorem dX2_keep_14 : decode cX2_keep 14 = .ok (.iload_n 3, 1) := by decide +kernel
theorem dX2_keep_15 : decode cX2_keep 15 = .ok (.aaload, 1) := by decide +kernel
theorem dX2_keep_16 : decode cX2_keep 16 = .ok (.ifnonnull 16, 3) := by decide +kernel
theorem dX2_keep_19 : decode cX2_keep 19 = .ok (.aload_n 0, 1) := by decide +kernel
theorem dX2_keep_20 : decode cX2_keep 20 = .ok (.getfield 18, 3) := by decide +kernel
theorem dX2_keep_23 : decode cX2_keep 23 = .ok (.iload_n 3, 1) := by decide +kernel
theorem dX2_keep_24 : decode cX2_keep 24 = .ok (.new 9, 3) := by decide +kernel
theorem dX2_keep_27 : decode cX2_keep 27 = .ok (.dup, 1) := by decide +kernel
theorem dX2_keep_28 : decode cX2_keep 28 = .ok (.invokespecial 11, 3) := by decide +kernel
theorem dX2_keep_31 : decode cX2_keep 31 = .ok (.aastore, 1) := by decide +kernel
theorem dX2_keep_32 : decode cX2_keep 32 = .ok (.aload_n 0, 1) := by decide +kernel
theorem dX2_keep_33 : decode cX2_keep 33 = .ok (.getfield 18, 3) := by decide +kernel
theorem dX2_keep_36 : decode cX2_keep 36 = .ok (.iload_n 3, 1) := by decide +kernel
theorem dX2_keep_37 : decode cX2_keep 37 = .ok (.aaload, 1) := by decide +kernel
theorem dX2_keep_38 : decode cX2_keep 38 = .ok (.aload_n 2, 1) := by decide +kernel
theorem dX2_keep_39 : decode cX2_keep 39 = .ok (.invokevirtual 43, 3) := by decide +kernel
theorem dX2_keep_42 : decode cX2_keep 42 = .ok (.return_, 1) := by decide +kernel
theorem dX2_write_0 : decode cX2_write 0 = .ok (.aload_n 0, 1) := by decide +kernel
theorem dX2_write_1 : decode cX2_write 1 = .ok (.getfield 33, 3) := by decide +kernel
theorem dX2_write_4 : decode cX2_write 4 = .ok (.bipush 8, 2) := by decide +kernel
theorem dX2_write_6 : decode cX2_write 6 = .ok (.if_icmp .ge 53, 3) := by decide +kernel
theorem dX2_write_9 : decode cX2_write 9 = .ok (.aload_n 0, 1) := by decide +kernel
theorem dX2_write_10 : decode cX2_write 10 = .ok (.getfield 22, 3) := by decide +kernel
theorem dX2_write_13 : decode cX2_write 13 = .ok (.iconst 3, 1) := by decide +kernel
theorem dX2_write_14 : decode cX2_write 14 = .ok (.aload_n 0, 1) := by decide +kernel
theorem dX2_write_15 : decode cX2_write 15 = .ok (.getfield 33, 3) := by decide +kernel
theorem dX2_write_18 : decode cX2_write 18 = .ok (.imul, 1) := by decide +kernel
theorem dX2_write_19 : decode cX2_write 19 = .ok (.iload_n 1, 1) := by decide +kernel
theorem dX2_write_20 : decode cX2_write 20 = .ok (.iastore, 1) := by decide +kernel
theorem dX2_write_21 : decode cX2_write 21 = .ok (.aload_n 0, 1) := by decide +kernel
theorem dX2_write_22 : decode cX2_write 22 = .ok (.getfield 22, 3) := by decide +kernel
theorem dX2_write_25 : decode cX2_write 25 = .ok (.iconst 3, 1) := by decide +kernel
theorem dX2_write_26 : decode cX2_write 26 = .ok (.aload_n 0, 1) := by decide +kernel
theorem dX2_write_27 : decode cX2_write 27 = .ok (.getfield 33, 3) := by decide +kernel
theorem dX2_write_30 : decode cX2_write 30 = .ok (.imul, 1) := by decide +kernel
theorem dX2_write_31 : decode cX2_write 31 = .ok (.iconst 1, 1) := by decide +kernel
theorem dX2_write_32 : decode cX2_write 32 = .ok (.iadd, 1) := by decide +kernel
theorem dX2_write_33 : decode cX2_write 33 = .ok (.iload_n 2, 1) := by decide +kernel
theorem dX2_write_34 : decode cX2_write 34 = .ok (.iastore, 1) := by decide +kernel
theorem dX2_write_35 : decode cX2_write 35 = .ok (.aload_n 0, 1) := by decide +kernel
theorem dX2_write_36 : decode cX2_write 36 = .ok (.getfield 22, 3) := by decide +kernel
theorem dX2_write_39 : decode cX2_write 39 = .ok (.iconst 3, 1) := by decide +kernel
theorem dX2_write_40 : decode cX2_write 40 = .ok (.aload_n 0, 1) := by decide +kernel
theorem dX2_write_41 : decode cX2_write 41 = .ok (.getfield 33, 3) := by decide +kernel
theorem dX2_write_44 : decode cX2_write 44 = .ok (.imul, 1) := by decide +kernel
theorem dX2_write_45 : decode cX2_write 45 = .ok (.iconst 2, 1) := by decide +kernel
theorem dX2_write_46 : decode cX2_write 46 = .ok (.iadd, 1) := by decide +kernel
theorem dX2_write_47 : decode cX2_write 47 = .ok (.iload_n 3, 1) := by decide +kernel
theorem dX2_write_48 : decode cX2_write 48 = .ok (.iastore, 1) := by decide +kernel
theorem dX2_write_49 : decode cX2_write 49 = .ok (.aload_n 0, 1) := by decide +kernel
theorem dX2_write_50 : decode cX2_write 50 = .ok (.dup, 1) := by decide +kernel
theorem dX2_write_51 : decode cX2_write 51 = .ok (.getfield 33, 3) := by decide +kernel
theorem dX2_write_54 : decode cX2_write 54 = .ok (.iconst 1, 1) := by decide +kernel
theorem dX2_write_55 : decode cX2_write 55 = .ok (.iadd, 1) := by decide +kernel
theorem dX2_write_56 : decode cX2_write 56 = .ok (.putfield 33, 3) := by decide +kernel
theorem dX2_write_59 : decode cX2_write 59 = .ok (.return_, 1) := by decide +kernel
theorem dX2_wipe_0 : decode cX2_wipe 0 = .ok (.aload_n 0, 1) := by decide +kernel
theorem dX2_wipe_1 : decode cX2_wipe 1 = .ok (.iconst 0, 1) := by decide +kernel
theorem dX2_wipe_2 : decode cX2_wipe 2 = .ok (.putfield 33, 3) := by decide +kernel
theorem dX2_wipe_5 : decode cX2_wipe 5 = .ok (.return_, 1) := by decide +kernel
theorem dX2_latestNote_0 : decode cX2_latestNote 0 = .ok (.iconst (-1), 1) := by decide +kernel
theorem dX2_latestNote_1 : decode cX2_latestNote 1 = .ok (.istore_n 1, 1) := by decide +kernel
theorem dX2_latestNote_2 : decode cX2_latestNote 2 = .ok (.iconst 0, 1) := by decide +kernel
theorem dX2_latestNote_3 : decode cX2_latestNote 3 = .ok (.istore_n 2, 1) := by decide +kernel
theorem dX2_latestNote_4 : decode cX2_latestNote 4 = .ok (.iload_n 2, 1) := by decide +kernel
theorem dX2_latestNote_5 : decode cX2_latestNote 5 = .ok (.aload_n 0, 1) := by decide +kernel
theorem dX2_latestNote_6 : decode cX2_latestNote 6 = .ok (.getfield 33, 3) := by decide +kernel
theorem dX2_latestNote_9 : decode cX2_latestNote 9 = .ok (.if_icmp .ge 22, 3) := by decide +kernel
theorem dX2_latestNote_12 : decode cX2_latestNote 12 = .ok (.iload_n 1, 1) := by decide +kernel
theorem dX2_latestNote_13 : decode cX2_latestNote 13 = .ok (.aload_n 0, 1) := by decide +kernel
theorem dX2_latestNote_14 : decode cX2_latestNote 14 = .ok (.getfield 22, 3) := by decide +kernel
theorem dX2_latestNote_17 : decode cX2_latestNote 17 = .ok (.iconst 3, 1) := by decide +kernel
theorem dX2_latestNote_18 : decode cX2_latestNote 18 = .ok (.iload_n 2, 1) := by decide +kernel
theorem dX2_latestNote_19 : decode cX2_latestNote 19 = .ok (.imul, 1) := by decide +kernel
theorem dX2_latestNote_20 : decode cX2_latestNote 20 = .ok (.iaload, 1) := by decide +kernel
theorem dX2_latestNote_21 : decode cX2_latestNote 21 = .ok (.invokestatic 47, 3) := by decide +kernel
theorem dX2_latestNote_24 : decode cX2_latestNote 24 = .ok (.istore_n 1, 1) := by decide +kernel
theorem dX2_latestNote_25 : decode cX2_latestNote 25 = .ok (.iinc 2 1, 3) := by decide +kernel
theorem dX2_latestNote_28 : decode cX2_latestNote 28 = .ok (.goto (-24), 3) := by decide +kernel
theorem dX2_latestNote_31 : decode cX2_latestNote 31 = .ok (.iload_n 1, 1) := by decide +kernel
theorem dX2_latestNote_32 : decode cX2_latestNote 32 = .ok (.ireturn, 1) := by decide +kernel
theorem dX2_bears_0 : decode cX2_bears 0 = .ok (.iconst 0, 1) := by decide +kernel
theorem dX2_bears_1 : decode cX2_bears 1 = .ok (.istore_n 3, 1) := by decide +kernel
theorem dX2_bears_2 : decode cX2_bears 2 = .ok (.iload_n 3, 1) := by decide +kernel
theorem dX2_bears_3 : decode cX2_bears 3 = .ok (.aload_n 0, 1) := by decide +kernel
theorem dX2_bears_4 : decode cX2_bears 4 = .ok (.getfield 33, 3) := by decide +kernel
theorem dX2_bears_7 : decode cX2_bears 7 = .ok (.if_icmp .ge 50, 3) := by decide +kernel
theorem dX2_bears_10 : decode cX2_bears 10 = .ok (.aload_n 0, 1) := by decide +kernel
theorem dX2_bears_11 : decode cX2_bears 11 = .ok (.getfield 22, 3) := by decide +kernel
theorem dX2_bears_14 : decode cX2_bears 14 = .ok (.iconst 3, 1) := by decide +kernel
theorem dX2_bears_15 : decode cX2_bears 15 = .ok (.iload_n 3, 1) := by decide +kernel
theorem dX2_bears_16 : decode cX2_bears 16 = .ok (.imul, 1) := by decide +kernel
theorem dX2_bears_17 : decode cX2_bears 17 = .ok (.iaload, 1) := by decide +kernel
theorem dX2_bears_18 : decode cX2_bears 18 = .ok (.iload_n 2, 1) := by decide +kernel
theorem dX2_bears_19 : decode cX2_bears 19 = .ok (.if_icmp .ne 32, 3) := by decide +kernel
theorem dX2_bears_22 : decode cX2_bears 22 = .ok (.aload_n 1, 1) := by decide +kernel
theorem dX2_bears_23 : decode cX2_bears 23 = .ok (.aload_n 0, 1) := by decide +kernel
theorem dX2_bears_24 : decode cX2_bears 24 = .ok (.getfield 22, 3) := by decide +kernel
theorem dX2_bears_27 : decode cX2_bears 27 = .ok (.iconst 3, 1) := by decide +kernel
theorem dX2_bears_28 : decode cX2_bears 28 = .ok (.iload_n 3, 1) := by decide +kernel
theorem dX2_bears_29 : decode cX2_bears 29 = .ok (.imul, 1) := by decide +kernel
theorem dX2_bears_30 : decode cX2_bears 30 = .ok (.iconst 1, 1) := by decide +kernel
theorem dX2_bears_31 : decode cX2_bears 31 = .ok (.iadd, 1) := by decide +kernel
theorem dX2_bears_32 : decode cX2_bears 32 = .ok (.iaload, 1) := by decide +kernel
theorem dX2_bears_33 : decode cX2_bears 33 = .ok (.invokevirtual 53, 3) := by decide +kernel
theorem dX2_bears_36 : decode cX2_bears 36 = .ok (.aload_n 0, 1) := by decide +kernel
theorem dX2_bears_37 : decode cX2_bears 37 = .ok (.getfield 22, 3) := by decide +kernel
theorem dX2_bears_40 : decode cX2_bears 40 = .ok (.iconst 3, 1) := by decide +kernel
theorem dX2_bears_41 : decode cX2_bears 41 = .ok (.iload_n 3, 1) := by decide +kernel
theorem dX2_bears_42 : decode cX2_bears 42 = .ok (.imul, 1) := by decide +kernel
theorem dX2_bears_43 : decode cX2_bears 43 = .ok (.iconst 2, 1) := by decide +kernel
theorem dX2_bears_44 : decode cX2_bears 44 = .ok (.iadd, 1) := by decide +kernel
theorem dX2_bears_45 : decode cX2_bears 45 = .ok (.iaload, 1) := by decide +kernel
theorem dX2_bears_46 : decode cX2_bears 46 = .ok (.if_icmp .eq 5, 3) := by decide +kernel
theorem dX2_bears_49 : decode cX2_bears 49 = .ok (.iconst 0, 1) := by decide +kernel
theorem dX2_bears_50 : decode cX2_bears 50 = .ok (.ireturn, 1) := by decide +kernel
theorem dX2_bears_51 : decode cX2_bears 51 = .ok (.iinc 3 1, 3) := by decide +kernel
theorem dX2_bears_54 : decode cX2_bears 54 = .ok (.goto (-52), 3) := by decide +kernel
theorem dX2_bears_57 : decode cX2_bears 57 = .ok (.iconst 1, 1) := by decide +kernel
theorem dX2_bears_58 : decode cX2_bears 58 = .ok (.ireturn, 1) := by decide +kernel
theorem dX2_renew_0 : decode cX2_renew 0 = .ok (.aload_n 0, 1) := by decide +kernel
theorem dX2_renew_1 : decode cX2_renew 1 = .ok (.getfield 12, 3) := by decide +kernel
theorem dX2_renew_4 : decode cX2_renew 4 = .ok (.aload_n 1, 1) := by decide +kernel
theorem dX2_renew_5 : decode cX2_renew 5 = .ok (.invokevirtual 57, 3) := by decide +kernel
theorem dX2_renew_8 : decode cX2_renew 8 = .ok (.aload_n 0, 1) := by decide +kernel
theorem dX2_renew_9 : decode cX2_renew 9 = .ok (.iconst 0, 1) := by decide +kernel
theorem dX2_renew_10 : decode cX2_renew 10 = .ok (.putfield 36, 3) := by decide +kernel
theorem dX2_renew_13 : decode cX2_renew 13 = .ok (.aload_n 0, 1) := by decide +kernel
theorem dX2_renew_14 : decode cX2_renew 14 = .ok (.iconst 0, 1) := by decide +kernel
theorem dX2_renew_15 : decode cX2_renew 15 = .ok (.putfield 29, 3) := by decide +kernel
theorem dX2_renew_18 : decode cX2_renew 18 = .ok (.aload_n 0, 1) := by decide +kernel
theorem dX2_renew_19 : decode cX2_renew 19 = .ok (.iconst 0, 1) := by decide +kernel
theorem dX2_renew_20 : decode cX2_renew 20 = .ok (.putfield 33, 3) := by decide +kernel
theorem dX2_renew_23 : decode cX2_renew 23 = .ok (.return_, 1) := by decide +kernel
theorem dX2_become_0 : decode cX2_become 0 = .ok (.aload_n 0, 1) := by decide +kernel
theorem dX2_become_1 : decode cX2_become 1 = .ok (.getfield 12, 3) := by decide +kernel
theorem dX2_become_4 : decode cX2_become 4 = .ok (.aload_n 1, 1) := by decide +kernel
theorem dX2_become_5 : decode cX2_become 5 = .ok (.getfield 12, 3) := by decide +kernel
theorem dX2_become_8 : decode cX2_become 8 = .ok (.invokevirtual 43, 3) := by decide +kernel
theorem dX2_become_11 : decode cX2_become 11 = .ok (.aload_n 0, 1) := by decide +kernel
theorem dX2_become_12 : decode cX2_become 12 = .ok (.iconst 0, 1) := by decide +kernel
theorem dX2_become_13 : decode cX2_become 13 = .ok (.putfield 36, 3) := by decide +kernel
theorem dX2_become_16 : decode cX2_become 16 = .ok (.aload_n 0, 1) := by decide +kernel
theorem dX2_become_17 : decode cX2_become 17 = .ok (.iconst 0, 1) := by decide +kernel
theorem dX2_become_18 : decode cX2_become 18 = .ok (.putfield 29, 3) := by decide +kernel
theorem dX2_become_21 : decode cX2_become 21 = .ok (.iconst 0, 1) := by decide +kernel
theorem dX2_become_22 : decode cX2_become 22 = .ok (.istore_n 2, 1) := by decide +kernel
theorem dX2_become_23 : decode cX2_become 23 = .ok (.iload_n 2, 1) := by decide +kernel
theorem dX2_become_24 : decode cX2_become 24 = .ok (.aload_n 1, 1) := by decide +kernel
theorem dX2_become_25 : decode cX2_become 25 = .ok (.getfield 29, 3) := by decide +kernel
theorem dX2_become_28 : decode cX2_become 28 = .ok (.if_icmp .ge 44, 3) := by decide +kernel
theorem dX2_become_31 : decode cX2_become 31 = .ok (.aload_n 1, 1) := by decide +kernel
theorem dX2_become_32 : decode cX2_become 32 = .ok (.getfield 18, 3) := by decide +kernel
theorem dX2_become_35 : decode cX2_become 35 = .ok (.aload_n 1, 1) := by decide +kernel
theorem dX2_become_36 : decode cX2_become 36 = .ok (.getfield 36, 3) := by decide +kernel
theorem dX2_become_39 : decode cX2_become 39 = .ok (.iload_n 2, 1) := by decide +kernel
theorem dX2_become_40 : decode cX2_become 40 = .ok (.iadd, 1) := by decide +kernel
theorem dX2_become_41 : decode cX2_become 41 = .ok (.bipush 40, 2) := by decide +kernel
theorem dX2_become_43 : decode cX2_become 43 = .ok (.irem, 1) := by decide +kernel
theorem dX2_become_44 : decode cX2_become 44 = .ok (.aaload, 1) := by decide +kernel
theorem dX2_become_45 : decode cX2_become 45 = .ok (.astore_n 3, 1) := by decide +kernel
theorem dX2_become_46 : decode cX2_become 46 = .ok (.aload_n 3, 1) := by decide +kernel
theorem dX2_become_47 : decode cX2_become 47 = .ok (.ifnull 19, 3) := by decide +kernel
theorem dX2_become_50 : decode cX2_become 50 = .ok (.aload_n 0, 1) := by decide +kernel
theorem dX2_become_51 : decode cX2_become 51 = .ok (.iload_n 2, 1) := by decide +kernel
theorem dX2_become_52 : decode cX2_become 52 = .ok (.aload_n 3, 1) := by decide +kernel
theorem dX2_become_53 : decode cX2_become 53 = .ok (.invokevirtual 39, 3) := by decide +kernel
theorem dX2_become_56 : decode cX2_become 56 = .ok (.aload_n 0, 1) := by decide +kernel
theorem dX2_become_57 : decode cX2_become 57 = .ok (.dup, 1) := by decide +kernel
theorem dX2_become_58 : decode cX2_become 58 = .ok (.getfield 29, 3) := by decide +kernel
theorem dX2_become_61 : decode cX2_become 61 = .ok (.iconst 1, 1) := by decide +kernel
theorem dX2_become_62 : decode cX2_become 62 = .ok (.iadd, 1) := by decide +kernel
theorem dX2_become_63 : decode cX2_become 63 = .ok (.putfield 29, 3) := by decide +kernel
theorem dX2_become_66 : decode cX2_become 66 = .ok (.iinc 2 1, 3) := by decide +kernel
theorem dX2_become_69 : decode cX2_become 69 = .ok (.goto (-46), 3) := by decide +kernel
theorem dX2_become_72 : decode cX2_become 72 = .ok (.aload_n 1, 1) := by decide +kernel
theorem dX2_become_73 : decode cX2_become 73 = .ok (.getfield 22, 3) := by decide +kernel
theorem dX2_become_76 : decode cX2_become 76 = .ok (.iconst 0, 1) := by decide +kernel
theorem dX2_become_77 : decode cX2_become 77 = .ok (.aload_n 0, 1) := by decide +kernel
theorem dX2_become_78 : decode cX2_become 78 = .ok (.getfield 22, 3) := by decide +kernel
theorem dX2_become_81 : decode cX2_become 81 = .ok (.iconst 0, 1) := by decide +kernel
theorem dX2_become_82 : decode cX2_become 82 = .ok (.aload_n 0, 1) := by decide +kernel
theorem dX2_become_83 : decode cX2_become 83 = .ok (.getfield 22, 3) := by decide +kernel
theorem dX2_become_86 : decode cX2_become 86 = .ok (.arraylength, 1) := by decide +kernel
theorem dX2_become_87 : decode cX2_become 87 = .ok (.invokestatic 61, 3) := by decide +kernel
theorem dX2_become_90 : decode cX2_become 90 = .ok (.aload_n 0, 1) := by decide +kernel
theorem dX2_become_91 : decode cX2_become 91 = .ok (.aload_n 1, 1) := by decide +kernel
theorem dX2_become_92 : decode cX2_become 92 = .ok (.getfield 33, 3) := by decide +kernel
theorem dX2_become_95 : decode cX2_become 95 = .ok (.putfield 33, 3) := by decide +kernel
theorem dX2_become_98 : decode cX2_become 98 = .ok (.aload_n 1, 1) := by decide +kernel
theorem dX2_become_99 : decode cX2_become 99 = .ok (.getfield 26, 3) := by decide +kernel
theorem dX2_become_102 : decode cX2_become 102 = .ok (.iconst 0, 1) := by decide +kernel
theorem dX2_become_103 : decode cX2_become 103 = .ok (.aload_n 0, 1) := by decide +kernel
theorem dX2_become_104 : decode cX2_become 104 = .ok (.getfield 26, 3) := by decide +kernel
theorem dX2_become_107 : decode cX2_become 107 = .ok (.iconst 0, 1) := by decide +kernel
theorem dX2_become_108 : decode cX2_become 108 = .ok (.aload_n 0, 1) := by decide +kernel
theorem dX2_become_109 : decode cX2_become 109 = .ok (.getfield 26, 3) := by decide +kernel
theorem dX2_become_112 : decode cX2_become 112 = .ok (.arraylength, 1) := by decide +kernel
theorem dX2_become_113 : decode cX2_become 113 = .ok (.invokestatic 61, 3) := by decide +kernel
theorem dX2_become_116 : decode cX2_become 116 = .ok (.return_, 1) := by decide +kernel
theorem dX3_init_0 : decode cX3_init 0 = .ok (.aload_n 0, 1) := by decide +kernel
theorem dX3_init_1 : decode cX3_init 1 = .ok (.invokespecial 3, 3) := by decide +kernel
theorem dX3_init_4 : decode cX3_init 4 = .ok (.aload_n 0, 1) := by decide +kernel
theorem dX3_init_5 : decode cX3_init 5 = .ok (.bipush 64, 2) := by decide +kernel
theorem dX3_init_7 : decode cX3_init 7 = .ok (.newarray .int, 2) := by decide +kernel
theorem dX3_init_9 : decode cX3_init 9 = .ok (.putfield 11, 3) := by decide +kernel
theorem dX3_init_12 : decode cX3_init 12 = .ok (.aload_n 0, 1) := by decide +kernel
theorem dX3_init_13 : decode cX3_init 13 = .ok (.bipush 32, 2) := by decide +kernel
theorem dX3_init_15 : decode cX3_init 15 = .ok (.newarray .int, 2) := by decide +kernel
theorem dX3_init_17 : decode cX3_init 17 = .ok (.putfield 15, 3) := by decide +kernel
theorem dX3_init_20 : decode cX3_init 20 = .ok (.aload_n 0, 1) := by decide +kernel
theorem dX3_init_21 : decode cX3_init 21 = .ok (.bipush 32, 2) := by decide +kernel
theorem dX3_init_23 : decode cX3_init 23 = .ok (.newarray .int, 2) := by decide +kernel
theorem dX3_init_25 : decode cX3_init 25 = .ok (.putfield 18, 3) := by decide +kernel
theorem dX3_init_28 : decode cX3_init 28 = .ok (.aload_n 0, 1) := by decide +kernel
theorem dX3_init_29 : decode cX3_init 29 = .ok (.sipush 132, 3) := by decide +kernel
theorem dX3_init_32 : decode cX3_init 32 = .ok (.newarray .long, 2) := by decide +kernel
theorem dX3_init_34 : decode cX3_init 34 = .ok (.putfield 21, 3) := by decide +kernel
theorem dX3_init_37 : decode cX3_init 37 = .ok (.aload_n 0, 1) := by decide +kernel
theorem dX3_init_38 : decode cX3_init 38 = .ok (.new 25, 3) := by decide +kernel
theorem dX3_init_41 : decode cX3_init 41 = .ok (.dup, 1) := by decide +kernel
theorem dX3_init_42 : decode cX3_init 42 = .ok (.invokespecial 27, 3) := by decide +kernel
theorem dX3_init_45 : decode cX3_init 45 = .ok (.putfield 28, 3) := by decide +kernel
theorem dX3_init_48 : decode cX3_init 48 = .ok (.return_, 1) := by decide +kernel
theorem dX3_looked_0 : decode cX3_looked 0 = .ok (.aload_n 0, 1) := by decide +kernel
theorem dX3_looked_1 : decode cX3_looked 1 = .ok (.getfield 32, 3) := by decide +kernel
theorem dX3_looked_4 : decode cX3_looked 4 = .ok (.ireturn, 1) := by decide +kernel
theorem dX3_held_0 : decode cX3_held 0 = .ok (.aload_n 0, 1) := by decide +kernel
theorem dX3_held_1 : decode cX3_held 1 = .ok (.getfield 36, 3) := by decide +kernel
theorem dX3_held_4 : decode cX3_held 4 = .ok (.ireturn, 1) := by decide +kernel
theorem dX3_condition_0 : decode cX3_condition 0 = .ok (.aload_n 0, 1) := by decide +kernel
theorem dX3_condition_1 : decode cX3_condition 1 = .ok (.getfield 39, 3) := by decide +kernel
theorem dX3_condition_4 : decode cX3_condition 4 = .ok (.ifCond .ne 5, 3) := by decide +kernel
theorem dX3_condition_7 : decode cX3_condition 7 = .ok (.iconst 0, 1) := by decide +kernel
theorem dX3_condition_8 : decode cX3_condition 8 = .ok (.ireturn, 1) := by decide +kernel
theorem dX3_condition_9 : decode cX3_condition 9 = .ok (.aload_n 0, 1) := by decide +kernel
theorem dX3_condition_10 : decode cX3_condition 10 = .ok (.getfield 43, 3) := by decide +kernel
theorem dX3_condition_13 : decode cX3_condition 13 = .ok (.ifCond .eq 7, 3) := by decide +kernel
theorem dX3_condition_16 : decode cX3_condition 16 = .ok (.iconst 1, 1) := by decide +kernel
theorem dX3_condition_17 : decode cX3_condition 17 = .ok (.goto 4, 3) := by decide +kernel
theorem dX3_condition_20 : decode cX3_condition 20 = .ok (.iconst 2, 1) := by decide +kernel
theorem dX3_condition_21 : decode cX3_condition 21 = .ok (.ireturn, 1) := by decide +kernel
theorem dX3_marked_0 : decode cX3_marked 0 = .ok (.aload_n 0, 1) := by decide +kernel
theorem dX3_marked_1 : decode cX3_marked 1 = .ok (.getfield 46, 3) := by decide +kernel
theorem dX3_marked_4 : decode cX3_marked 4 = .ok (.ireturn, 1) := by decide +kernel
theorem dX3_edit_0 : decode cX3_edit 0 = .ok (.aload_n 0, 1) := by decide +kernel
theorem dX3_edit_1 : decode cX3_edit 1 = .ok (.aload_n 1, 1) := by decide +kernel
theorem dX3_edit_2 : decode cX3_edit 2 = .ok (.putfield 28, 3) := by decide +kernel
theorem dX3_edit_5 : decode cX3_edit 5 = .ok (.aload_n 0, 1) := by decide +kernel
theorem dX3_edit_6 : decode cX3_edit 6 = .ok (.aload_n 0, 1) := by decide +kernel
theorem dX3_edit_7 : decode cX3_edit 7 = .ok (.getfield 28, 3) := by decide +kernel
theorem dX3_edit_10 : decode cX3_edit 10 = .ok (.iload_n 2, 1) := by decide +kernel
theorem dX3_edit_11 : decode cX3_edit 11 = .ok (.invokevirtual 49, 3) := by decide +kernel
theorem dX3_edit_14 : decode cX3_edit 14 = .ok (.putfield 53, 3) := by decide +kernel
theorem dX3_edit_17 : decode cX3_edit 17 = .ok (.aload_n 0, 1) := by decide +kernel
theorem dX3_edit_18 : decode cX3_edit 18 = .ok (.iconst 0, 1) := by decide +kernel
theorem dX3_edit_19 : decode cX3_edit 19 = .ok (.putfield 56, 3) := by decide +kernel
theorem dX3_edit_22 : decode cX3_edit 22 = .ok (.aload_n 0, 1) := by decide +kernel
theorem dX3_edit_23 : decode cX3_edit 23 = .ok (.iload 4, 2) := by decide +kernel
theorem dX3_edit_25 : decode cX3_edit 25 = .ok (.iconst 1, 1) := by decide +kernel
theorem dX3_edit_26 : decode cX3_edit 26 = .ok (.isub, 1) := by decide +kernel
theorem dX3_edit_27 : decode cX3_edit 27 = .ok (.putfield 32, 3) := by decide +kernel
theorem dX3_edit_30 : decode cX3_edit 30 = .ok (.aload_n 0, 1) := by decide +kernel
theorem dX3_edit_31 : decode cX3_edit 31 = .ok (.iconst 0, 1) := by decide +kernel
theorem dX3_edit_32 : decode cX3_edit 32 = .ok (.putfield 59, 3) := by decide +kernel
theorem dX3_edit_35 : decode cX3_edit 35 = .ok (.aload_n 0, 1) := by decide +kernel
theorem dX3_edit_36 : decode cX3_edit 36 = .ok (.iconst 0, 1) := by decide +kernel
theorem dX3_edit_37 : decode cX3_edit 37 = .ok (.putfield 43, 3) := by decide +kernel
theorem dX3_edit_40 : decode cX3_edit 40 = .ok (.aload_n 0, 1) := by decide +kernel
theorem dX3_edit_41 : decode cX3_edit 41 = .ok (.iconst 0, 1) := by decide +kernel
theorem dX3_edit_42 : decode cX3_edit 42 = .ok (.putfield 39, 3) := by decide +kernel
theorem dX3_edit_45 : decode cX3_edit 45 = .ok (.aload_n 0, 1) := by decide +kernel
theorem dX3_edit_46 : decode cX3_edit 46 = .ok (.iconst (-1), 1) := by decide +kernel
theorem dX3_edit_47 : decode cX3_edit 47 = .ok (.putfield 46, 3) := by decide +kernel
theorem dX3_edit_50 : decode cX3_edit 50 = .ok (.iconst 0, 1) := by decide +kernel
theorem dX3_edit_51 : decode cX3_edit 51 = .ok (.istore 5, 2) := by decide +kernel
theorem dX3_edit_53 : decode cX3_edit 53 = .ok (.iload 5, 2) := by decide +kernel
theorem dX3_edit_55 : decode cX3_edit 55 = .ok (.iload_n 3, 1) := by decide +kernel
theorem dX3_edit_56 : decode cX3_edit 56 = .ok (.if_icmp .ge 34, 3) := by decide +kernel
theorem dX3_edit_59 : decode cX3_edit 59 = .ok (.iload 5, 2) := by decide +kernel
theorem dX3_edit_61 : decode cX3_edit 61 = .ok (.bipush 64, 2) := by decide +kernel
theorem dX3_edit_63 : decode cX3_edit 63 = .ok (.if_icmp .ge 27, 3) := by decide +kernel
theorem dX3_edit_66 : decode cX3_edit 66 = .ok (.aload_n 0, 1) := by decide +kernel
theorem dX3_edit_67 : decode cX3_edit 67 = .ok (.getfield 11, 3) := by decide +kernel
theorem dX3_edit_70 : decode cX3_edit 70 = .ok (.iload 5, 2) := by decide +kernel
theorem dX3_edit_72 : decode cX3_edit 72 = .ok (.aload_n 0, 1) := by decide +kernel
theorem dX3_edit_73 : decode cX3_edit 73 = .ok (.getfield 28, 3) := by decide +kernel
theorem dX3_edit_76 : decode cX3_edit 76 = .ok (.iload_n 2, 1) := by decide +kernel
theorem dX3_edit_77 : decode cX3_edit 77 = .ok (.iload 5, 2) := by decide +kernel
theorem dX3_edit_79 : decode cX3_edit 79 = .ok (.iadd, 1) := by decide +kernel
theorem dX3_edit_80 : decode cX3_edit 80 = .ok (.invokevirtual 49, 3) := by decide +kernel
theorem dX3_edit_83 : decode cX3_edit 83 = .ok (.iastore, 1) := by decide +kernel
theorem dX3_edit_84 : decode cX3_edit 84 = .ok (.iinc 5 1, 3) := by decide +kernel
theorem dX3_edit_87 : decode cX3_edit 87 = .ok (.goto (-34), 3) := by decide +kernel
theorem dX3_edit_90 : decode cX3_edit 90 = .ok (.iconst 0, 1) := by decide +kernel
theorem dX3_edit_91 : decode cX3_edit 91 = .ok (.istore 5, 2) := by decide +kernel
theorem dX3_edit_93 : decode cX3_edit 93 = .ok (.iload 5, 2) := by decide +kernel
theorem dX3_edit_95 : decode cX3_edit 95 = .ok (.iload_n 3, 1) := by decide +kernel
theorem dX3_edit_96 : decode cX3_edit 96 = .ok (.if_icmp .ge 24, 3) := by decide +kernel
theorem dX3_edit_99 : decode cX3_edit 99 = .ok (.aload_n 0, 1) := by decide +kernel
theorem dX3_edit_100 : decode cX3_edit 100 = .ok (.getfield 56, 3) := by decide +kernel
theorem dX3_edit_103 : decode cX3_edit 103 = .ok (.ifCond .ne 17, 3) := by decide +kernel
theorem dX3_edit_106 : decode cX3_edit 106 = .ok (.aload_n 0, 1) := by decide +kernel
theorem dX3_edit_107 : decode cX3_edit 107 = .ok (.iload_n 2, 1) := by decide +kernel
theorem dX3_edit_108 : decode cX3_edit 108 = .ok (.iload 5, 2) := by decide +kernel
theorem dX3_edit_110 : decode cX3_edit 110 = .ok (.iadd, 1) := by decide +kernel
theorem dX3_edit_111 : decode cX3_edit 111 = .ok (.invokevirtual 62, 3) := by decide +kernel
theorem dX3_edit_114 : decode cX3_edit 114 = .ok (.iinc 5 1, 3) := by decide +kernel
theorem dX3_edit_117 : decode cX3_edit 117 = .ok (.goto (-24), 3) := by decide +kernel
theorem dX3_edit_120 : decode cX3_edit 120 = .ok (.iconst 0, 1) := by decide +kernel
theorem dX3_edit_121 : decode cX3_edit 121 = .ok (.istore 5, 2) := by decide +kernel
theorem dX3_edit_123 : decode cX3_edit 123 = .ok (.iload 5, 2) := by decide +kernel
theorem dX3_edit_125 : decode cX3_edit 125 = .ok (.iload_n 3, 1) := by decide +kernel
theorem dX3_edit_126 : decode cX3_edit 126 = .ok (.if_icmp .ge 41, 3) := by decide +kernel
theorem dX3_edit_129 : decode cX3_edit 129 = .ok (.iload 5, 2) := by decide +kernel
theorem dX3_edit_131 : decode cX3_edit 131 = .ok (.bipush 64, 2) := by decide +kernel
theorem dX3_edit_133 : decode cX3_edit 133 = .ok (.if_icmp .ge 34, 3) := by decide +kernel
theorem dX3_edit_136 : decode cX3_edit 136 = .ok (.aload_n 0, 1) := by decide +kernel
theorem dX3_edit_137 : decode cX3_edit 137 = .ok (.getfield 56, 3) := by decide +kernel
theorem dX3_edit_140 : decode cX3_edit 140 = .ok (.ifCond .eq 27, 3) := by decide +kernel
theorem dX3_edit_143 : decode cX3_edit 143 = .ok (.aload_n 0, 1) := by decide +kernel
theorem dX3_edit_144 : decode cX3_edit 144 = .ok (.getfield 28, 3) := by decide +kernel
theorem dX3_edit_147 : decode cX3_edit 147 = .ok (.iload_n 2, 1) := by decide +kernel
theorem dX3_edit_148 : decode cX3_edit 148 = .ok (.iload 5, 2) := by decide +kernel
theorem dX3_edit_150 : decode cX3_edit 150 = .ok (.iadd, 1) := by decide +kernel
theorem dX3_edit_151 : decode cX3_edit 151 = .ok (.aload_n 0, 1) := by decide +kernel
theorem dX3_edit_152 : decode cX3_edit 152 = .ok (.getfield 11, 3) := by decide +kernel
theorem dX3_edit_155 : decode cX3_edit 155 = .ok (.iload 5, 2) := by decide +kernel
theorem dX3_edit_157 : decode cX3_edit 157 = .ok (.iaload, 1) := by decide +kernel
theorem dX3_edit_158 : decode cX3_edit 158 = .ok (.invokevirtual 66, 3) := by decide +kernel
theorem dX3_edit_161 : decode cX3_edit 161 = .ok (.iinc 5 1, 3) := by decide +kernel
theorem dX3_edit_164 : decode cX3_edit 164 = .ok (.goto (-41), 3) := by decide +kernel
theorem dX3_edit_167 : decode cX3_edit 167 = .ok (.aload_n 0, 1) := by decide +kernel
theorem dX3_edit_168 : decode cX3_edit 168 = .ok (.getfield 56, 3) := by decide +kernel
theorem dX3_edit_171 : decode cX3_edit 171 = .ok (.ireturn, 1) := by decide +kernel
theorem dX3_editByte_0 : decode cX3_editByte 0 = .ok (.aload_n 0, 1) := by decide +kernel
theorem dX3_editByte_1 : decode cX3_editByte 1 = .ok (.getfield 28, 3) := by decide +kernel
theorem dX3_editByte_4 : decode cX3_editByte 4 = .ok (.iload_n 1, 1) := by decide +kernel
theorem dX3_editByte_5 : decode cX3_editByte 5 = .ok (.invokevirtual 49, 3) := by decide +kernel
theorem dX3_editByte_8 : decode cX3_editByte 8 = .ok (.istore_n 2, 1) := by decide +kernel
theorem dX3_editByte_9 : decode cX3_editByte 9 = .ok (.iconst 0, 1) := by decide +kernel
theorem dX3_editByte_10 : decode cX3_editByte 10 = .ok (.istore_n 3, 1) := by decide +kernel
theorem dX3_editByte_11 : decode cX3_editByte 11 = .ok (.aload_n 0, 1) := by decide +kernel
theorem dX3_editByte_12 : decode cX3_editByte 12 = .ok (.iconst 0, 1) := by decide +kernel
theorem dX3_editByte_13 : decode cX3_editByte 13 = .ok (.putfield 70, 3) := by decide +kernel
theorem dX3_editByte_16 : decode cX3_editByte 16 = .ok (.iload_n 2, 1) := by decide +kernel
theorem dX3_editByte_17 : decode cX3_editByte 17 = .ok (.invokestatic 73, 3) := by decide +kernel
theorem dX3_editByte_20 : decode cX3_editByte 20 = .ok (.ifCond .eq 54, 3) := by decide +kernel
theorem dX3_editByte_23 : decode cX3_editByte 23 = .ok (.aload_n 0, 1) := by decide +kernel
theorem dX3_editByte_24 : decode cX3_editByte 24 = .ok (.invokevirtual 77, 3) := by decide +kernel
theorem dX3_editByte_27 : decode cX3_editByte 27 = .ok (.istore_n 3, 1) := by decide +kernel
theorem dX3_editByte_28 : decode cX3_editByte 28 = .ok (.aload_n 0, 1) := by decide +kernel
theorem dX3_editByte_29 : decode cX3_editByte 29 = .ok (.aload_n 0, 1) := by decide +kernel
theorem dX3_editByte_30 : decode cX3_editByte 30 = .ok (.getfield 39, 3) := by decide +kernel
theorem dX3_editByte_33 : decode cX3_editByte 33 = .ok (.ifCond .ne 7, 3) := by decide +kernel
theorem dX3_editByte_36 : decode cX3_editByte 36 = .ok (.iload_n 3, 1) := by decide +kernel
theorem dX3_editByte_37 : decode cX3_editByte 37 = .ok (.ifCond .eq 7, 3) := by decide +kernel
theorem dX3_editByte_40 : decode cX3_editByte 40 = .ok (.iconst 1, 1) := by decide +kernel
theorem dX3_editByte_41 : decode cX3_editByte 41 = .ok (.goto 4, 3) := by decide +kernel
theorem dX3_editByte_44 : decode cX3_editByte 44 = .ok (.iconst 0, 1) := by decide +kernel
theorem dX3_editByte_45 : decode cX3_editByte 45 = .ok (.putfield 39, 3) := by decide +kernel
theorem dX3_editByte_48 : decode cX3_editByte 48 = .ok (.aload_n 0, 1) := by decide +kernel
theorem dX3_editByte_49 : decode cX3_editByte 49 = .ok (.iload_n 3, 1) := by decide +kernel
theorem dX3_editByte_50 : decode cX3_editByte 50 = .ok (.ifCond .eq 14, 3) := by decide +kernel
theorem dX3_editByte_53 : decode cX3_editByte 53 = .ok (.aload_n 0, 1) := by decide +kernel
theorem dX3_editByte_54 : decode cX3_editByte 54 = .ok (.getfield 43, 3) := by decide +kernel
theorem dX3_editByte_57 : decode cX3_editByte 57 = .ok (.ifCond .ne 7, 3) := by decide +kernel
theorem dX3_editByte_60 : decode cX3_editByte 60 = .ok (.iload_n 1, 1) := by decide +kernel
theorem dX3_editByte_61 : decode cX3_editByte 61 = .ok (.goto 7, 3) := by decide +kernel
theorem dX3_editByte_64 : decode cX3_editByte 64 = .ok (.aload_n 0, 1) := by decide +kernel
theorem dX3_editByte_65 : decode cX3_editByte 65 = .ok (.getfield 46, 3) := by decide +kernel
theorem dX3_editByte_68 : decode cX3_editByte 68 = .ok (.putfield 46, 3) := by decide +kernel
theorem dX3_editByte_71 : decode cX3_editByte 71 = .ok (.goto 14, 3) := by decide +kernel
theorem dX3_editByte_74 : decode cX3_editByte 74 = .ok (.iload_n 2, 1) := by decide +kernel
theorem dX3_editByte_75 : decode cX3_editByte 75 = .ok (.bipush 34, 2) := by decide +kernel
theorem dX3_editByte_77 : decode cX3_editByte 77 = .ok (.if_icmp .ne 8, 3) := by decide +kernel
theorem dX3_editByte_80 : decode cX3_editByte 80 = .ok (.aload_n 0, 1) := by decide +kernel
theorem dX3_editByte_81 : decode cX3_editByte 81 = .ok (.iconst 0, 1) := by decide +kernel
theorem dX3_editByte_82 : decode cX3_editByte 82 = .ok (.putfield 39, 3) := by decide +kernel
theorem dX3_editByte_85 : decode cX3_editByte 85 = .ok (.aload_n 0, 1) := by decide +kernel
theorem dX3_editByte_86 : decode cX3_editByte 86 = .ok (.getfield 28, 3) := by decide +kernel
theorem dX3_editByte_89 : decode cX3_editByte 89 = .ok (.iload_n 1, 1) := by decide +kernel
theorem dX3_editByte_90 : decode cX3_editByte 90 = .ok (.iload_n 2, 1) := by decide +kernel
theorem dX3_editByte_91 : decode cX3_editByte 91 = .ok (.aload_n 0, 1) := by decide +kernel
theorem dX3_editByte_92 : decode cX3_editByte 92 = .ok (.getfield 53, 3) := by decide +kernel
theorem dX3_editByte_95 : decode cX3_editByte 95 = .ok (.aload_n 0, 1) := by decide +kernel
theorem dX3_editByte_96 : decode cX3_editByte 96 = .ok (.getfield 43, 3) := by decide +kernel
theorem dX3_editByte_99 : decode cX3_editByte 99 = .ok (.iload_n 3, 1) := by decide +kernel
theorem dX3_editByte_100 : decode cX3_editByte 100 = .ok (.invokestatic 81, 3) := by decide +kernel
theorem dX3_editByte_103 : decode cX3_editByte 103 = .ok (.invokevirtual 66, 3) := by decide +kernel
theorem dX3_editByte_106 : decode cX3_editByte 106 = .ok (.aload_n 0, 1) := by decide +kernel
theorem dX3_editByte_107 : decode cX3_editByte 107 = .ok (.iload_n 2, 1) := by decide +kernel
theorem dX3_editByte_108 : decode cX3_editByte 108 = .ok (.aload_n 0, 1) := by decide +kernel
theorem dX3_editByte_109 : decode cX3_editByte 109 = .ok (.getfield 43, 3) := by decide +kernel
theorem dX3_editByte_112 : decode cX3_editByte 112 = .ok (.iload_n 3, 1) := by decide +kernel
theorem dX3_editByte_113 : decode cX3_editByte 113 = .ok (.aload_n 0, 1) := by decide +kernel
theorem dX3_editByte_114 : decode cX3_editByte 114 = .ok (.getfield 70, 3) := by decide +kernel
theorem dX3_editByte_117 : decode cX3_editByte 117 = .ok (.invokestatic 85, 3) := by decide +kernel
theorem dX3_editByte_120 : decode cX3_editByte 120 = .ok (.putfield 43, 3) := by decide +kernel
theorem dX3_editByte_123 : decode cX3_editByte 123 = .ok (.return_, 1) := by decide +kernel
theorem dX3_takeDigit_0 : decode cX3_takeDigit 0 = .ok (.aload_n 0, 1) := by decide +kernel
theorem dX3_takeDigit_1 : decode cX3_takeDigit 1 = .ok (.getfield 59, 3) := by decide +kernel
theorem dX3_takeDigit_4 : decode cX3_takeDigit 4 = .ok (.ifCond .eq 16, 3) := by decide +kernel
theorem dX3_takeDigit_7 : decode cX3_takeDigit 7 = .ok (.aload_n 0, 1) := by decide +kernel
theorem dX3_takeDigit_8 : decode cX3_takeDigit 8 = .ok (.iconst 0, 1) := by decide +kernel
theorem dX3_takeDigit_9 : decode cX3_takeDigit 9 = .ok (.putfield 59, 3) := by decide +kernel
theorem dX3_takeDigit_12 : decode cX3_takeDigit 12 = .ok (.aload_n 0, 1) := by decide +kernel
theorem dX3_takeDigit_13 : decode cX3_takeDigit 13 = .ok (.getfield 36, 3) := by decide +kernel
theorem dX3_takeDigit_16 : decode cX3_takeDigit 16 = .ok (.bipush 15, 2) := by decide +kernel
theorem dX3_takeDigit_18 : decode cX3_takeDigit 18 = .ok (.iand, 1) := by decide +kernel
theorem dX3_takeDigit_19 : decode cX3_takeDigit 19 = .ok (.ireturn, 1) := by decide +kernel
theorem dX3_takeDigit_20 : decode cX3_takeDigit 20 = .ok (.aload_n 0, 1) := by decide +kernel
theorem dX3_takeDigit_21 : decode cX3_takeDigit 21 = .ok (.dup, 1) := by decide +kernel
theorem dX3_takeDigit_22 : decode cX3_takeDigit 22 = .ok (.getfield 32, 3) := by decide +kernel
theorem dX3_takeDigit_25 : decode cX3_takeDigit 25 = .ok (.iconst 1, 1) := by decide +kernel
theorem dX3_takeDigit_26 : decode cX3_takeDigit 26 = .ok (.iadd, 1) := by decide +kernel
theorem dX3_takeDigit_27 : decode cX3_takeDigit 27 = .ok (.putfield 32, 3) := by decide +kernel
theorem dX3_takeDigit_30 : decode cX3_takeDigit 30 = .ok (.aload_n 0, 1) := by decide +kernel
theorem dX3_takeDigit_31 : decode cX3_takeDigit 31 = .ok (.getfield 32, 3) := by decide +kernel
theorem dX3_takeDigit_34 : decode cX3_takeDigit 34 = .ok (.ifCond .lt 13, 3) := by decide +kernel
theorem dX3_takeDigit_37 : decode cX3_takeDigit 37 = .ok (.aload_n 0, 1) := by decide +kernel
theorem dX3_takeDigit_38 : decode cX3_takeDigit 38 = .ok (.getfield 32, 3) := by decide +kernel
theorem dX3_takeDigit_41 : decode cX3_takeDigit 41 = .ok (.sipush 256, 3) := by decide +kernel
theorem dX3_takeDigit_44 : decode cX3_takeDigit 44 = .ok (.if_icmp .lt 10, 3) := by decide +kernel
theorem dX3_takeDigit_47 : decode cX3_takeDigit 47 = .ok (.aload_n 0, 1) := by decide +kernel
theorem dX3_takeDigit_48 : decode cX3_takeDigit 48 = .ok (.iconst 1, 1) := by decide +kernel
theorem dX3_takeDigit_49 : decode cX3_takeDigit 49 = .ok (.putfield 56, 3) := by decide +kernel
theorem dX3_takeDigit_52 : decode cX3_takeDigit 52 = .ok (.iconst 0, 1) := by decide +kernel
theorem dX3_takeDigit_53 : decode cX3_takeDigit 53 = .ok (.ireturn, 1) := by decide +kernel
theorem dX3_takeDigit_54 : decode cX3_takeDigit 54 = .ok (.aload_n 0, 1) := by decide +kernel
theorem dX3_takeDigit_55 : decode cX3_takeDigit 55 = .ok (.aload_n 0, 1) := by decide +kernel
theorem dX3_takeDigit_56 : decode cX3_takeDigit 56 = .ok (.getfield 28, 3) := by decide +kernel
theorem dX3_takeDigit_59 : decode cX3_takeDigit 59 = .ok (.getfield 91, 3) := by decide +kernel
theorem dX3_takeDigit_62 : decode cX3_takeDigit 62 = .ok (.aload_n 0, 1) := by decide +kernel
theorem dX3_takeDigit_63 : decode cX3_takeDigit 63 = .ok (.getfield 32, 3) := by decide +kernel
theorem dX3_takeDigit_66 : decode cX3_takeDigit 66 = .ok (.iaload, 1) := by decide +kernel
theorem dX3_takeDigit_67 : decode cX3_takeDigit 67 = .ok (.putfield 36, 3) := by decide +kernel
theorem dX3_takeDigit_70 : decode cX3_takeDigit 70 = .ok (.aload_n 0, 1) := by decide +kernel
theorem dX3_takeDigit_71 : decode cX3_takeDigit 71 = .ok (.getfield 36, 3) := by decide +kernel
theorem dX3_takeDigit_74 : decode cX3_takeDigit 74 = .ok (.iconst 4, 1) := by decide +kernel
theorem dX3_takeDigit_75 : decode cX3_takeDigit 75 = .ok (.ishr, 1) := by decide +kernel
theorem dX3_takeDigit_76 : decode cX3_takeDigit 76 = .ok (.bipush 9, 2) := by decide +kernel
theorem dX3_takeDigit_78 : decode cX3_takeDigit 78 = .ok (.if_icmp .le 10, 3) := by decide +kernel
theorem dX3_takeDigit_81 : decode cX3_takeDigit 81 = .ok (.aload_n 0, 1) := by decide +kernel
theorem dX3_takeDigit_82 : decode cX3_takeDigit 82 = .ok (.iconst 4, 1) := by decide +kernel
theorem dX3_takeDigit_83 : decode cX3_takeDigit 83 = .ok (.putfield 56, 3) := by decide +kernel
theorem dX3_takeDigit_86 : decode cX3_takeDigit 86 = .ok (.iconst 0, 1) := by decide +kernel
theorem dX3_takeDigit_87 : decode cX3_takeDigit 87 = .ok (.ireturn, 1) := by decide +kernel
theorem dX3_takeDigit_88 : decode cX3_takeDigit 88 = .ok (.aload_n 0, 1) := by decide +kernel
theorem dX3_takeDigit_89 : decode cX3_takeDigit 89 = .ok (.getfield 36, 3) := by decide +kernel
theorem dX3_takeDigit_92 : decode cX3_takeDigit 92 = .ok (.bipush 15, 2) := by decide +kernel
theorem dX3_takeDigit_94 : decode cX3_takeDigit 94 = .ok (.iand, 1) := by decide +kernel
theorem dX3_takeDigit_95 : decode cX3_takeDigit 95 = .ok (.istore_n 1, 1) := by decide +kernel
theorem dX3_takeDigit_96 : decode cX3_takeDigit 96 = .ok (.aload_n 0, 1) := by decide +kernel
theorem dX3_takeDigit_97 : decode cX3_takeDigit 97 = .ok (.iload_n 1, 1) := by decide +kernel
theorem dX3_takeDigit_98 : decode cX3_takeDigit 98 = .ok (.bipush 10, 2) := by decide +kernel
theorem dX3_takeDigit_100 : decode cX3_takeDigit 100 = .ok (.if_icmp .ge 7, 3) := by decide +kernel
theorem dX3_takeDigit_103 : decode cX3_takeDigit 103 = .ok (.iconst 1, 1) := by decide +kernel
theorem dX3_takeDigit_104 : decode cX3_takeDigit 104 = .ok (.goto 4, 3) := by decide +kernel
theorem dX3_takeDigit_107 : decode cX3_takeDigit 107 = .ok (.iconst 0, 1) := by decide +kernel
theorem dX3_takeDigit_108 : decode cX3_takeDigit 108 = .ok (.putfield 59, 3) := by decide +kernel
theorem dX3_takeDigit_111 : decode cX3_takeDigit 111 = .ok (.aload_n 0, 1) := by decide +kernel
theorem dX3_takeDigit_112 : decode cX3_takeDigit 112 = .ok (.iload_n 1, 1) := by decide +kernel
theorem dX3_takeDigit_113 : decode cX3_takeDigit 113 = .ok (.bipush 9, 2) := by decide +kernel
theorem dX3_takeDigit_115 : decode cX3_takeDigit 115 = .ok (.if_icmp .le 19, 3) := by decide +kernel
theorem dX3_takeDigit_118 : decode cX3_takeDigit 118 = .ok (.iload_n 1, 1) := by decide +kernel
theorem dX3_takeDigit_119 : decode cX3_takeDigit 119 = .ok (.bipush 11, 2) := by decide +kernel
theorem dX3_takeDigit_121 : decode cX3_takeDigit 121 = .ok (.if_icmp .eq 13, 3) := by decide +kernel
theorem dX3_takeDigit_124 : decode cX3_takeDigit 124 = .ok (.iload_n 1, 1) := by decide +kernel
theorem dX3_takeDigit_125 : decode cX3_takeDigit 125 = .ok (.bipush 13, 2) := by decide +kernel
theorem dX3_takeDigit_127 : decode cX3_takeDigit 127 = .ok (.if_icmp .eq 7, 3) := by decide +kernel
theorem dX3_takeDigit_130 : decode cX3_takeDigit 130 = .ok (.iconst 1, 1) := by decide +kernel
theorem dX3_takeDigit_131 : decode cX3_takeDigit 131 = .ok (.goto 4, 3) := by decide +kernel
theorem dX3_takeDigit_134 : decode cX3_takeDigit 134 = .ok (.iconst 0, 1) := by decide +kernel
theorem dX3_takeDigit_135 : decode cX3_takeDigit 135 = .ok (.putfield 70, 3) := by decide +kernel
theorem dX3_takeDigit_138 : decode cX3_takeDigit 138 = .ok (.aload_n 0, 1) := by decide +kernel
theorem dX3_takeDigit_139 : decode cX3_takeDigit 139 = .ok (.getfield 36, 3) := by decide +kernel
theorem dX3_takeDigit_142 : decode cX3_takeDigit 142 = .ok (.iconst 4, 1) := by decide +kernel
theorem dX3_takeDigit_143 : decode cX3_takeDigit 143 = .ok (.ishr, 1) := by decide +kernel
theorem dX3_takeDigit_144 : decode cX3_takeDigit 144 = .ok (.ireturn, 1) := by decide +kernel
theorem dX3_takesDigit_0 : decode cX3_takesDigit 0 = .ok (.iload_n 0, 1) := by decide +kernel
theorem dX3_takesDigit_1 : decode cX3_takesDigit 1 = .ok (.bipush 32, 2) := by decide +kernel
theorem dX3_takesDigit_3 : decode cX3_takesDigit 3 = .ok (.if_icmp .eq 9, 3) := by decide +kernel
theorem dX3_takesDigit_6 : decode cX3_takesDigit 6 = .ok (.iload_n 0, 1) := by decide +kernel
theorem dX3_takesDigit_7 : decode cX3_takesDigit 7 = .ok (.bipush 33, 2) := by decide +kernel
theorem dX3_takesDigit_9 : decode cX3_takesDigit 9 = .ok (.if_icmp .ne 7, 3) := by decide +kernel
theorem dX3_takesDigit_12 : decode cX3_takesDigit 12 = .ok (.iconst 1, 1) := by decide +kernel
theorem dX3_takesDigit_13 : decode cX3_takesDigit 13 = .ok (.goto 4, 3) := by decide +kernel
theorem dX3_takesDigit_16 : decode cX3_takesDigit 16 = .ok (.iconst 0, 1) := by decide +kernel
theorem dX3_takesDigit_17 : decode cX3_takesDigit 17 = .ok (.ireturn, 1) := by decide +kernel
theorem dX3_laid_0 : decode cX3_laid 0 = .ok (.iload_n 0, 1) := by decide +kernel
theorem dX3_laid_1 : decode cX3_laid 1 = .ok (.bipush 32, 2) := by decide +kernel
theorem dX3_laid_3 : decode cX3_laid 3 = .ok (.if_icmp .eq 9, 3) := by decide +kernel
theorem dX3_laid_6 : decode cX3_laid 6 = .ok (.iload_n 0, 1) := by decide +kernel
theorem dX3_laid_7 : decode cX3_laid 7 = .ok (.bipush 33, 2) := by decide +kernel
theorem dX3_laid_9 : decode cX3_laid 9 = .ok (.if_icmp .ne 21, 3) := by decide +kernel
theorem dX3_laid_12 : decode cX3_laid 12 = .ok (.iload_n 3, 1) := by decide +kernel
theorem dX3_laid_13 : decode cX3_laid 13 = .ok (.ifCond .ne 11, 3) := by decide +kernel
theorem dX3_laid_16 : decode cX3_laid 16 = .ok (.iload_n 2, 1) := by decide +kernel
theorem dX3_laid_17 : decode cX3_laid 17 = .ok (.ifCond .ne 7, 3) := by decide +kernel
theorem dX3_laid_20 : decode cX3_laid 20 = .ok (.iload_n 1, 1) := by decide +kernel
theorem dX3_laid_21 : decode cX3_laid 21 = .ok (.goto 8, 3) := by decide +kernel
theorem dX3_laid_24 : decode cX3_laid 24 = .ok (.sipush 240, 3) := by decide +kernel
theorem dX3_laid_27 : decode cX3_laid 27 = .ok (.iload_n 3, 1) := by decide +kernel
theorem dX3_laid_28 : decode cX3_laid 28 = .ok (.ior, 1) := by decide +kernel
theorem dX3_laid_29 : decode cX3_laid 29 = .ok (.ireturn, 1) := by decide +kernel
theorem dX3_laid_30 : decode cX3_laid 30 = .ok (.iload_n 0, 1) := by decide +kernel
theorem dX3_laid_31 : decode cX3_laid 31 = .ok (.bipush 34, 2) := by decide +kernel
theorem dX3_laid_33 : decode cX3_laid 33 = .ok (.if_icmp .eq 7, 3) := by decide +kernel
theorem dX3_laid_36 : decode cX3_laid 36 = .ok (.iload_n 2, 1) := by decide +kernel
theorem dX3_laid_37 : decode cX3_laid 37 = .ok (.ifCond .ne 7, 3) := by decide +kernel
theorem dX3_laid_40 : decode cX3_laid 40 = .ok (.iload_n 1, 1) := by decide +kernel
theorem dX3_laid_41 : decode cX3_laid 41 = .ok (.goto 4, 3) := by decide +kernel
theorem dX3_laid_44 : decode cX3_laid 44 = .ok (.iload_n 0, 1) := by decide +kernel
theorem dX3_laid_45 : decode cX3_laid 45 = .ok (.ireturn, 1) := by decide +kernel
theorem dX3_seenBehind_0 : decode cX3_seenBehind 0 = .ok (.iload_n 0, 1) := by decide +kernel
theorem dX3_seenBehind_1 : decode cX3_seenBehind 1 = .ok (.bipush 32, 2) := by decide +kernel
theorem dX3_seenBehind_3 : decode cX3_seenBehind 3 = .ok (.if_icmp .eq 9, 3) := by decide +kernel
theorem dX3_seenBehind_6 : decode cX3_seenBehind 6 = .ok (.iload_n 0, 1) := by decide +kernel
theorem dX3_seenBehind_7 : decode cX3_seenBehind 7 = .ok (.bipush 33, 2) := by decide +kernel
theorem dX3_seenBehind_9 : decode cX3_seenBehind 9 = .ok (.if_icmp .ne 27, 3) := by decide +kernel
theorem dX3_seenBehind_12 : decode cX3_seenBehind 12 = .ok (.iload_n 3, 1) := by decide +kernel
theorem dX3_seenBehind_13 : decode cX3_seenBehind 13 = .ok (.ifCond .ne 21, 3) := by decide +kernel
theorem dX3_seenBehind_16 : decode cX3_seenBehind 16 = .ok (.iload_n 1, 1) := by decide +kernel
theorem dX3_seenBehind_17 : decode cX3_seenBehind 17 = .ok (.ifCond .ne 13, 3) := by decide +kernel
theorem dX3_seenBehind_20 : decode cX3_seenBehind 20 = .ok (.iload_n 2, 1) := by decide +kernel
theorem dX3_seenBehind_21 : decode cX3_seenBehind 21 = .ok (.ifCond .ne 9, 3) := by decide +kernel
theorem dX3_seenBehind_24 : decode cX3_seenBehind 24 = .ok (.iload_n 0, 1) := by decide +kernel
theorem dX3_seenBehind_25 : decode cX3_seenBehind 25 = .ok (.bipush 33, 2) := by decide +kernel
theorem dX3_seenBehind_27 : decode cX3_seenBehind 27 = .ok (.if_icmp .ne 7, 3) := by decide +kernel
theorem dX3_seenBehind_30 : decode cX3_seenBehind 30 = .ok (.iconst 1, 1) := by decide +kernel
theorem dX3_seenBehind_31 : decode cX3_seenBehind 31 = .ok (.goto 4, 3) := by decide +kernel
theorem dX3_seenBehind_34 : decode cX3_seenBehind 34 = .ok (.iconst 0, 1) := by decide +kernel
theorem dX3_seenBehind_35 : decode cX3_seenBehind 35 = .ok (.ireturn, 1) := by decide +kernel
theorem dX3_seenBehind_36 : decode cX3_seenBehind 36 = .ok (.iload_n 0, 1) := by decide +kernel
theorem dX3_seenBehind_37 : decode cX3_seenBehind 37 = .ok (.bipush 34, 2) := by decide +kernel
theorem dX3_seenBehind_39 : decode cX3_seenBehind 39 = .ok (.if_icmp .eq 11, 3) := by decide +kernel
theorem dX3_seenBehind_42 : decode cX3_seenBehind 42 = .ok (.iload_n 1, 1) := by decide +kernel
theorem dX3_seenBehind_43 : decode cX3_seenBehind 43 = .ok (.ifCond .eq 7, 3) := by decide +kernel
theorem dX3_seenBehind_46 : decode cX3_seenBehind 46 = .ok (.iconst 1, 1) := by decide +kernel
theorem dX3_seenBehind_47 : decode cX3_seenBehind 47 = .ok (.goto 4, 3) := by decide +kernel
theorem dX3_seenBehind_50 : decode cX3_seenBehind 50 = .ok (.iconst 0, 1) := by decide +kernel
theorem dX3_seenBehind_51 : decode cX3_seenBehind 51 = .ok (.ireturn, 1) := by decide +kernel
theorem dX3_sources_0 : decode cX3_sources 0 = .ok (.aload_n 0, 1) := by decide +kernel
theorem dX3_sources_1 : decode cX3_sources 1 = .ok (.iload_n 3, 1) := by decide +kernel
theorem dX3_sources_2 : decode cX3_sources 2 = .ok (.bipush 32, 2) := by decide +kernel
theorem dX3_sources_4 : decode cX3_sources 4 = .ok (.invokestatic 94, 3) := by decide +kernel
theorem dX3_sources_7 : decode cX3_sources 7 = .ok (.putfield 100, 3) := by decide +kernel
theorem dX3_sources_10 : decode cX3_sources 10 = .ok (.aload_n 0, 1) := by decide +kernel
theorem dX3_sources_11 : decode cX3_sources 11 = .ok (.aload_n 1, 1) := by decide +kernel
theorem dX3_sources_12 : decode cX3_sources 12 = .ok (.iload_n 2, 1) := by decide +kernel
theorem dX3_sources_13 : decode cX3_sources 13 = .ok (.invokevirtual 49, 3) := by decide +kernel
theorem dX3_sources_16 : decode cX3_sources 16 = .ok (.putfield 53, 3) := by decide +kernel
theorem dX3_sources_19 : decode cX3_sources 19 = .ok (.aload_n 0, 1) := by decide +kernel
theorem dX3_sources_20 : decode cX3_sources 20 = .ok (.iconst 0, 1) := by decide +kernel
theorem dX3_sources_21 : decode cX3_sources 21 = .ok (.putfield 103, 3) := by decide +kernel
theorem dX3_sources_24 : decode cX3_sources 24 = .ok (.aload_n 0, 1) := by decide +kernel
theorem dX3_sources_25 : decode cX3_sources 25 = .ok (.iconst (-1), 1) := by decide +kernel
theorem dX3_sources_26 : decode cX3_sources 26 = .ok (.putfield 106, 3) := by decide +kernel
theorem dX3_sources_29 : decode cX3_sources 29 = .ok (.iconst 0, 1) := by decide +kernel
theorem dX3_sources_30 : decode cX3_sources 30 = .ok (.istore 5, 2) := by decide +kernel
theorem dX3_sources_32 : decode cX3_sources 32 = .ok (.iload 5, 2) := by decide +kernel
theorem dX3_sources_34 : decode cX3_sources 34 = .ok (.aload_n 0, 1) := by decide +kernel
theorem dX3_sources_35 : decode cX3_sources 35 = .ok (.getfield 100, 3) := by decide +kernel
theorem dX3_sources_38 : decode cX3_sources 38 = .ok (.if_icmp .ge 69, 3) := by decide +kernel
theorem dX3_sources_41 : decode cX3_sources 41 = .ok (.aload_n 0, 1) := by decide +kernel
theorem dX3_sources_42 : decode cX3_sources 42 = .ok (.getfield 15, 3) := by decide +kernel
theorem dX3_sources_45 : decode cX3_sources 45 = .ok (.iload 5, 2) := by decide +kernel
theorem dX3_sources_47 : decode cX3_sources 47 = .ok (.aload_n 1, 1) := by decide +kernel
theorem dX3_sources_48 : decode cX3_sources 48 = .ok (.iload_n 2, 1) := by decide +kernel
theorem dX3_sources_49 : decode cX3_sources 49 = .ok (.iload 5, 2) := by decide +kernel
theorem dX3_sources_51 : decode cX3_sources 51 = .ok (.iadd, 1) := by decide +kernel
theorem dX3_sources_52 : decode cX3_sources 52 = .ok (.invokevirtual 49, 3) := by decide +kernel
theorem dX3_sources_55 : decode cX3_sources 55 = .ok (.iastore, 1) := by decide +kernel
theorem dX3_sources_56 : decode cX3_sources 56 = .ok (.aload_n 0, 1) := by decide +kernel
theorem dX3_sources_57 : decode cX3_sources 57 = .ok (.getfield 18, 3) := by decide +kernel
theorem dX3_sources_60 : decode cX3_sources 60 = .ok (.iload 5, 2) := by decide +kernel
theorem dX3_sources_62 : decode cX3_sources 62 = .ok (.aload_n 1, 1) := by decide +kernel
theorem dX3_sources_63 : decode cX3_sources 63 = .ok (.iload 4, 2) := by decide +kernel
theorem dX3_sources_65 : decode cX3_sources 65 = .ok (.iload 5, 2) := by decide +kernel
theorem dX3_sources_67 : decode cX3_sources 67 = .ok (.iadd, 1) := by decide +kernel
theorem dX3_sources_68 : decode cX3_sources 68 = .ok (.invokevirtual 49, 3) := by decide +kernel
theorem dX3_sources_71 : decode cX3_sources 71 = .ok (.iastore, 1) := by decide +kernel
theorem dX3_sources_72 : decode cX3_sources 72 = .ok (.aload_n 0, 1) := by decide +kernel
theorem dX3_sources_73 : decode cX3_sources 73 = .ok (.getfield 15, 3) := by decide +kernel
theorem dX3_sources_76 : decode cX3_sources 76 = .ok (.iload 5, 2) := by decide +kernel
theorem dX3_sources_78 : decode cX3_sources 78 = .ok (.iaload, 1) := by decide +kernel
theorem dX3_sources_79 : decode cX3_sources 79 = .ok (.invokestatic 73, 3) := by decide +kernel
theorem dX3_sources_82 : decode cX3_sources 82 = .ok (.ifCond .eq 19, 3) := by decide +kernel
theorem dX3_sources_85 : decode cX3_sources 85 = .ok (.aload_n 0, 1) := by decide +kernel
theorem dX3_sources_86 : decode cX3_sources 86 = .ok (.dup, 1) := by decide +kernel
theorem dX3_sources_87 : decode cX3_sources 87 = .ok (.getfield 103, 3) := by decide +kernel
theorem dX3_sources_90 : decode cX3_sources 90 = .ok (.iconst 1, 1) := by decide +kernel
theorem dX3_sources_91 : decode cX3_sources 91 = .ok (.iadd, 1) := by decide +kernel
theorem dX3_sources_92 : decode cX3_sources 92 = .ok (.putfield 103, 3) := by decide +kernel
theorem dX3_sources_95 : decode cX3_sources 95 = .ok (.aload_n 0, 1) := by decide +kernel
theorem dX3_sources_96 : decode cX3_sources 96 = .ok (.iload 5, 2) := by decide +kernel
theorem dX3_sources_98 : decode cX3_sources 98 = .ok (.putfield 106, 3) := by decide +kernel
theorem dX3_sources_101 : decode cX3_sources 101 = .ok (.iinc 5 1, 3) := by decide +kernel
theorem dX3_sources_104 : decode cX3_sources 104 = .ok (.goto (-72), 3) := by decide +kernel
theorem dX3_sources_107 : decode cX3_sources 107 = .ok (.aload_n 0, 1) := by decide +kernel
theorem dX3_sources_108 : decode cX3_sources 108 = .ok (.getfield 100, 3) := by decide +kernel
theorem dX3_sources_111 : decode cX3_sources 111 = .ok (.istore 5, 2) := by decide +kernel
theorem dX3_sources_113 : decode cX3_sources 113 = .ok (.iload 5, 2) := by decide +kernel
theorem dX3_sources_115 : decode cX3_sources 115 = .ok (.ifCond .lt 57, 3) := by decide +kernel
theorem dX3_sources_118 : decode cX3_sources 118 = .ok (.iconst 0, 1) := by decide +kernel
theorem dX3_sources_119 : decode cX3_sources 119 = .ok (.istore 6, 2) := by decide +kernel
theorem dX3_sources_121 : decode cX3_sources 121 = .ok (.iload 6, 2) := by decide +kernel
theorem dX3_sources_123 : decode cX3_sources 123 = .ok (.iconst 4, 1) := by decide +kernel
theorem dX3_sources_124 : decode cX3_sources 124 = .ok (.if_icmp .ge 42, 3) := by decide +kernel
theorem dX3_sources_127 : decode cX3_sources 127 = .ok (.aload_n 0, 1) := by decide +kernel
theorem dX3_sources_128 : decode cX3_sources 128 = .ok (.getfield 21, 3) := by decide +kernel
theorem dX3_sources_131 : decode cX3_sources 131 = .ok (.iconst 4, 1) := by decide +kernel
theorem dX3_sources_132 : decode cX3_sources 132 = .ok (.iload 5, 2) := by decide +kernel
theorem dX3_sources_134 : decode cX3_sources 134 = .ok (.imul, 1) := by decide +kernel
theorem dX3_sources_135 : decode cX3_sources 135 = .ok (.iload 6, 2) := by decide +kernel
theorem dX3_sources_137 : decode cX3_sources 137 = .ok (.iadd, 1) := by decide +kernel
theorem dX3_sources_138 : decode cX3_sources 138 = .ok (.iload 5, 2) := by decide +kernel
theorem dX3_sources_140 : decode cX3_sources 140 = .ok (.aload_n 0, 1) := by decide +kernel
theorem dX3_sources_141 : decode cX3_sources 141 = .ok (.getfield 100, 3) := by decide +kernel
theorem dX3_sources_144 : decode cX3_sources 144 = .ok (.if_icmp .ne 7, 3) := by decide +kernel
theorem dX3_sources_147 : decode cX3_sources 147 = .ok (.lconst 1, 1) := by decide +kernel
theorem dX3_sources_148 : decode cX3_sources 148 = .ok (.goto 11, 3) := by decide +kernel
theorem dX3_sources_151 : decode cX3_sources 151 = .ok (.aload_n 0, 1) := by decide +kernel
theorem dX3_sources_152 : decode cX3_sources 152 = .ok (.iload 5, 2) := by decide +kernel
theorem dX3_sources_154 : decode cX3_sources 154 = .ok (.iload 6, 2) := by decide +kernel
theorem dX3_sources_156 : decode cX3_sources 156 = .ok (.invokevirtual 109, 3) := by decide +kernel
theorem dX3_sources_159 : decode cX3_sources 159 = .ok (.lastore, 1) := by decide +kernel
theorem dX3_sources_160 : decode cX3_sources 160 = .ok (.iinc 6 1, 3) := by decide +kernel
theorem dX3_sources_163 : decode cX3_sources 163 = .ok (.goto (-42), 3) := by decide +kernel
theorem dX3_sources_166 : decode cX3_sources 166 = .ok (.iinc 5 (-1), 3) := by decide +kernel
theorem dX3_sources_169 : decode cX3_sources 169 = .ok (.goto (-56), 3) := by decide +kernel
theorem dX3_sources_172 : decode cX3_sources 172 = .ok (.aload_n 0, 1) := by decide +kernel
theorem dX3_sources_173 : decode cX3_sources 173 = .ok (.getfield 21, 3) := by decide +kernel
theorem dX3_sources_176 : decode cX3_sources 176 = .ok (.iconst 0, 1) := by decide +kernel
theorem dX3_sources_177 : decode cX3_sources 177 = .ok (.laload, 1) := by decide +kernel
theorem dX3_sources_178 : decode cX3_sources 178 = .ok (.aload_n 0, 1) := by decide +kernel
theorem dX3_sources_179 : decode cX3_sources 179 = .ok (.getfield 21, 3) := by decide +kernel
theorem dX3_sources_182 : decode cX3_sources 182 = .ok (.iconst 2, 1) := by decide +kernel
theorem dX3_sources_183 : decode cX3_sources 183 = .ok (.laload, 1) := by decide +kernel
theorem dX3_sources_184 : decode cX3_sources 184 = .ok (.ladd, 1) := by decide +kernel
theorem dX3_sources_185 : decode cX3_sources 185 = .ok (.lreturn, 1) := by decide +kernel
theorem dX3_digits_0 : decode cX3_digits 0 = .ok (.aload_n 0, 1) := by decide +kernel
theorem dX3_digits_1 : decode cX3_digits 1 = .ok (.getfield 103, 3) := by decide +kernel
theorem dX3_digits_4 : decode cX3_digits 4 = .ok (.ireturn, 1) := by decide +kernel
theorem dX3_firstSource_0 : decode cX3_firstSource 0 = .ok (.aload_n 0, 1) := by decide +kernel
theorem dX3_firstSource_1 : decode cX3_firstSource 1 = .ok (.getfield 21, 3) := by decide +kernel
theorem dX3_firstSource_4 : decode cX3_firstSource 4 = .ok (.iconst 0, 1) := by decide +kernel
theorem dX3_firstSource_5 : decode cX3_firstSource 5 = .ok (.laload, 1) := by decide +kernel
theorem dX3_firstSource_6 : decode cX3_firstSource 6 = .ok (.lconst 0, 1) := by decide +kernel
theorem dX3_firstSource_7 : decode cX3_firstSource 7 = .ok (.lcmp, 1) := by decide +kernel
theorem dX3_firstSource_8 : decode cX3_firstSource 8 = .ok (.ifCond .le 7, 3) := by decide +kernel
theorem dX3_firstSource_11 : decode cX3_firstSource 11 = .ok (.iconst 0, 1) := by decide +kernel
theorem dX3_firstSource_12 : decode cX3_firstSource 12 = .ok (.goto 4, 3) := by decide +kernel
theorem dX3_firstSource_15 : decode cX3_firstSource 15 = .ok (.iconst (-1), 1) := by decide +kernel
theorem dX3_firstSource_16 : decode cX3_firstSource 16 = .ok (.istore_n 2, 1) := by decide +kernel
theorem dX3_firstSource_17 : decode cX3_firstSource 17 = .ok (.aload_n 0, 1) := by decide +kernel
theorem dX3_firstSource_18 : decode cX3_firstSource 18 = .ok (.getfield 21, 3) := by decide +kernel
theorem dX3_firstSource_21 : decode cX3_firstSource 21 = .ok (.iconst 2, 1) := by decide +kernel
theorem dX3_firstSource_22 : decode cX3_firstSource 22 = .ok (.laload, 1) := by decide +kernel
theorem dX3_firstSource_23 : decode cX3_firstSource 23 = .ok (.lconst 0, 1) := by decide +kernel
theorem dX3_firstSource_24 : decode cX3_firstSource 24 = .ok (.lcmp, 1) := by decide +kernel
theorem dX3_firstSource_25 : decode cX3_firstSource 25 = .ok (.ifCond .le 7, 3) := by decide +kernel
theorem dX3_firstSource_28 : decode cX3_firstSource 28 = .ok (.iconst 2, 1) := by decide +kernel
theorem dX3_firstSource_29 : decode cX3_firstSource 29 = .ok (.goto 4, 3) := by decide +kernel
theorem dX3_firstSource_32 : decode cX3_firstSource 32 = .ok (.iconst (-1), 1) := by decide +kernel
theorem dX3_firstSource_33 : decode cX3_firstSource 33 = .ok (.istore_n 3, 1) := by decide +kernel
theorem dX3_firstSource_34 : decode cX3_firstSource 34 = .ok (.iconst 0, 1) := by decide +kernel
theorem dX3_firstSource_35 : decode cX3_firstSource 35 = .ok (.istore 4, 2) := by decide +kernel
theorem dX3_firstSource_37 : decode cX3_firstSource 37 = .ok (.iconst 0, 1) := by decide +kernel
theorem dX3_firstSource_38 : decode cX3_firstSource 38 = .ok (.istore 5, 2) := by decide +kernel
theorem dX3_firstSource_40 : decode cX3_firstSource 40 = .ok (.iload 5, 2) := by decide +kernel
theorem dX3_firstSource_42 : decode cX3_firstSource 42 = .ok (.aload_n 0, 1) := by decide +kernel
theorem dX3_firstSource_43 : decode cX3_firstSource 43 = .ok (.getfield 100, 3) := by decide +kernel
theorem dX3_firstSource_46 : decode cX3_firstSource 46 = .ok (.if_icmp .ge 96, 3) := by decide +kernel
theorem dX3_firstSource_49 : decode cX3_firstSource 49 = .ok (.iconst 0, 1) := by decide +kernel
theorem dX3_firstSource_50 : decode cX3_firstSource 50 = .ok (.istore 6, 2) := by decide +kernel
theorem dX3_firstSource_52 : decode cX3_firstSource 52 = .ok (.iload 6, 2) := by decide +kernel
theorem dX3_firstSource_54 : decode cX3_firstSource 54 = .ok (.bipush 9, 2) := by decide +kernel
theorem dX3_firstSource_56 : decode cX3_firstSource 56 = .ok (.if_icmp .ge 35, 3) := by decide +kernel
theorem dX3_firstSource_59 : decode cX3_firstSource 59 = .ok (.aload_n 0, 1) := by decide +kernel
theorem dX3_firstSource_60 : decode cX3_firstSource 60 = .ok (.iload 5, 2) := by decide +kernel
theorem dX3_firstSource_62 : decode cX3_firstSource 62 = .ok (.iload_n 2, 1) := by decide +kernel
theorem dX3_firstSource_63 : decode cX3_firstSource 63 = .ok (.iload 6, 2) := by decide +kernel
theorem dX3_firstSource_65 : decode cX3_firstSource 65 = .ok (.invokevirtual 113, 3) := by decide +kernel
theorem dX3_firstSource_68 : decode cX3_firstSource 68 = .ok (.iconst (-1), 1) := by decide +kernel
theorem dX3_firstSource_69 : decode cX3_firstSource 69 = .ok (.if_icmp .ne 22, 3) := by decide +kernel
theorem dX3_firstSource_72 : decode cX3_firstSource 72 = .ok (.aload_n 0, 1) := by decide +kernel
theorem dX3_firstSource_73 : decode cX3_firstSource 73 = .ok (.iload 5, 2) := by decide +kernel
theorem dX3_firstSource_75 : decode cX3_firstSource 75 = .ok (.iload_n 3, 1) := by decide +kernel
theorem dX3_firstSource_76 : decode cX3_firstSource 76 = .ok (.iload 6, 2) := by decide +kernel
theorem dX3_firstSource_78 : decode cX3_firstSource 78 = .ok (.invokevirtual 113, 3) := by decide +kernel
theorem dX3_firstSource_81 : decode cX3_firstSource 81 = .ok (.iconst (-1), 1) := by decide +kernel
theorem dX3_firstSource_82 : decode cX3_firstSource 82 = .ok (.if_icmp .ne 9, 3) := by decide +kernel
theorem dX3_firstSource_85 : decode cX3_firstSource 85 = .ok (.iinc 6 1, 3) := by decide +kernel
theorem dX3_firstSource_88 : decode cX3_firstSource 88 = .ok (.goto (-36), 3) := by decide +kernel
theorem dX3_firstSource_91 : decode cX3_firstSource 91 = .ok (.aload_n 0, 1) := by decide +kernel
theorem dX3_firstSource_92 : decode cX3_firstSource 92 = .ok (.getfield 15, 3) := by decide +kernel
theorem dX3_firstSource_95 : decode cX3_firstSource 95 = .ok (.iload 5, 2) := by decide +kernel
theorem dX3_firstSource_97 : decode cX3_firstSource 97 = .ok (.iaload, 1) := by decide +kernel
theorem dX3_firstSource_98 : decode cX3_firstSource 98 = .ok (.invokestatic 73, 3) := by decide +kernel
theorem dX3_firstSource_101 : decode cX3_firstSource 101 = .ok (.ifCond .eq 15, 3) := by decide +kernel
theorem dX3_firstSource_104 : decode cX3_firstSource 104 = .ok (.iload 4, 2) := by decide +kernel
theorem dX3_firstSource_106 : decode cX3_firstSource 106 = .ok (.iload_n 1, 1) := by decide +kernel
theorem dX3_firstSource_107 : decode cX3_firstSource 107 = .ok (.if_icmp .ne 6, 3) := by decide +kernel
theorem dX3_firstSource_110 : decode cX3_firstSource 110 = .ok (.iload 6, 2) := by decide +kernel
theorem dX3_firstSource_112 : decode cX3_firstSource 112 = .ok (.ireturn, 1) := by decide +kernel
theorem dX3_firstSource_113 : decode cX3_firstSource 113 = .ok (.iinc 4 1, 3) := by decide +kernel
theorem dX3_firstSource_116 : decode cX3_firstSource 116 = .ok (.aload_n 0, 1) := by decide +kernel
theorem dX3_firstSource_117 : decode cX3_firstSource 117 = .ok (.iload 5, 2) := by decide +kernel
theorem dX3_firstSource_119 : decode cX3_firstSource 119 = .ok (.iload_n 2, 1) := by decide +kernel
theorem dX3_firstSource_120 : decode cX3_firstSource 120 = .ok (.iload 6, 2) := by decide +kernel
theorem dX3_firstSource_122 : decode cX3_firstSource 122 = .ok (.invokevirtual 113, 3) := by decide +kernel
theorem dX3_firstSource_125 : decode cX3_firstSource 125 = .ok (.istore_n 2, 1) := by decide +kernel
theorem dX3_firstSource_126 : decode cX3_firstSource 126 = .ok (.aload_n 0, 1) := by decide +kernel
theorem dX3_firstSource_127 : decode cX3_firstSource 127 = .ok (.iload 5, 2) := by decide +kernel
theorem dX3_firstSource_129 : decode cX3_firstSource 129 = .ok (.iload_n 3, 1) := by decide +kernel
theorem dX3_firstSource_130 : decode cX3_firstSource 130 = .ok (.iload 6, 2) := by decide +kernel
theorem dX3_firstSource_132 : decode cX3_firstSource 132 = .ok (.invokevirtual 113, 3) := by decide +kernel
theorem dX3_firstSource_135 : decode cX3_firstSource 135 = .ok (.istore_n 3, 1) := by decide +kernel
theorem dX3_firstSource_136 : decode cX3_firstSource 136 = .ok (.iinc 5 1, 3) := by decide +kernel
theorem dX3_firstSource_139 : decode cX3_firstSource 139 = .ok (.goto (-99), 3) := by decide +kernel
theorem dX3_firstSource_142 : decode cX3_firstSource 142 = .ok (.iload_n 2, 1) := by decide +kernel
theorem dX3_firstSource_143 : decode cX3_firstSource 143 = .ok (.iconst (-1), 1) := by decide +kernel
theorem dX3_firstSource_144 : decode cX3_firstSource 144 = .ok (.if_icmp .eq 7, 3) := by decide +kernel
theorem dX3_firstSource_147 : decode cX3_firstSource 147 = .ok (.iconst 0, 1) := by decide +kernel
theorem dX3_firstSource_148 : decode cX3_firstSource 148 = .ok (.goto 4, 3) := by decide +kernel
theorem dX3_firstSource_151 : decode cX3_firstSource 151 = .ok (.iconst 1, 1) := by decide +kernel
theorem dX3_firstSource_152 : decode cX3_firstSource 152 = .ok (.ireturn, 1) := by decide +kernel
theorem dX3_waysFrom_0 : decode cX3_waysFrom 0 = .ok (.aload_n 0, 1) := by decide +kernel
theorem dX3_waysFrom_1 : decode cX3_waysFrom 1 = .ok (.getfield 15, 3) := by decide +kernel
theorem dX3_waysFrom_4 : decode cX3_waysFrom 4 = .ok (.iload_n 1, 1) := by decide +kernel
theorem dX3_waysFrom_5 : decode cX3_waysFrom 5 = .ok (.iaload, 1) := by decide +kernel
theorem dX3_waysFrom_6 : decode cX3_waysFrom 6 = .ok (.invokestatic 73, 3) := by decide +kernel
theorem dX3_waysFrom_9 : decode cX3_waysFrom 9 = .ok (.ifCond .eq 8, 3) := by decide +kernel
theorem dX3_waysFrom_12 : decode cX3_waysFrom 12 = .ok (.bipush 9, 2) := by decide +kernel
theorem dX3_waysFrom_14 : decode cX3_waysFrom 14 = .ok (.goto 4, 3) := by decide +kernel
theorem dX3_waysFrom_17 : decode cX3_waysFrom 17 = .ok (.iconst 0, 1) := by decide +kernel
theorem dX3_waysFrom_18 : decode cX3_waysFrom 18 = .ok (.istore_n 3, 1) := by decide +kernel
theorem dX3_waysFrom_19 : decode cX3_waysFrom 19 = .ok (.lconst 0, 1) := by decide +kernel
theorem dX3_waysFrom_20 : decode cX3_waysFrom 20 = .ok (.lstore 4, 2) := by decide +kernel
theorem dX3_waysFrom_22 : decode cX3_waysFrom 22 = .ok (.iconst 0, 1) := by decide +kernel
theorem dX3_waysFrom_23 : decode cX3_waysFrom 23 = .ok (.istore 6, 2) := by decide +kernel
theorem dX3_waysFrom_25 : decode cX3_waysFrom 25 = .ok (.iload 6, 2) := by decide +kernel
theorem dX3_waysFrom_27 : decode cX3_waysFrom 27 = .ok (.iload_n 3, 1) := by decide +kernel
theorem dX3_waysFrom_28 : decode cX3_waysFrom 28 = .ok (.if_icmp .gt 47, 3) := by decide +kernel
theorem dX3_waysFrom_31 : decode cX3_waysFrom 31 = .ok (.aload_n 0, 1) := by decide +kernel
theorem dX3_waysFrom_32 : decode cX3_waysFrom 32 = .ok (.iload_n 1, 1) := by decide +kernel
theorem dX3_waysFrom_33 : decode cX3_waysFrom 33 = .ok (.iload_n 2, 1) := by decide +kernel
theorem dX3_waysFrom_34 : decode cX3_waysFrom 34 = .ok (.iload 6, 2) := by decide +kernel
