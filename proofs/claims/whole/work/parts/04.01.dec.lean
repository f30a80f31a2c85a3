theorem dX1_size_0 : decode cX1_size 0 = .ok (.aload_n 0, 1) := by decide +kernel
theorem dX1_size_1 : decode cX1_size 1 = .ok (.getfield 15, 3) := by decide +kernel
theorem dX1_size_4 : decode cX1_size 4 = .ok (.ireturn, 1) := by decide +kernel
theorem dX1_below_0 : decode cX1_below 0 = .ok (.aload_n 0, 1) := by decide +kernel
theorem dX1_below_1 : decode cX1_below 1 = .ok (.getfield 19, 3) := by decide +kernel
theorem dX1_below_4 : decode cX1_below 4 = .ok (.ireturn, 1) := by decide +kernel
theorem dX1_digit_0 : decode cX1_digit 0 = .ok (.iload_n 1, 1) := by decide +kernel
theorem dX1_digit_1 : decode cX1_digit 1 = .ok (.ifCond .lt 18, 3) := by decide +kernel
theorem dX1_digit_4 : decode cX1_digit 4 = .ok (.iload_n 1, 1) := by decide +kernel
theorem dX1_digit_5 : decode cX1_digit 5 = .ok (.bipush 64, 2) := by decide +kernel
theorem dX1_digit_7 : decode cX1_digit 7 = .ok (.if_icmp .ge 12, 3) := by decide +kernel
theorem dX1_digit_10 : decode cX1_digit 10 = .ok (.aload_n 0, 1) := by decide +kernel
theorem dX1_digit_11 : decode cX1_digit 11 = .ok (.getfield 11, 3) := by decide +kernel
theorem dX1_digit_14 : decode cX1_digit 14 = .ok (.iload_n 1, 1) := by decide +kernel
theorem dX1_digit_15 : decode cX1_digit 15 = .ok (.iaload, 1) := by decide +kernel
theorem dX1_digit_16 : decode cX1_digit 16 = .ok (.goto 4, 3) := by decide +kernel
theorem dX1_digit_19 : decode cX1_digit 19 = .ok (.iconst 0, 1) := by decide +kernel
theorem dX1_digit_20 : decode cX1_digit 20 = .ok (.ireturn, 1) := by decide +kernel
theorem dX1_sign_0 : decode cX1_sign 0 = .ok (.aload_n 0, 1) := by decide +kernel
theorem dX1_sign_1 : decode cX1_sign 1 = .ok (.getfield 19, 3) := by decide +kernel
theorem dX1_sign_4 : decode cX1_sign 4 = .ok (.ifCond .eq 15, 3) := by decide +kernel
theorem dX1_sign_7 : decode cX1_sign 7 = .ok (.aload_n 0, 1) := by decide +kernel
theorem dX1_sign_8 : decode cX1_sign 8 = .ok (.getfield 15, 3) := by decide +kernel
theorem dX1_sign_11 : decode cX1_sign 11 = .ok (.ifCond .le 8, 3) := by decide +kernel
theorem dX1_sign_14 : decode cX1_sign 14 = .ok (.bipush 13, 2) := by decide +kernel
theorem dX1_sign_16 : decode cX1_sign 16 = .ok (.goto 5, 3) := by decide +kernel
theorem dX1_sign_19 : decode cX1_sign 19 = .ok (.bipush 12, 2) := by decide +kernel
theorem dX1_sign_21 : decode cX1_sign 21 = .ok (.ireturn, 1) := by decide +kernel
theorem dX1_kind_0 : decode cX1_kind 0 = .ok (.aload_n 0, 1) := by decide +kernel
theorem dX1_kind_1 : decode cX1_kind 1 = .ok (.getfield 15, 3) := by decide +kernel
theorem dX1_kind_4 : decode cX1_kind 4 = .ok (.ifCond .ne 5, 3) := by decide +kernel
theorem dX1_kind_7 : decode cX1_kind 7 = .ok (.iconst 0, 1) := by decide +kernel
theorem dX1_kind_8 : decode cX1_kind 8 = .ok (.ireturn, 1) := by decide +kernel
theorem dX1_kind_9 : decode cX1_kind 9 = .ok (.aload_n 0, 1) := by decide +kernel
theorem dX1_kind_10 : decode cX1_kind 10 = .ok (.getfield 19, 3) := by decide +kernel
theorem dX1_kind_13 : decode cX1_kind 13 = .ok (.ifCond .eq 7, 3) := by decide +kernel
theorem dX1_kind_16 : decode cX1_kind 16 = .ok (.iconst 1, 1) := by decide +kernel
theorem dX1_kind_17 : decode cX1_kind 17 = .ok (.goto 4, 3) := by decide +kernel
theorem dX1_kind_20 : decode cX1_kind 20 = .ok (.iconst 2, 1) := by decide +kernel
theorem dX1_kind_21 : decode cX1_kind 21 = .ok (.ireturn, 1) := by decide +kernel
theorem dX1_takePacked_0 : decode cX1_takePacked 0 = .ok (.iconst 2, 1) := by decide +kernel
theorem dX1_takePacked_1 : decode cX1_takePacked 1 = .ok (.iload_n 2, 1) := by decide +kernel
theorem dX1_takePacked_2 : decode cX1_takePacked 2 = .ok (.iload_n 3, 1) := by decide +kernel
theorem dX1_takePacked_3 : decode cX1_takePacked 3 = .ok (.iadd, 1) := by decide +kernel
theorem dX1_takePacked_4 : decode cX1_takePacked 4 = .ok (.imul, 1) := by decide +kernel
theorem dX1_takePacked_5 : decode cX1_takePacked 5 = .ok (.iconst 1, 1) := by decide +kernel
theorem dX1_takePacked_6 : decode cX1_takePacked 6 = .ok (.isub, 1) := by decide +kernel
theorem dX1_takePacked_7 : decode cX1_takePacked 7 = .ok (.istore 4, 2) := by decide +kernel
theorem dX1_takePacked_9 : decode cX1_takePacked 9 = .ok (.iconst 0, 1) := by decide +kernel
theorem dX1_takePacked_10 : decode cX1_takePacked 10 = .ok (.istore 5, 2) := by decide +kernel
theorem dX1_takePacked_12 : decode cX1_takePacked 12 = .ok (.iload 5, 2) := by decide +kernel
theorem dX1_takePacked_14 : decode cX1_takePacked 14 = .ok (.bipush 64, 2) := by decide +kernel
theorem dX1_takePacked_16 : decode cX1_takePacked 16 = .ok (.if_icmp .ge 41, 3) := by decide +kernel
theorem dX1_takePacked_19 : decode cX1_takePacked 19 = .ok (.aload_n 0, 1) := by decide +kernel
theorem dX1_takePacked_20 : decode cX1_takePacked 20 = .ok (.getfield 11, 3) := by decide +kernel
theorem dX1_takePacked_23 : decode cX1_takePacked 23 = .ok (.iload 5, 2) := by decide +kernel
theorem dX1_takePacked_25 : decode cX1_takePacked 25 = .ok (.iload 5, 2) := by decide +kernel
theorem dX1_takePacked_27 : decode cX1_takePacked 27 = .ok (.iconst 2, 1) := by decide +kernel
theorem dX1_takePacked_28 : decode cX1_takePacked 28 = .ok (.iload_n 3, 1) := by decide +kernel
theorem dX1_takePacked_29 : decode cX1_takePacked 29 = .ok (.imul, 1) := by decide +kernel
theorem dX1_takePacked_30 : decode cX1_takePacked 30 = .ok (.iconst 1, 1) := by decide +kernel
theorem dX1_takePacked_31 : decode cX1_takePacked 31 = .ok (.isub, 1) := by decide +kernel
theorem dX1_takePacked_32 : decode cX1_takePacked 32 = .ok (.if_icmp .ge 17, 3) := by decide +kernel
theorem dX1_takePacked_35 : decode cX1_takePacked 35 = .ok (.aload_n 1, 1) := by decide +kernel
theorem dX1_takePacked_36 : decode cX1_takePacked 36 = .ok (.iload 4, 2) := by decide +kernel
theorem dX1_takePacked_38 : decode cX1_takePacked 38 = .ok (.iconst 1, 1) := by decide +kernel
theorem dX1_takePacked_39 : decode cX1_takePacked 39 = .ok (.isub, 1) := by decide +kernel
theorem dX1_takePacked_40 : decode cX1_takePacked 40 = .ok (.iload 5, 2) := by decide +kernel
theorem dX1_takePacked_42 : decode cX1_takePacked 42 = .ok (.isub, 1) := by decide +kernel
theorem dX1_takePacked_43 : decode cX1_takePacked 43 = .ok (.invokevirtual 23, 3) := by decide +kernel
theorem dX1_takePacked_46 : decode cX1_takePacked 46 = .ok (.goto 4, 3) := by decide +kernel
theorem dX1_takePacked_49 : decode cX1_takePacked 49 = .ok (.iconst 0, 1) := by decide +kernel
theorem dX1_takePacked_50 : decode cX1_takePacked 50 = .ok (.iastore, 1) := by decide +kernel
theorem dX1_takePacked_51 : decode cX1_takePacked 51 = .ok (.iinc 5 1, 3) := by decide +kernel
theorem dX1_takePacked_54 : decode cX1_takePacked 54 = .ok (.goto (-42), 3) := by decide +kernel
theorem dX1_takePacked_57 : decode cX1_takePacked 57 = .ok (.aload_n 0, 1) := by decide +kernel
theorem dX1_takePacked_58 : decode cX1_takePacked 58 = .ok (.aload_n 1, 1) := by decide +kernel
theorem dX1_takePacked_59 : decode cX1_takePacked 59 = .ok (.iload 4, 2) := by decide +kernel
theorem dX1_takePacked_61 : decode cX1_takePacked 61 = .ok (.invokevirtual 23, 3) := by decide +kernel
theorem dX1_takePacked_64 : decode cX1_takePacked 64 = .ok (.invokestatic 29, 3) := by decide +kernel
theorem dX1_takePacked_67 : decode cX1_takePacked 67 = .ok (.putfield 19, 3) := by decide +kernel
theorem dX1_takePacked_70 : decode cX1_takePacked 70 = .ok (.aload_n 0, 1) := by decide +kernel
theorem dX1_takePacked_71 : decode cX1_takePacked 71 = .ok (.invokevirtual 33, 3) := by decide +kernel
theorem dX1_takePacked_74 : decode cX1_takePacked 74 = .ok (.return_, 1) := by decide +kernel
theorem dX1_takeZoned_0 : decode cX1_takeZoned 0 = .ok (.iconst 2, 1) := by decide +kernel
theorem dX1_takeZoned_1 : decode cX1_takeZoned 1 = .ok (.iload_n 2, 1) := by decide +kernel
theorem dX1_takeZoned_2 : decode cX1_takeZoned 2 = .ok (.iload_n 3, 1) := by decide +kernel
theorem dX1_takeZoned_3 : decode cX1_takeZoned 3 = .ok (.iadd, 1) := by decide +kernel
theorem dX1_takeZoned_4 : decode cX1_takeZoned 4 = .ok (.imul, 1) := by decide +kernel
theorem dX1_takeZoned_5 : decode cX1_takeZoned 5 = .ok (.iconst 1, 1) := by decide +kernel
theorem dX1_takeZoned_6 : decode cX1_takeZoned 6 = .ok (.isub, 1) := by decide +kernel
theorem dX1_takeZoned_7 : decode cX1_takeZoned 7 = .ok (.istore 4, 2) := by decide +kernel
theorem dX1_takeZoned_9 : decode cX1_takeZoned 9 = .ok (.iconst 0, 1) := by decide +kernel
theorem dX1_takeZoned_10 : decode cX1_takeZoned 10 = .ok (.istore 5, 2) := by decide +kernel
theorem dX1_takeZoned_12 : decode cX1_takeZoned 12 = .ok (.iload 5, 2) := by decide +kernel
theorem dX1_takeZoned_14 : decode cX1_takeZoned 14 = .ok (.bipush 64, 2) := by decide +kernel
theorem dX1_takeZoned_16 : decode cX1_takeZoned 16 = .ok (.if_icmp .ge 37, 3) := by decide +kernel
theorem dX1_takeZoned_19 : decode cX1_takeZoned 19 = .ok (.aload_n 0, 1) := by decide +kernel
theorem dX1_takeZoned_20 : decode cX1_takeZoned 20 = .ok (.getfield 11, 3) := by decide +kernel
theorem dX1_takeZoned_23 : decode cX1_takeZoned 23 = .ok (.iload 5, 2) := by decide +kernel
theorem dX1_takeZoned_25 : decode cX1_takeZoned 25 = .ok (.iload 5, 2) := by decide +kernel
theorem dX1_takeZoned_27 : decode cX1_takeZoned 27 = .ok (.iload_n 3, 1) := by decide +kernel
theorem dX1_takeZoned_28 : decode cX1_takeZoned 28 = .ok (.if_icmp .ge 17, 3) := by decide +kernel
theorem dX1_takeZoned_31 : decode cX1_takeZoned 31 = .ok (.aload_n 1, 1) := by decide +kernel
theorem dX1_takeZoned_32 : decode cX1_takeZoned 32 = .ok (.iload 4, 2) := by decide +kernel
theorem dX1_takeZoned_34 : decode cX1_takeZoned 34 = .ok (.iconst 2, 1) := by decide +kernel
theorem dX1_takeZoned_35 : decode cX1_takeZoned 35 = .ok (.iload 5, 2) := by decide +kernel
theorem dX1_takeZoned_37 : decode cX1_takeZoned 37 = .ok (.imul, 1) := by decide +kernel
theorem dX1_takeZoned_38 : decode cX1_takeZoned 38 = .ok (.isub, 1) := by decide +kernel
theorem dX1_takeZoned_39 : decode cX1_takeZoned 39 = .ok (.invokevirtual 23, 3) := by decide +kernel
theorem dX1_takeZoned_42 : decode cX1_takeZoned 42 = .ok (.goto 4, 3) := by decide +kernel
theorem dX1_takeZoned_45 : decode cX1_takeZoned 45 = .ok (.iconst 0, 1) := by decide +kernel
theorem dX1_takeZoned_46 : decode cX1_takeZoned 46 = .ok (.iastore, 1) := by decide +kernel
theorem dX1_takeZoned_47 : decode cX1_takeZoned 47 = .ok (.iinc 5 1, 3) := by decide +kernel
theorem dX1_takeZoned_50 : decode cX1_takeZoned 50 = .ok (.goto (-38), 3) := by decide +kernel
theorem dX1_takeZoned_53 : decode cX1_takeZoned 53 = .ok (.aload_n 0, 1) := by decide +kernel
theorem dX1_takeZoned_54 : decode cX1_takeZoned 54 = .ok (.aload_n 1, 1) := by decide +kernel
theorem dX1_takeZoned_55 : decode cX1_takeZoned 55 = .ok (.iload 4, 2) := by decide +kernel
theorem dX1_takeZoned_57 : decode cX1_takeZoned 57 = .ok (.iconst 1, 1) := by decide +kernel
theorem dX1_takeZoned_58 : decode cX1_takeZoned 58 = .ok (.isub, 1) := by decide +kernel
theorem dX1_takeZoned_59 : decode cX1_takeZoned 59 = .ok (.invokevirtual 23, 3) := by decide +kernel
theorem dX1_takeZoned_62 : decode cX1_takeZoned 62 = .ok (.invokestatic 29, 3) := by decide +kernel
theorem dX1_takeZoned_65 : decode cX1_takeZoned 65 = .ok (.putfield 19, 3) := by decide +kernel
theorem dX1_takeZoned_68 : decode cX1_takeZoned 68 = .ok (.aload_n 0, 1) := by decide +kernel
theorem dX1_takeZoned_69 : decode cX1_takeZoned 69 = .ok (.invokevirtual 33, 3) := by decide +kernel
theorem dX1_takeZoned_72 : decode cX1_takeZoned 72 = .ok (.return_, 1) := by decide +kernel
theorem dX1_takeNumber_0 : decode cX1_takeNumber 0 = .ok (.lload_n 1, 1) := by decide +kernel
theorem dX1_takeNumber_1 : decode cX1_takeNumber 1 = .ok (.lstore_n 3, 1) := by decide +kernel
theorem dX1_takeNumber_2 : decode cX1_takeNumber 2 = .ok (.iconst 0, 1) := by decide +kernel
theorem dX1_takeNumber_3 : decode cX1_takeNumber 3 = .ok (.istore 5, 2) := by decide +kernel
theorem dX1_takeNumber_5 : decode cX1_takeNumber 5 = .ok (.iload 5, 2) := by decide +kernel
theorem dX1_takeNumber_7 : decode cX1_takeNumber 7 = .ok (.bipush 64, 2) := by decide +kernel
theorem dX1_takeNumber_9 : decode cX1_takeNumber 9 = .ok (.if_icmp .ge 31, 3) := by decide +kernel
theorem dX1_takeNumber_12 : decode cX1_takeNumber 12 = .ok (.aload_n 0, 1) := by decide +kernel
theorem dX1_takeNumber_13 : decode cX1_takeNumber 13 = .ok (.getfield 11, 3) := by decide +kernel
theorem dX1_takeNumber_16 : decode cX1_takeNumber 16 = .ok (.iload 5, 2) := by decide +kernel
theorem dX1_takeNumber_18 : decode cX1_takeNumber 18 = .ok (.lload_n 3, 1) := by decide +kernel
theorem dX1_takeNumber_19 : decode cX1_takeNumber 19 = .ok (.ldc2_w 36, 3) := by decide +kernel
theorem dX1_takeNumber_22 : decode cX1_takeNumber 22 = .ok (.lrem, 1) := by decide +kernel
theorem dX1_takeNumber_23 : decode cX1_takeNumber 23 = .ok (.invokestatic 38, 3) := by decide +kernel
theorem dX1_takeNumber_26 : decode cX1_takeNumber 26 = .ok (.l2i, 1) := by decide +kernel
theorem dX1_takeNumber_27 : decode cX1_takeNumber 27 = .ok (.iastore, 1) := by decide +kernel
theorem dX1_takeNumber_28 : decode cX1_takeNumber 28 = .ok (.lload_n 3, 1) := by decide +kernel
theorem dX1_takeNumber_29 : decode cX1_takeNumber 29 = .ok (.ldc2_w 36, 3) := by decide +kernel
theorem dX1_takeNumber_32 : decode cX1_takeNumber 32 = .ok (.ldiv, 1) := by decide +kernel
theorem dX1_takeNumber_33 : decode cX1_takeNumber 33 = .ok (.lstore_n 3, 1) := by decide +kernel
theorem dX1_takeNumber_34 : decode cX1_takeNumber 34 = .ok (.iinc 5 1, 3) := by decide +kernel
theorem dX1_takeNumber_37 : decode cX1_takeNumber 37 = .ok (.goto (-32), 3) := by decide +kernel
theorem dX1_takeNumber_40 : decode cX1_takeNumber 40 = .ok (.aload_n 0, 1) := by decide +kernel
theorem dX1_takeNumber_41 : decode cX1_takeNumber 41 = .ok (.lload_n 1, 1) := by decide +kernel
theorem dX1_takeNumber_42 : decode cX1_takeNumber 42 = .ok (.lconst 0, 1) := by decide +kernel
theorem dX1_takeNumber_43 : decode cX1_takeNumber 43 = .ok (.lcmp, 1) := by decide +kernel
theorem dX1_takeNumber_44 : decode cX1_takeNumber 44 = .ok (.ifCond .ge 7, 3) := by decide +kernel
theorem dX1_takeNumber_47 : decode cX1_takeNumber 47 = .ok (.iconst 1, 1) := by decide +kernel
theorem dX1_takeNumber_48 : decode cX1_takeNumber 48 = .ok (.goto 4, 3) := by decide +kernel
theorem dX1_takeNumber_51 : decode cX1_takeNumber 51 = .ok (.iconst 0, 1) := by decide +kernel
theorem dX1_takeNumber_52 : decode cX1_takeNumber 52 = .ok (.putfield 19, 3) := by decide +kernel
theorem dX1_takeNumber_55 : decode cX1_takeNumber 55 = .ok (.aload_n 0, 1) := by decide +kernel
theorem dX1_takeNumber_56 : decode cX1_takeNumber 56 = .ok (.invokevirtual 33, 3) := by decide +kernel
theorem dX1_takeNumber_59 : decode cX1_takeNumber 59 = .ok (.return_, 1) := by decide +kernel
theorem dX1_magnitude_0 : decode cX1_magnitude 0 = .ok (.lconst 0, 1) := by decide +kernel
theorem dX1_magnitude_1 : decode cX1_magnitude 1 = .ok (.lstore_n 1, 1) := by decide +kernel
theorem dX1_magnitude_2 : decode cX1_magnitude 2 = .ok (.aload_n 0, 1) := by decide +kernel
theorem dX1_magnitude_3 : decode cX1_magnitude 3 = .ok (.getfield 15, 3) := by decide +kernel
theorem dX1_magnitude_6 : decode cX1_magnitude 6 = .ok (.bipush 18, 2) := by decide +kernel
theorem dX1_magnitude_8 : decode cX1_magnitude 8 = .ok (.invokestatic 44, 3) := by decide +kernel
theorem dX1_magnitude_11 : decode cX1_magnitude 11 = .ok (.iconst 1, 1) := by decide +kernel
theorem dX1_magnitude_12 : decode cX1_magnitude 12 = .ok (.isub, 1) := by decide +kernel
theorem dX1_magnitude_13 : decode cX1_magnitude 13 = .ok (.istore_n 3, 1) := by decide +kernel
theorem dX1_magnitude_14 : decode cX1_magnitude 14 = .ok (.iload_n 3, 1) := by decide +kernel
theorem dX1_magnitude_15 : decode cX1_magnitude 15 = .ok (.ifCond .lt 23, 3) := by decide +kernel
theorem dX1_magnitude_18 : decode cX1_magnitude 18 = .ok (.lload_n 1, 1) := by decide +kernel
theorem dX1_magnitude_19 : decode cX1_magnitude 19 = .ok (.ldc2_w 36, 3) := by decide +kernel
theorem dX1_magnitude_22 : decode cX1_magnitude 22 = .ok (.lmul, 1) := by decide +kernel
theorem dX1_magnitude_23 : decode cX1_magnitude 23 = .ok (.aload_n 0, 1) := by decide +kernel
theorem dX1_magnitude_24 : decode cX1_magnitude 24 = .ok (.getfield 11, 3) := by decide +kernel
theorem dX1_magnitude_27 : decode cX1_magnitude 27 = .ok (.iload_n 3, 1) := by decide +kernel
theorem dX1_magnitude_28 : decode cX1_magnitude 28 = .ok (.iaload, 1) := by decide +kernel
theorem dX1_magnitude_29 : decode cX1_magnitude 29 = .ok (.i2l, 1) := by decide +kernel
theorem dX1_magnitude_30 : decode cX1_magnitude 30 = .ok (.ladd, 1) := by decide +kernel
theorem dX1_magnitude_31 : decode cX1_magnitude 31 = .ok (.lstore_n 1, 1) := by decide +kernel
theorem dX1_magnitude_32 : decode cX1_magnitude 32 = .ok (.iinc 3 (-1), 3) := by decide +kernel
theorem dX1_magnitude_35 : decode cX1_magnitude 35 = .ok (.goto (-21), 3) := by decide +kernel
theorem dX1_magnitude_38 : decode cX1_magnitude 38 = .ok (.lload_n 1, 1) := by decide +kernel
theorem dX1_magnitude_39 : decode cX1_magnitude 39 = .ok (.lreturn, 1) := by decide +kernel
theorem dX1_value_0 : decode cX1_value 0 = .ok (.aload_n 0, 1) := by decide +kernel
theorem dX1_value_1 : decode cX1_value 1 = .ok (.getfield 19, 3) := by decide +kernel
theorem dX1_value_4 : decode cX1_value 4 = .ok (.ifCond .eq 11, 3) := by decide +kernel
theorem dX1_value_7 : decode cX1_value 7 = .ok (.aload_n 0, 1) := by decide +kernel
theorem dX1_value_8 : decode cX1_value 8 = .ok (.invokevirtual 48, 3) := by decide +kernel
theorem dX1_value_11 : decode cX1_value 11 = .ok (.lneg, 1) := by decide +kernel
theorem dX1_value_12 : decode cX1_value 12 = .ok (.goto 7, 3) := by decide +kernel
theorem dX1_value_15 : decode cX1_value 15 = .ok (.aload_n 0, 1) := by decide +kernel
theorem dX1_value_16 : decode cX1_value 16 = .ok (.invokevirtual 48, 3) := by decide +kernel
theorem dX1_value_19 : decode cX1_value 19 = .ok (.lreturn, 1) := by decide +kernel
theorem dX1_put_0 : decode cX1_put 0 = .ok (.iload 4, 2) := by decide +kernel
theorem dX1_put_2 : decode cX1_put 2 = .ok (.istore 5, 2) := by decide +kernel
theorem dX1_put_4 : decode cX1_put 4 = .ok (.iconst 0, 1) := by decide +kernel
theorem dX1_put_5 : decode cX1_put 5 = .ok (.istore 6, 2) := by decide +kernel
theorem dX1_put_7 : decode cX1_put 7 = .ok (.iload 6, 2) := by decide +kernel
theorem dX1_put_9 : decode cX1_put 9 = .ok (.iload_n 3, 1) := by decide +kernel
theorem dX1_put_10 : decode cX1_put 10 = .ok (.if_icmp .ge 77, 3) := by decide +kernel
theorem dX1_put_13 : decode cX1_put 13 = .ok (.iconst 2, 1) := by decide +kernel
theorem dX1_put_14 : decode cX1_put 14 = .ok (.iload 6, 2) := by decide +kernel
theorem dX1_put_16 : decode cX1_put 16 = .ok (.imul, 1) := by decide +kernel
theorem dX1_put_17 : decode cX1_put 17 = .ok (.iconst 1, 1) := by decide +kernel
theorem dX1_put_18 : decode cX1_put 18 = .ok (.iadd, 1) := by decide +kernel
theorem dX1_put_19 : decode cX1_put 19 = .ok (.bipush 64, 2) := by decide +kernel
theorem dX1_put_21 : decode cX1_put 21 = .ok (.if_icmp .ge 66, 3) := by decide +kernel
theorem dX1_put_24 : decode cX1_put 24 = .ok (.iload_n 2, 1) := by decide +kernel
theorem dX1_put_25 : decode cX1_put 25 = .ok (.iload_n 3, 1) := by decide +kernel
theorem dX1_put_26 : decode cX1_put 26 = .ok (.iadd, 1) := by decide +kernel
theorem dX1_put_27 : decode cX1_put 27 = .ok (.iconst 1, 1) := by decide +kernel
theorem dX1_put_28 : decode cX1_put 28 = .ok (.isub, 1) := by decide +kernel
theorem dX1_put_29 : decode cX1_put 29 = .ok (.iload 6, 2) := by decide +kernel
theorem dX1_put_31 : decode cX1_put 31 = .ok (.isub, 1) := by decide +kernel
theorem dX1_put_32 : decode cX1_put 32 = .ok (.istore 7, 2) := by decide +kernel
theorem dX1_put_34 : decode cX1_put 34 = .ok (.iload 7, 2) := by decide +kernel
theorem dX1_put_36 : decode cX1_put 36 = .ok (.ifCond .lt 32, 3) := by decide +kernel
theorem dX1_put_39 : decode cX1_put 39 = .ok (.iload 7, 2) := by decide +kernel
theorem dX1_put_41 : decode cX1_put 41 = .ok (.sipush 256, 3) := by decide +kernel
theorem dX1_put_44 : decode cX1_put 44 = .ok (.if_icmp .ge 24, 3) := by decide +kernel
theorem dX1_put_47 : decode cX1_put 47 = .ok (.aload_n 1, 1) := by decide +kernel
theorem dX1_put_48 : decode cX1_put 48 = .ok (.getfield 52, 3) := by decide +kernel
theorem dX1_put_51 : decode cX1_put 51 = .ok (.iload 7, 2) := by decide +kernel
theorem dX1_put_53 : decode cX1_put 53 = .ok (.aload_n 0, 1) := by decide +kernel
theorem dX1_put_54 : decode cX1_put 54 = .ok (.getfield 11, 3) := by decide +kernel
theorem dX1_put_57 : decode cX1_put 57 = .ok (.iconst 2, 1) := by decide +kernel
theorem dX1_put_58 : decode cX1_put 58 = .ok (.iload 6, 2) := by decide +kernel
theorem dX1_put_60 : decode cX1_put 60 = .ok (.imul, 1) := by decide +kernel
theorem dX1_put_61 : decode cX1_put 61 = .ok (.iaload, 1) := by decide +kernel
theorem dX1_put_62 : decode cX1_put 62 = .ok (.iconst 4, 1) := by decide +kernel
theorem dX1_put_63 : decode cX1_put 63 = .ok (.ishl, 1) := by decide +kernel
theorem dX1_put_64 : decode cX1_put 64 = .ok (.iload 5, 2) := by decide +kernel
theorem dX1_put_66 : decode cX1_put 66 = .ok (.ior, 1) := by decide +kernel
theorem dX1_put_67 : decode cX1_put 67 = .ok (.iastore, 1) := by decide +kernel
theorem dX1_put_68 : decode cX1_put 68 = .ok (.aload_n 0, 1) := by decide +kernel
theorem dX1_put_69 : decode cX1_put 69 = .ok (.getfield 11, 3) := by decide +kernel
theorem dX1_put_72 : decode cX1_put 72 = .ok (.iconst 2, 1) := by decide +kernel
theorem dX1_put_73 : decode cX1_put 73 = .ok (.iload 6, 2) := by decide +kernel
theorem dX1_put_75 : decode cX1_put 75 = .ok (.imul, 1) := by decide +kernel
theorem dX1_put_76 : decode cX1_put 76 = .ok (.iconst 1, 1) := by decide +kernel
theorem dX1_put_77 : decode cX1_put 77 = .ok (.iadd, 1) := by decide +kernel
theorem dX1_put_78 : decode cX1_put 78 = .ok (.iaload, 1) := by decide +kernel
theorem dX1_put_79 : decode cX1_put 79 = .ok (.istore 5, 2) := by decide +kernel
theorem dX1_put_81 : decode cX1_put 81 = .ok (.iinc 6 1, 3) := by decide +kernel
theorem dX1_put_84 : decode cX1_put 84 = .ok (.goto (-77), 3) := by decide +kernel
theorem dX1_put_87 : decode cX1_put 87 = .ok (.return_, 1) := by decide +kernel
theorem dX1_add_0 : decode cX1_add 0 = .ok (.aload_n 2, 1) := by decide +kernel
theorem dX1_add_1 : decode cX1_add 1 = .ok (.getfield 19, 3) := by decide +kernel
theorem dX1_add_4 : decode cX1_add 4 = .ok (.iload_n 3, 1) := by decide +kernel
theorem dX1_add_5 : decode cX1_add 5 = .ok (.if_icmp .eq 7, 3) := by decide +kernel
theorem dX1_add_8 : decode cX1_add 8 = .ok (.iconst 1, 1) := by decide +kernel
theorem dX1_add_9 : decode cX1_add 9 = .ok (.goto 4, 3) := by decide +kernel
theorem dX1_add_12 : decode cX1_add 12 = .ok (.iconst 0, 1) := by decide +kernel
theorem dX1_add_13 : decode cX1_add 13 = .ok (.istore 4, 2) := by decide +kernel
theorem dX1_add_15 : decode cX1_add 15 = .ok (.aload_n 1, 1) := by decide +kernel
theorem dX1_add_16 : decode cX1_add 16 = .ok (.getfield 19, 3) := by decide +kernel
theorem dX1_add_19 : decode cX1_add 19 = .ok (.iload 4, 2) := by decide +kernel
theorem dX1_add_21 : decode cX1_add 21 = .ok (.if_icmp .ne 20, 3) := by decide +kernel
theorem dX1_add_24 : decode cX1_add 24 = .ok (.aload_n 0, 1) := by decide +kernel
theorem dX1_add_25 : decode cX1_add 25 = .ok (.aload_n 1, 1) := by decide +kernel
theorem dX1_add_26 : decode cX1_add 26 = .ok (.aload_n 2, 1) := by decide +kernel
theorem dX1_add_27 : decode cX1_add 27 = .ok (.invokevirtual 55, 3) := by decide +kernel
theorem dX1_add_30 : decode cX1_add 30 = .ok (.aload_n 0, 1) := by decide +kernel
theorem dX1_add_31 : decode cX1_add 31 = .ok (.aload_n 1, 1) := by decide +kernel
theorem dX1_add_32 : decode cX1_add 32 = .ok (.getfield 19, 3) := by decide +kernel
theorem dX1_add_35 : decode cX1_add 35 = .ok (.putfield 19, 3) := by decide +kernel
theorem dX1_add_38 : decode cX1_add 38 = .ok (.goto 40, 3) := by decide +kernel
theorem dX1_add_41 : decode cX1_add 41 = .ok (.aload_n 1, 1) := by decide +kernel
theorem dX1_add_42 : decode cX1_add 42 = .ok (.aload_n 2, 1) := by decide +kernel
theorem dX1_add_43 : decode cX1_add 43 = .ok (.invokestatic 59, 3) := by decide +kernel
theorem dX1_add_46 : decode cX1_add 46 = .ok (.ifCond .eq 18, 3) := by decide +kernel
theorem dX1_add_49 : decode cX1_add 49 = .ok (.aload_n 0, 1) := by decide +kernel
theorem dX1_add_50 : decode cX1_add 50 = .ok (.aload_n 2, 1) := by decide +kernel
theorem dX1_add_51 : decode cX1_add 51 = .ok (.aload_n 1, 1) := by decide +kernel
theorem dX1_add_52 : decode cX1_add 52 = .ok (.invokevirtual 63, 3) := by decide +kernel
theorem dX1_add_55 : decode cX1_add 55 = .ok (.aload_n 0, 1) := by decide +kernel
theorem dX1_add_56 : decode cX1_add 56 = .ok (.iload 4, 2) := by decide +kernel
theorem dX1_add_58 : decode cX1_add 58 = .ok (.putfield 19, 3) := by decide +kernel
theorem dX1_add_61 : decode cX1_add 61 = .ok (.goto 17, 3) := by decide +kernel
theorem dX1_add_64 : decode cX1_add 64 = .ok (.aload_n 0, 1) := by decide +kernel
theorem dX1_add_65 : decode cX1_add 65 = .ok (.aload_n 1, 1) := by decide +kernel
theorem dX1_add_66 : decode cX1_add 66 = .ok (.aload_n 2, 1) := by decide +kernel
theorem dX1_add_67 : decode cX1_add 67 = .ok (.invokevirtual 63, 3) := by decide +kernel
theorem dX1_add_70 : decode cX1_add 70 = .ok (.aload_n 0, 1) := by decide +kernel
theorem dX1_add_71 : decode cX1_add 71 = .ok (.aload_n 1, 1) := by decide +kernel
theorem dX1_add_72 : decode cX1_add 72 = .ok (.getfield 19, 3) := by decide +kernel
theorem dX1_add_75 : decode cX1_add 75 = .ok (.putfield 19, 3) := by decide +kernel
theorem dX1_add_78 : decode cX1_add 78 = .ok (.aload_n 0, 1) := by decide +kernel
theorem dX1_add_79 : decode cX1_add 79 = .ok (.invokevirtual 33, 3) := by decide +kernel
theorem dX1_add_82 : decode cX1_add 82 = .ok (.return_, 1) := by decide +kernel
theorem dX1_addDigits_0 : decode cX1_addDigits 0 = .ok (.iconst 0, 1) := by decide +kernel
theorem dX1_addDigits_1 : decode cX1_addDigits 1 = .ok (.istore_n 3, 1) := by decide +kernel
theorem dX1_addDigits_2 : decode cX1_addDigits 2 = .ok (.iconst 0, 1) := by decide +kernel
theorem dX1_addDigits_3 : decode cX1_addDigits 3 = .ok (.istore 4, 2) := by decide +kernel
theorem dX1_addDigits_5 : decode cX1_addDigits 5 = .ok (.iload 4, 2) := by decide +kernel
theorem dX1_addDigits_7 : decode cX1_addDigits 7 = .ok (.bipush 64, 2) := by decide +kernel
theorem dX1_addDigits_9 : decode cX1_addDigits 9 = .ok (.if_icmp .ge 55, 3) := by decide +kernel
theorem dX1_addDigits_12 : decode cX1_addDigits 12 = .ok (.aload_n 1, 1) := by decide +kernel
theorem dX1_addDigits_13 : decode cX1_addDigits 13 = .ok (.getfield 11, 3) := by decide +kernel
theorem dX1_addDigits_16 : decode cX1_addDigits 16 = .ok (.iload 4, 2) := by decide +kernel
theorem dX1_addDigits_18 : decode cX1_addDigits 18 = .ok (.iaload, 1) := by decide +kernel
theorem dX1_addDigits_19 : decode cX1_addDigits 19 = .ok (.aload_n 2, 1) := by decide +kernel
theorem dX1_addDigits_20 : decode cX1_addDigits 20 = .ok (.getfield 11, 3) := by decide +kernel
theorem dX1_addDigits_23 : decode cX1_addDigits 23 = .ok (.iload 4, 2) := by decide +kernel
theorem dX1_addDigits_25 : decode cX1_addDigits 25 = .ok (.iaload, 1) := by decide +kernel
theorem dX1_addDigits_26 : decode cX1_addDigits 26 = .ok (.iadd, 1) := by decide +kernel
theorem dX1_addDigits_27 : decode cX1_addDigits 27 = .ok (.iload_n 3, 1) := by decide +kernel
theorem dX1_addDigits_28 : decode cX1_addDigits 28 = .ok (.iadd, 1) := by decide +kernel
theorem dX1_addDigits_29 : decode cX1_addDigits 29 = .ok (.istore 5, 2) := by decide +kernel
theorem dX1_addDigits_31 : decode cX1_addDigits 31 = .ok (.iload 5, 2) := by decide +kernel
theorem dX1_addDigits_33 : decode cX1_addDigits 33 = .ok (.bipush 9, 2) := by decide +kernel
theorem dX1_addDigits_35 : decode cX1_addDigits 35 = .ok (.if_icmp .le 7, 3) := by decide +kernel
theorem dX1_addDigits_38 : decode cX1_addDigits 38 = .ok (.iconst 1, 1) := by decide +kernel
theorem dX1_addDigits_39 : decode cX1_addDigits 39 = .ok (.goto 4, 3) := by decide +kernel
theorem dX1_addDigits_42 : decode cX1_addDigits 42 = .ok (.iconst 0, 1) := by decide +kernel
theorem dX1_addDigits_43 : decode cX1_addDigits 43 = .ok (.istore_n 3, 1) := by decide +kernel
theorem dX1_addDigits_44 : decode cX1_addDigits 44 = .ok (.aload_n 0, 1) := by decide +kernel
theorem dX1_addDigits_45 : decode cX1_addDigits 45 = .ok (.getfield 11, 3) := by decide +kernel
theorem dX1_addDigits_48 : decode cX1_addDigits 48 = .ok (.iload 4, 2) := by decide +kernel
theorem dX1_addDigits_50 : decode cX1_addDigits 50 = .ok (.iload 5, 2) := by decide +kernel
theorem dX1_addDigits_52 : decode cX1_addDigits 52 = .ok (.bipush 10, 2) := by decide +kernel
theorem dX1_addDigits_54 : decode cX1_addDigits 54 = .ok (.iload_n 3, 1) := by decide +kernel
theorem dX1_addDigits_55 : decode cX1_addDigits 55 = .ok (.imul, 1) := by decide +kernel
theorem dX1_addDigits_56 : decode cX1_addDigits 56 = .ok (.isub, 1) := by decide +kernel
theorem dX1_addDigits_57 : decode cX1_addDigits 57 = .ok (.iastore, 1) := by decide +kernel
theorem dX1_addDigits_58 : decode cX1_addDigits 58 = .ok (.iinc 4 1, 3) := by decide +kernel
theorem dX1_addDigits_61 : decode cX1_addDigits 61 = .ok (.goto (-56), 3) := by decide +kernel
theorem dX1_addDigits_64 : decode cX1_addDigits 64 = .ok (.return_, 1) := by decide +kernel
theorem dX1_subtractDigits_0 : decode cX1_subtractDigits 0 = .ok (.iconst 0, 1) := by decide +kernel
theorem dX1_subtractDigits_1 : decode cX1_subtractDigits 1 = .ok (.istore_n 3, 1) := by decide +kernel
theorem dX1_subtractDigits_2 : decode cX1_subtractDigits 2 = .ok (.iconst 0, 1) := by decide +kernel
theorem dX1_subtractDigits_3 : decode cX1_subtractDigits 3 = .ok (.istore 4, 2) := by decide +kernel
theorem dX1_subtractDigits_5 : decode cX1_subtractDigits 5 = .ok (.iload 4, 2) := by decide +kernel
theorem dX1_subtractDigits_7 : decode cX1_subtractDigits 7 = .ok (.bipush 64, 2) := by decide +kernel
theorem dX1_subtractDigits_9 : decode cX1_subtractDigits 9 = .ok (.if_icmp .ge 53, 3) := by decide +kernel
theorem dX1_subtractDigits_12 : decode cX1_subtractDigits 12 = .ok (.aload_n 1, 1) := by decide +kernel
theorem dX1_subtractDigits_13 : decode cX1_subtractDigits 13 = .ok (.getfield 11, 3) := by decide +kernel
theorem dX1_subtractDigits_16 : decode cX1_subtractDigits 16 = .ok (.iload 4, 2) := by decide +kernel
theorem dX1_subtractDigits_18 : decode cX1_subtractDigits 18 = .ok (.iaload, 1) := by decide +kernel
theorem dX1_subtractDigits_19 : decode cX1_subtractDigits 19 = .ok (.aload_n 2, 1) := by decide +kernel
theorem dX1_subtractDigits_20 : decode cX1_subtractDigits 20 = .ok (.getfield 11, 3) := by decide +kernel
theorem dX1_subtractDigits_23 : decode cX1_subtractDigits 23 = .ok (.iload 4, 2) := by decide +kernel
theorem dX1_subtractDigits_25 : decode cX1_subtractDigits 25 = .ok (.iaload, 1) := by decide +kernel
theorem dX1_subtractDigits_26 : decode cX1_subtractDigits 26 = .ok (.isub, 1) := by decide +kernel
theorem dX1_subtractDigits_27 : decode cX1_subtractDigits 27 = .ok (.iload_n 3, 1) := by decide +kernel
theorem dX1_subtractDigits_28 : decode cX1_subtractDigits 28 = .ok (.isub, 1) := by decide +kernel
theorem dX1_subtractDigits_29 : decode cX1_subtractDigits 29 = .ok (.istore 5, 2) := by decide +kernel
theorem dX1_subtractDigits_31 : decode cX1_subtractDigits 31 = .ok (.iload 5, 2) := by decide +kernel
theorem dX1_subtractDigits_33 : decode cX1_subtractDigits 33 = .ok (.ifCond .ge 7, 3) := by decide +kernel
theorem dX1_subtractDigits_36 : decode cX1_subtractDigits 36 = .ok (.iconst 1, 1) := by decide +kernel
theorem dX1_subtractDigits_37 : decode cX1_subtractDigits 37 = .ok (.goto 4, 3) := by decide +kernel
theorem dX1_subtractDigits_40 : decode cX1_subtractDigits 40 = .ok (.iconst 0, 1) := by decide +kernel
theorem dX1_subtractDigits_41 : decode cX1_subtractDigits 41 = .ok (.istore_n 3, 1) := by decide +kernel
theorem dX1_subtractDigits_42 : decode cX1_subtractDigits 42 = .ok (.aload_n 0, 1) := by decide +kernel
theorem dX1_subtractDigits_43 : decode cX1_subtractDigits 43 = .ok (.getfield 11, 3) := by decide +kernel
theorem dX1_subtractDigits_46 : decode cX1_subtractDigits 46 = .ok (.iload 4, 2) := by decide +kernel
theorem dX1_subtractDigits_48 : decode cX1_subtractDigits 48 = .ok (.iload 5, 2) := by decide +kernel
theorem dX1_subtractDigits_50 : decode cX1_subtractDigits 50 = .ok (.bipush 10, 2) := by decide +kernel
theorem dX1_subtractDigits_52 : decode cX1_subtractDigits 52 = .ok (.iload_n 3, 1) := by decide +kernel
theorem dX1_subtractDigits_53 : decode cX1_subtractDigits 53 = .ok (.imul, 1) := by decide +kernel
theorem dX1_subtractDigits_54 : decode cX1_subtractDigits 54 = .ok (.iadd, 1) := by decide +kernel
theorem dX1_subtractDigits_55 : decode cX1_subtractDigits 55 = .ok (.iastore, 1) := by decide +kernel
theorem dX1_subtractDigits_56 : decode cX1_subtractDigits 56 = .ok (.iinc 4 1, 3) := by decide +kernel
theorem dX1_subtractDigits_59 : decode cX1_subtractDigits 59 = .ok (.goto (-54), 3) := by decide +kernel
theorem dX1_subtractDigits_62 : decode cX1_subtractDigits 62 = .ok (.return_, 1) := by decide +kernel
theorem dX1_isLess_0 : decode cX1_isLess 0 = .ok (.bipush 63, 2) := by decide +kernel
theorem dX1_isLess_2 : decode cX1_isLess 2 = .ok (.istore_n 2, 1) := by decide +kernel
theorem dX1_isLess_3 : decode cX1_isLess 3 = .ok (.iload_n 2, 1) := by decide +kernel
theorem dX1_isLess_4 : decode cX1_isLess 4 = .ok (.ifCond .lt 45, 3) := by decide +kernel
theorem dX1_isLess_7 : decode cX1_isLess 7 = .ok (.aload_n 0, 1) := by decide +kernel
theorem dX1_isLess_8 : decode cX1_isLess 8 = .ok (.getfield 11, 3) := by decide +kernel
theorem dX1_isLess_11 : decode cX1_isLess 11 = .ok (.iload_n 2, 1) := by decide +kernel
theorem dX1_isLess_12 : decode cX1_isLess 12 = .ok (.iaload, 1) := by decide +kernel
theorem dX1_isLess_13 : decode cX1_isLess 13 = .ok (.aload_n 1, 1) := by decide +kernel
theorem dX1_isLess_14 : decode cX1_isLess 14 = .ok (.getfield 11, 3) := by decide +kernel
theorem dX1_isLess_17 : decode cX1_isLess 17 = .ok (.iload_n 2, 1) := by decide +kernel
theorem dX1_isLess_18 : decode cX1_isLess 18 = .ok (.iaload, 1) := by decide +kernel
theorem dX1_isLess_19 : decode cX1_isLess 19 = .ok (.if_icmp .eq 24, 3) := by decide +kernel
theorem dX1_isLess_22 : decode cX1_isLess 22 = .ok (.aload_n 0, 1) := by decide +kernel
theorem dX1_isLess_23 : decode cX1_isLess 23 = .ok (.getfield 11, 3) := by decide +kernel
theorem dX1_isLess_26 : decode cX1_isLess 26 = .ok (.iload_n 2, 1) := by decide +kernel
theorem dX1_isLess_27 : decode cX1_isLess 27 = .ok (.iaload, 1) := by decide +kernel
theorem dX1_isLess_28 : decode cX1_isLess 28 = .ok (.aload_n 1, 1) := by decide +kernel
theorem dX1_isLess_29 : decode cX1_isLess 29 = .ok (.getfield 11, 3) := by decide +kernel
theorem dX1_isLess_32 : decode cX1_isLess 32 = .ok (.iload_n 2, 1) := by decide +kernel
theorem dX1_isLess_33 : decode cX1_isLess 33 = .ok (.iaload, 1) := by decide +kernel
theorem dX1_isLess_34 : decode cX1_isLess 34 = .ok (.if_icmp .ge 7, 3) := by decide +kernel
theorem dX1_isLess_37 : decode cX1_isLess 37 = .ok (.iconst 1, 1) := by decide +kernel
theorem dX1_isLess_38 : decode cX1_isLess 38 = .ok (.goto 4, 3) := by decide +kernel
theorem dX1_isLess_41 : decode cX1_isLess 41 = .ok (.iconst 0, 1) := by decide +kernel
theorem dX1_isLess_42 : decode cX1_isLess 42 = .ok (.ireturn, 1) := by decide +kernel
theorem dX1_isLess_43 : decode cX1_isLess 43 = .ok (.iinc 2 (-1), 3) := by decide +kernel
theorem dX1_isLess_46 : decode cX1_isLess 46 = .ok (.goto (-43), 3) := by decide +kernel
theorem dX1_isLess_49 : decode cX1_isLess 49 = .ok (.iconst 0, 1) := by decide +kernel
theorem dX1_isLess_50 : decode cX1_isLess 50 = .ok (.ireturn, 1) := by decide +kernel
theorem dX1_multiply_0 : decode cX1_multiply 0 = .ok (.iconst 0, 1) := by decide +kernel
theorem dX1_multiply_1 : decode cX1_multiply 1 = .ok (.istore_n 3, 1) := by decide +kernel
theorem dX1_multiply_2 : decode cX1_multiply 2 = .ok (.iconst 0, 1) := by decide +kernel
theorem dX1_multiply_3 : decode cX1_multiply 3 = .ok (.istore 4, 2) := by decide +kernel
theorem dX1_multiply_5 : decode cX1_multiply 5 = .ok (.iload 4, 2) := by decide +kernel
theorem dX1_multiply_7 : decode cX1_multiply 7 = .ok (.bipush 64, 2) := by decide +kernel
theorem dX1_multiply_9 : decode cX1_multiply 9 = .ok (.if_icmp .ge 90, 3) := by decide +kernel
theorem dX1_multiply_12 : decode cX1_multiply 12 = .ok (.iload_n 3, 1) := by decide +kernel
theorem dX1_multiply_13 : decode cX1_multiply 13 = .ok (.istore 5, 2) := by decide +kernel
theorem dX1_multiply_15 : decode cX1_multiply 15 = .ok (.iconst 0, 1) := by decide +kernel
theorem dX1_multiply_16 : decode cX1_multiply 16 = .ok (.iload 4, 2) := by decide +kernel
theorem dX1_multiply_18 : decode cX1_multiply 18 = .ok (.aload_n 2, 1) := by decide +kernel
theorem dX1_multiply_19 : decode cX1_multiply 19 = .ok (.getfield 15, 3) := by decide +kernel
theorem dX1_multiply_22 : decode cX1_multiply 22 = .ok (.isub, 1) := by decide +kernel
theorem dX1_multiply_23 : decode cX1_multiply 23 = .ok (.iconst 1, 1) := by decide +kernel
theorem dX1_multiply_24 : decode cX1_multiply 24 = .ok (.iadd, 1) := by decide +kernel
theorem dX1_multiply_25 : decode cX1_multiply 25 = .ok (.invokestatic 66, 3) := by decide +kernel
theorem dX1_multiply_28 : decode cX1_multiply 28 = .ok (.istore 6, 2) := by decide +kernel
theorem dX1_multiply_30 : decode cX1_multiply 30 = .ok (.iload 6, 2) := by decide +kernel
theorem dX1_multiply_32 : decode cX1_multiply 32 = .ok (.iload 4, 2) := by decide +kernel
theorem dX1_multiply_34 : decode cX1_multiply 34 = .ok (.if_icmp .gt 41, 3) := by decide +kernel
theorem dX1_multiply_37 : decode cX1_multiply 37 = .ok (.iload 6, 2) := by decide +kernel
theorem dX1_multiply_39 : decode cX1_multiply 39 = .ok (.aload_n 1, 1) := by decide +kernel
theorem dX1_multiply_40 : decode cX1_multiply 40 = .ok (.getfield 15, 3) := by decide +kernel
theorem dX1_multiply_43 : decode cX1_multiply 43 = .ok (.if_icmp .ge 32, 3) := by decide +kernel
theorem dX1_multiply_46 : decode cX1_multiply 46 = .ok (.iload 5, 2) := by decide +kernel
theorem dX1_multiply_48 : decode cX1_multiply 48 = .ok (.aload_n 1, 1) := by decide +kernel
theorem dX1_multiply_49 : decode cX1_multiply 49 = .ok (.getfield 11, 3) := by decide +kernel
theorem dX1_multiply_52 : decode cX1_multiply 52 = .ok (.iload 6, 2) := by decide +kernel
theorem dX1_multiply_54 : decode cX1_multiply 54 = .ok (.iaload, 1) := by decide +kernel
theorem dX1_multiply_55 : decode cX1_multiply 55 = .ok (.aload_n 2, 1) := by decide +kernel
theorem dX1_multiply_56 : decode cX1_multiply 56 = .ok (.getfield 11, 3) := by decide +kernel
theorem dX1_multiply_59 : decode cX1_multiply 59 = .ok (.iload 4, 2) := by decide +kernel
theorem dX1_multiply_61 : decode cX1_multiply 61 = .ok (.iload 6, 2) := by decide +kernel
theorem dX1_multiply_63 : decode cX1_multiply 63 = .ok (.isub, 1) := by decide +kernel
theorem dX1_multiply_64 : decode cX1_multiply 64 = .ok (.iaload, 1) := by decide +kernel
theorem dX1_multiply_65 : decode cX1_multiply 65 = .ok (.imul, 1) := by decide +kernel
theorem dX1_multiply_66 : decode cX1_multiply 66 = .ok (.iadd, 1) := by decide +kernel
theorem dX1_multiply_67 : decode cX1_multiply 67 = .ok (.istore 5, 2) := by decide +kernel
theorem dX1_multiply_69 : decode cX1_multiply 69 = .ok (.iinc 6 1, 3) := by decide +kernel
theorem dX1_multiply_72 : decode cX1_multiply 72 = .ok (.goto (-42), 3) := by decide +kernel
theorem dX1_multiply_75 : decode cX1_multiply 75 = .ok (.aload_n 0, 1) := by decide +kernel
theorem dX1_multiply_76 : decode cX1_multiply 76 = .ok (.getfield 11, 3) := by decide +kernel
theorem dX1_multiply_79 : decode cX1_multiply 79 = .ok (.iload 4, 2) := by decide +kernel
theorem dX1_multiply_81 : decode cX1_multiply 81 = .ok (.iload 5, 2) := by decide +kernel
theorem dX1_multiply_83 : decode cX1_multiply 83 = .ok (.bipush 10, 2) := by decide +kernel
theorem dX1_multiply_85 : decode cX1_multiply 85 = .ok (.irem, 1) := by decide +kernel
theorem dX1_multiply_86 : decode cX1_multiply 86 = .ok (.iastore, 1) := by decide +kernel
theorem dX1_multiply_87 : decode cX1_multiply 87 = .ok (.iload 5, 2) := by decide +kernel
theorem dX1_multiply_89 : decode cX1_multiply 89 = .ok (.bipush 10, 2) := by decide +kernel
theorem dX1_multiply_91 : decode cX1_multiply 91 = .ok (.idiv, 1) := by decide +kernel
theorem dX1_multiply_92 : decode cX1_multiply 92 = .ok (.istore_n 3, 1) := by decide +kernel
theorem dX1_multiply_93 : decode cX1_multiply 93 = .ok (.iinc 4 1, 3) := by decide +kernel
theorem dX1_multiply_96 : decode cX1_multiply 96 = .ok (.goto (-91), 3) := by decide +kernel
theorem dX1_multiply_99 : decode cX1_multiply 99 = .ok (.aload_n 0, 1) := by decide +kernel
theorem dX1_multiply_100 : decode cX1_multiply 100 = .ok (.aload_n 1, 1) := by decide +kernel
theorem dX1_multiply_101 : decode cX1_multiply 101 = .ok (.getfield 19, 3) := by decide +kernel
theorem dX1_multiply_104 : decode cX1_multiply 104 = .ok (.aload_n 2, 1) := by decide +kernel
theorem dX1_multiply_105 : decode cX1_multiply 105 = .ok (.getfield 19, 3) := by decide +kernel
theorem dX1_multiply_108 : decode cX1_multiply 108 = .ok (.if_icmp .eq 7, 3) := by decide +kernel
theorem dX1_multiply_111 : decode cX1_multiply 111 = .ok (.iconst 1, 1) := by decide +kernel
theorem dX1_multiply_112 : decode cX1_multiply 112 = .ok (.goto 4, 3) := by decide +kernel
theorem dX1_multiply_115 : decode cX1_multiply 115 = .ok (.iconst 0, 1) := by decide +kernel
theorem dX1_multiply_116 : decode cX1_multiply 116 = .ok (.putfield 19, 3) := by decide +kernel
theorem dX1_multiply_119 : decode cX1_multiply 119 = .ok (.aload_n 0, 1) := by decide +kernel
theorem dX1_multiply_120 : decode cX1_multiply 120 = .ok (.invokevirtual 33, 3) := by decide +kernel
theorem dX1_multiply_123 : decode cX1_multiply 123 = .ok (.return_, 1) := by decide +kernel
theorem dX1_divide_0 : decode cX1_divide 0 = .ok (.lload_n 2, 1) := by decide +kernel
theorem dX1_divide_1 : decode cX1_divide 1 = .ok (.lconst 0, 1) := by decide +kernel
theorem dX1_divide_2 : decode cX1_divide 2 = .ok (.lcmp, 1) := by decide +kernel
theorem dX1_divide_3 : decode cX1_divide 3 = .ok (.ifCond .gt 7, 3) := by decide +kernel
theorem dX1_divide_6 : decode cX1_divide 6 = .ok (.ldc2_w 69, 3) := by decide +kernel
theorem dX1_divide_9 : decode cX1_divide 9 = .ok (.lreturn, 1) := by decide +kernel
theorem dX1_divide_10 : decode cX1_divide 10 = .ok (.lconst 0, 1) := by decide +kernel
theorem dX1_divide_11 : decode cX1_divide 11 = .ok (.lstore 4, 2) := by decide +kernel
theorem dX1_divide_13 : decode cX1_divide 13 = .ok (.bipush 63, 2) := by decide +kernel
theorem dX1_divide_15 : decode cX1_divide 15 = .ok (.istore 6, 2) := by decide +kernel
theorem dX1_divide_17 : decode cX1_divide 17 = .ok (.iload 6, 2) := by decide +kernel
theorem dX1_divide_19 : decode cX1_divide 19 = .ok (.ifCond .lt 44, 3) := by decide +kernel
theorem dX1_divide_22 : decode cX1_divide 22 = .ok (.lload 4, 2) := by decide +kernel
theorem dX1_divide_24 : decode cX1_divide 24 = .ok (.ldc2_w 36, 3) := by decide +kernel
theorem dX1_divide_27 : decode cX1_divide 27 = .ok (.lmul, 1) := by decide +kernel
theorem dX1_divide_28 : decode cX1_divide 28 = .ok (.aload_n 1, 1) := by decide +kernel
theorem dX1_divide_29 : decode cX1_divide 29 = .ok (.getfield 11, 3) := by decide +kernel
theorem dX1_divide_32 : decode cX1_divide 32 = .ok (.iload 6, 2) := by decide +kernel
theorem dX1_divide_34 : decode cX1_divide 34 = .ok (.iaload, 1) := by decide +kernel
theorem dX1_divide_35 : decode cX1_divide 35 = .ok (.i2l, 1) := by decide +kernel
theorem dX1_divide_36 : decode cX1_divide 36 = .ok (.ladd, 1) := by decide +kernel
theorem dX1_divide_37 : decode cX1_divide 37 = .ok (.lstore 4, 2) := by decide +kernel
theorem dX1_divide_39 : decode cX1_divide 39 = .ok (.aload_n 0, 1) := by decide +kernel
theorem dX1_divide_40 : decode cX1_divide 40 = .ok (.getfield 11, 3) := by decide +kernel
theorem dX1_divide_43 : decode cX1_divide 43 = .ok (.iload 6, 2) := by decide +kernel
theorem dX1_divide_45 : decode cX1_divide 45 = .ok (.lload 4, 2) := by decide +kernel
theorem dX1_divide_47 : decode cX1_divide 47 = .ok (.lload_n 2, 1) := by decide +kernel
theorem dX1_divide_48 : decode cX1_divide 48 = .ok (.ldiv, 1) := by decide +kernel
theorem dX1_divide_49 : decode cX1_divide 49 = .ok (.l2i, 1) := by decide +kernel
theorem dX1_divide_50 : decode cX1_divide 50 = .ok (.iastore, 1) := by decide +kernel
theorem dX1_divide_51 : decode cX1_divide 51 = .ok (.lload 4, 2) := by decide +kernel
theorem dX1_divide_53 : decode cX1_divide 53 = .ok (.lload_n 2, 1) := by decide +kernel
theorem dX1_divide_54 : decode cX1_divide 54 = .ok (.lrem, 1) := by decide +kernel
theorem dX1_divide_55 : decode cX1_divide 55 = .ok (.lstore 4, 2) := by decide +kernel
theorem dX1_divide_57 : decode cX1_divide 57 = .ok (.iinc 6 (-1), 3) := by decide +kernel
theorem dX1_divide_60 : decode cX1_divide 60 = .ok (.goto (-43), 3) := by decide +kernel
theorem dX1_divide_63 : decode cX1_divide 63 = .ok (.aload_n 0, 1) := by decide +kernel
theorem dX1_divide_64 : decode cX1_divide 64 = .ok (.invokevirtual 33, 3) := by decide +kernel
theorem dX1_divide_67 : decode cX1_divide 67 = .ok (.lload 4, 2) := by decide +kernel
theorem dX1_divide_69 : decode cX1_divide 69 = .ok (.lreturn, 1) := by decide +kernel
theorem dX1_shiftLeft_0 : decode cX1_shiftLeft 0 = .ok (.iconst 0, 1) := by decide +kernel
theorem dX1_shiftLeft_1 : decode cX1_shiftLeft 1 = .ok (.istore_n 3, 1) := by decide +kernel
theorem dX1_shiftLeft_2 : decode cX1_shiftLeft 2 = .ok (.iload_n 3, 1) := by decide +kernel
theorem dX1_shiftLeft_3 : decode cX1_shiftLeft 3 = .ok (.bipush 64, 2) := by decide +kernel
theorem dX1_shiftLeft_5 : decode cX1_shiftLeft 5 = .ok (.if_icmp .ge 22, 3) := by decide +kernel
theorem dX1_shiftLeft_8 : decode cX1_shiftLeft 8 = .ok (.aload_n 0, 1) := by decide +kernel
theorem dX1_shiftLeft_9 : decode cX1_shiftLeft 9 = .ok (.getfield 11, 3) := by decide +kernel
theorem dX1_shiftLeft_12 : decode cX1_shiftLeft 12 = .ok (.iload_n 3, 1) := by decide +kernel
theorem dX1_shiftLeft_13 : decode cX1_shiftLeft 13 = .ok (.aload_n 1, 1) := by decide +kernel
theorem dX1_shiftLeft_14 : decode cX1_shiftLeft 14 = .ok (.iload_n 3, 1) := by decide +kernel
theorem dX1_shiftLeft_15 : decode cX1_shiftLeft 15 = .ok (.iload_n 2, 1) := by decide +kernel
theorem dX1_shiftLeft_16 : decode cX1_shiftLeft 16 = .ok (.isub, 1) := by decide +kernel
theorem dX1_shiftLeft_17 : decode cX1_shiftLeft 17 = .ok (.invokevirtual 71, 3) := by decide +kernel
theorem dX1_shiftLeft_20 : decode cX1_shiftLeft 20 = .ok (.iastore, 1) := by decide +kernel
theorem dX1_shiftLeft_21 : decode cX1_shiftLeft 21 = .ok (.iinc 3 1, 3) := by decide +kernel
theorem dX1_shiftLeft_24 : decode cX1_shiftLeft 24 = .ok (.goto (-22), 3) := by decide +kernel
theorem dX1_shiftLeft_27 : decode cX1_shiftLeft 27 = .ok (.aload_n 0, 1) := by decide +kernel
theorem dX1_shiftLeft_28 : decode cX1_shiftLeft 28 = .ok (.aload_n 1, 1) := by decide +kernel
theorem dX1_shiftLeft_29 : decode cX1_shiftLeft 29 = .ok (.getfield 19, 3) := by decide +kernel
theorem dX1_shiftLeft_32 : decode cX1_shiftLeft 32 = .ok (.putfield 19, 3) := by decide +kernel
theorem dX1_shiftLeft_35 : decode cX1_shiftLeft 35 = .ok (.aload_n 0, 1) := by decide +kernel
theorem dX1_shiftLeft_36 : decode cX1_shiftLeft 36 = .ok (.invokevirtual 33, 3) := by decide +kernel
theorem dX1_shiftLeft_39 : decode cX1_shiftLeft 39 = .ok (.return_, 1) := by decide +kernel
theorem dX1_shiftRight_0 : decode cX1_shiftRight 0 = .ok (.aload_n 1, 1) := by decide +kernel
theorem dX1_shiftRight_1 : decode cX1_shiftRight 1 = .ok (.iload_n 2, 1) := by decide +kernel
theorem dX1_shiftRight_2 : decode cX1_shiftRight 2 = .ok (.iconst 1, 1) := by decide +kernel
theorem dX1_shiftRight_3 : decode cX1_shiftRight 3 = .ok (.isub, 1) := by decide +kernel
theorem dX1_shiftRight_4 : decode cX1_shiftRight 4 = .ok (.invokevirtual 71, 3) := by decide +kernel
theorem dX1_shiftRight_7 : decode cX1_shiftRight 7 = .ok (.iload_n 3, 1) := by decide +kernel
theorem dX1_shiftRight_8 : decode cX1_shiftRight 8 = .ok (.iadd, 1) := by decide +kernel
theorem dX1_shiftRight_9 : decode cX1_shiftRight 9 = .ok (.bipush 9, 2) := by decide +kernel
theorem dX1_shiftRight_11 : decode cX1_shiftRight 11 = .ok (.if_icmp .le 7, 3) := by decide +kernel
theorem dX1_shiftRight_14 : decode cX1_shiftRight 14 = .ok (.iconst 1, 1) := by decide +kernel
theorem dX1_shiftRight_15 : decode cX1_shiftRight 15 = .ok (.goto 4, 3) := by decide +kernel
theorem dX1_shiftRight_18 : decode cX1_shiftRight 18 = .ok (.iconst 0, 1) := by decide +kernel
theorem dX1_shiftRight_19 : decode cX1_shiftRight 19 = .ok (.istore 4, 2) := by decide +kernel
theorem dX1_shiftRight_21 : decode cX1_shiftRight 21 = .ok (.iconst 0, 1) := by decide +kernel
theorem dX1_shiftRight_22 : decode cX1_shiftRight 22 = .ok (.istore 5, 2) := by decide +kernel
theorem dX1_shiftRight_24 : decode cX1_shiftRight 24 = .ok (.iload 5, 2) := by decide +kernel
theorem dX1_shiftRight_26 : decode cX1_shiftRight 26 = .ok (.bipush 64, 2) := by decide +kernel
theorem dX1_shiftRight_28 : decode cX1_shiftRight 28 = .ok (.if_icmp .ge 51, 3) := by decide +kernel
theorem dX1_shiftRight_31 : decode cX1_shiftRight 31 = .ok (.aload_n 1, 1) := by decide +kernel
theorem dX1_shiftRight_32 : decode cX1_shiftRight 32 = .ok (.iload 5, 2) := by decide +kernel
theorem dX1_shiftRight_34 : decode cX1_shiftRight 34 = .ok (.iload_n 2, 1) := by decide +kernel
theorem dX1_shiftRight_35 : decode cX1_shiftRight 35 = .ok (.iadd, 1) := by decide +kernel
theorem dX1_shiftRight_36 : decode cX1_shiftRight 36 = .ok (.invokevirtual 71, 3) := by decide +kernel
theorem dX1_shiftRight_39 : decode cX1_shiftRight 39 = .ok (.iload 4, 2) := by decide +kernel
theorem dX1_shiftRight_41 : decode cX1_shiftRight 41 = .ok (.iadd, 1) := by decide +kernel
theorem dX1_shiftRight_42 : decode cX1_shiftRight 42 = .ok (.istore 6, 2) := by decide +kernel
theorem dX1_shiftRight_44 : decode cX1_shiftRight 44 = .ok (.iload 6, 2) := by decide +kernel
theorem dX1_shiftRight_46 : decode cX1_shiftRight 46 = .ok (.bipush 9, 2) := by decide +kernel
theorem dX1_shiftRight_48 : decode cX1_shiftRight 48 = .ok (.if_icmp .le 7, 3) := by decide +kernel
theorem dX1_shiftRight_51 : decode cX1_shiftRight 51 = .ok (.iconst 1, 1) := by decide +kernel
theorem dX1_shiftRight_52 : decode cX1_shiftRight 52 = .ok (.goto 4, 3) := by decide +kernel
theorem dX1_shiftRight_55 : decode cX1_shiftRight 55 = .ok (.iconst 0, 1) := by decide +kernel
theorem dX1_shiftRight_56 : decode cX1_shiftRight 56 = .ok (.istore 4, 2) := by decide +kernel
theorem dX1_shiftRight_58 : decode cX1_shiftRight 58 = .ok (.aload_n 0, 1) := by decide +kernel
theorem dX1_shiftRight_59 : decode cX1_shiftRight 59 = .ok (.getfield 11, 3) := by decide +kernel
theorem dX1_shiftRight_62 : decode cX1_shiftRight 62 = .ok (.iload 5, 2) := by decide +kernel
theorem dX1_shiftRight_64 : decode cX1_shiftRight 64 = .ok (.iload 6, 2) := by decide +kernel
theorem dX1_shiftRight_66 : decode cX1_shiftRight 66 = .ok (.bipush 10, 2) := by decide +kernel
theorem dX1_shiftRight_68 : decode cX1_shiftRight 68 = .ok (.iload 4, 2) := by decide +kernel
theorem dX1_shiftRight_70 : decode cX1_shiftRight 70 = .ok (.imul, 1) := by decide +kernel
theorem dX1_shiftRight_71 : decode cX1_shiftRight 71 = .ok (.isub, 1) := by decide +kernel
theorem dX1_shiftRight_72 : decode cX1_shiftRight 72 = .ok (.iastore, 1) := by decide +kernel
theorem dX1_shiftRight_73 : decode cX1_shiftRight 73 = .ok (.iinc 5 1, 3) := by decide +kernel
theorem dX1_shiftRight_76 : decode cX1_shiftRight 76 = .ok (.goto (-52), 3) := by decide +kernel
theorem dX1_shiftRight_79 : decode cX1_shiftRight 79 = .ok (.aload_n 0, 1) := by decide +kernel
theorem dX1_shiftRight_80 : decode cX1_shiftRight 80 = .ok (.aload_n 1, 1) := by decide +kernel
theorem dX1_shiftRight_81 : decode cX1_shiftRight 81 = .ok (.getfield 19, 3) := by decide +kernel
theorem dX1_shiftRight_84 : decode cX1_shiftRight 84 = .ok (.putfield 19, 3) := by decide +kernel
theorem dX1_shiftRight_87 : decode cX1_shiftRight 87 = .ok (.aload_n 0, 1) := by decide +kernel
theorem dX1_shiftRight_88 : decode cX1_shiftRight 88 = .ok (.invokevirtual 33, 3) := by decide +kernel
theorem dX1_shiftRight_91 : decode cX1_shiftRight 91 = .ok (.return_, 1) := by decide +kernel
theorem dX1_isBelow_0 : decode cX1_isBelow 0 = .ok (.iload_n 0, 1) := by decide +kernel
theorem dX1_isBelow_1 : decode cX1_isBelow 1 = .ok (.bipush 11, 2) := by decide +kernel
theorem dX1_isBelow_3 : decode cX1_isBelow 3 = .ok (.if_icmp .eq 9, 3) := by decide +kernel
theorem dX1_isBelow_6 : decode cX1_isBelow 6 = .ok (.iload_n 0, 1) := by decide +kernel
theorem dX1_isBelow_7 : decode cX1_isBelow 7 = .ok (.bipush 13, 2) := by decide +kernel
theorem dX1_isBelow_9 : decode cX1_isBelow 9 = .ok (.if_icmp .ne 7, 3) := by decide +kernel
theorem dX1_isBelow_12 : decode cX1_isBelow 12 = .ok (.iconst 1, 1) := by decide +kernel
theorem dX1_isBelow_13 : decode cX1_isBelow 13 = .ok (.goto 4, 3) := by decide +kernel
theorem dX1_isBelow_16 : decode cX1_isBelow 16 = .ok (.iconst 0, 1) := by decide +kernel
theorem dX1_isBelow_17 : decode cX1_isBelow 17 = .ok (.ireturn, 1) := by decide +kernel
theorem dX1_measure_0 : decode cX1_measure 0 = .ok (.aload_n 0, 1) := by decide +kernel
theorem dX1_measure_1 : decode cX1_measure 1 = .ok (.bipush 64, 2) := by decide +kernel
theorem dX1_measure_3 : decode cX1_measure 3 = .ok (.putfield 15, 3) := by decide +kernel
theorem dX1_measure_6 : decode cX1_measure 6 = .ok (.aload_n 0, 1) := by decide +kernel
theorem dX1_measure_7 : decode cX1_measure 7 = .ok (.getfield 15, 3) := by decide +kernel
theorem dX1_measure_10 : decode cX1_measure 10 = .ok (.ifCond .le 30, 3) := by decide +kernel
theorem dX1_measure_13 : decode cX1_measure 13 = .ok (.aload_n 0, 1) := by decide +kernel
theorem dX1_measure_14 : decode cX1_measure 14 = .ok (.getfield 11, 3) := by decide +kernel
theorem dX1_measure_17 : decode cX1_measure 17 = .ok (.aload_n 0, 1) := by decide +kernel
theorem dX1_measure_18 : decode cX1_measure 18 = .ok (.getfield 15, 3) := by decide +kernel
theorem dX1_measure_21 : decode cX1_measure 21 = .ok (.iconst 1, 1) := by decide +kernel
theorem dX1_measure_22 : decode cX1_measure 22 = .ok (.isub, 1) := by decide +kernel
theorem dX1_measure_23 : decode cX1_measure 23 = .ok (.iaload, 1) := by decide +kernel
theorem dX1_measure_24 : decode cX1_measure 24 = .ok (.ifCond .ne 16, 3) := by decide +kernel
theorem dX1_measure_27 : decode cX1_measure 27 = .ok (.aload_n 0, 1) := by decide +kernel
theorem dX1_measure_28 : decode cX1_measure 28 = .ok (.dup, 1) := by decide +kernel
theorem dX1_measure_29 : decode cX1_measure 29 = .ok (.getfield 15, 3) := by decide +kernel
theorem dX1_measure_32 : decode cX1_measure 32 = .ok (.iconst 1, 1) := by decide +kernel
theorem dX1_measure_33 : decode cX1_measure 33 = .ok (.isub, 1) := by decide +kernel
theorem dX1_measure_34 : decode cX1_measure 34 = .ok (.putfield 15, 3) := by decide +kernel
theorem dX1_measure_37 : decode cX1_measure 37 = .ok (.goto (-31), 3) := by decide +kernel
theorem dX1_measure_40 : decode cX1_measure 40 = .ok (.return_, 1) := by decide +kernel
theorem dX7_packBytes_0 : decode cX7_packBytes 0 = .ok (.iload_n 3, 1) := by decide +kernel
theorem dX7_packBytes_1 : decode cX7_packBytes 1 = .ok (.iload 4, 2) := by decide +kernel
theorem dX7_packBytes_3 : decode cX7_packBytes 3 = .ok (.iadd, 1) := by decide +kernel
theorem dX7_packBytes_4 : decode cX7_packBytes 4 = .ok (.iconst 1, 1) := by decide +kernel
theorem dX7_packBytes_5 : decode cX7_packBytes 5 = .ok (.isub, 1) := by decide +kernel
theorem dX7_packBytes_6 : decode cX7_packBytes 6 = .ok (.istore 5, 2) := by decide +kernel
theorem dX7_packBytes_8 : decode cX7_packBytes 8 = .ok (.aload_n 0, 1) := by decide +kernel
theorem dX7_packBytes_9 : decode cX7_packBytes 9 = .ok (.iload_n 1, 1) := by decide +kernel
theorem dX7_packBytes_10 : decode cX7_packBytes 10 = .ok (.iload_n 2, 1) := by decide +kernel
theorem dX7_packBytes_11 : decode cX7_packBytes 11 = .ok (.iadd, 1) := by decide +kernel
theorem dX7_packBytes_12 : decode cX7_packBytes 12 = .ok (.iconst 1, 1) := by decide +kernel
theorem dX7_packBytes_13 : decode cX7_packBytes 13 = .ok (.isub, 1) := by decide +kernel
theorem dX7_packBytes_14 : decode cX7_packBytes 14 = .ok (.aload_n 0, 1) := by decide +kernel
theorem dX7_packBytes_15 : decode cX7_packBytes 15 = .ok (.iload 5, 2) := by decide +kernel
theorem dX7_packBytes_17 : decode cX7_packBytes 17 = .ok (.invokevirtual 7, 3) := by decide +kernel
theorem dX7_packBytes_20 : decode cX7_packBytes 20 = .ok (.invokestatic 13, 3) := by decide +kernel
theorem dX7_packBytes_23 : decode cX7_packBytes 23 = .ok (.invokevirtual 18, 3) := by decide +kernel
theorem dX7_packBytes_26 : decode cX7_packBytes 26 = .ok (.iinc 5 (-1), 3) := by decide +kernel
theorem dX7_packBytes_29 : decode cX7_packBytes 29 = .ok (.iload_n 1, 1) := by decide +kernel
theorem dX7_packBytes_30 : decode cX7_packBytes 30 = .ok (.iload_n 2, 1) := by decide +kernel
theorem dX7_packBytes_31 : decode cX7_packBytes 31 = .ok (.iadd, 1) := by decide +kernel
theorem dX7_packBytes_32 : decode cX7_packBytes 32 = .ok (.iconst 2, 1) := by decide +kernel
theorem dX7_packBytes_33 : decode cX7_packBytes 33 = .ok (.isub, 1) := by decide +kernel
theorem dX7_packBytes_34 : decode cX7_packBytes 34 = .ok (.istore 6, 2) := by decide +kernel
theorem dX7_packBytes_36 : decode cX7_packBytes 36 = .ok (.iload 6, 2) := by decide +kernel
theorem dX7_packBytes_38 : decode cX7_packBytes 38 = .ok (.iload_n 1, 1) := by decide +kernel
theorem dX7_packBytes_39 : decode cX7_packBytes 39 = .ok (.if_icmp .lt 71, 3) := by decide +kernel
theorem dX7_packBytes_42 : decode cX7_packBytes 42 = .ok (.iload 5, 2) := by decide +kernel
theorem dX7_packBytes_44 : decode cX7_packBytes 44 = .ok (.iload_n 3, 1) := by decide +kernel
theorem dX7_packBytes_45 : decode cX7_packBytes 45 = .ok (.if_icmp .lt 16, 3) := by decide +kernel
theorem dX7_packBytes_48 : decode cX7_packBytes 48 = .ok (.aload_n 0, 1) := by decide +kernel
theorem dX7_packBytes_49 : decode cX7_packBytes 49 = .ok (.iconst 2, 1) := by decide +kernel
theorem dX7_packBytes_50 : decode cX7_packBytes 50 = .ok (.iload 5, 2) := by decide +kernel
theorem dX7_packBytes_52 : decode cX7_packBytes 52 = .ok (.imul, 1) := by decide +kernel
theorem dX7_packBytes_53 : decode cX7_packBytes 53 = .ok (.iconst 1, 1) := by decide +kernel
theorem dX7_packBytes_54 : decode cX7_packBytes 54 = .ok (.iadd, 1) := by decide +kernel
theorem dX7_packBytes_55 : decode cX7_packBytes 55 = .ok (.invokevirtual 22, 3) := by decide +kernel
theorem dX7_packBytes_58 : decode cX7_packBytes 58 = .ok (.goto 4, 3) := by decide +kernel
theorem dX7_packBytes_61 : decode cX7_packBytes 61 = .ok (.iconst 0, 1) := by decide +kernel
theorem dX7_packBytes_62 : decode cX7_packBytes 62 = .ok (.istore 7, 2) := by decide +kernel
theorem dX7_packBytes_64 : decode cX7_packBytes 64 = .ok (.iload 5, 2) := by decide +kernel
theorem dX7_packBytes_66 : decode cX7_packBytes 66 = .ok (.iconst 1, 1) := by decide +kernel
theorem dX7_packBytes_67 : decode cX7_packBytes 67 = .ok (.isub, 1) := by decide +kernel
theorem dX7_packBytes_68 : decode cX7_packBytes 68 = .ok (.iload_n 3, 1) := by decide +kernel
theorem dX7_packBytes_69 : decode cX7_packBytes 69 = .ok (.if_icmp .lt 16, 3) := by decide +kernel
theorem dX7_packBytes_72 : decode cX7_packBytes 72 = .ok (.aload_n 0, 1) := by decide +kernel
theorem dX7_packBytes_73 : decode cX7_packBytes 73 = .ok (.iconst 2, 1) := by decide +kernel
theorem dX7_packBytes_74 : decode cX7_packBytes 74 = .ok (.iload 5, 2) := by decide +kernel
theorem dX7_packBytes_76 : decode cX7_packBytes 76 = .ok (.imul, 1) := by decide +kernel
theorem dX7_packBytes_77 : decode cX7_packBytes 77 = .ok (.iconst 1, 1) := by decide +kernel
theorem dX7_packBytes_78 : decode cX7_packBytes 78 = .ok (.isub, 1) := by decide +kernel
theorem dX7_packBytes_79 : decode cX7_packBytes 79 = .ok (.invokevirtual 22, 3) := by decide +kernel
theorem dX7_packBytes_82 : decode cX7_packBytes 82 = .ok (.goto 4, 3) := by decide +kernel
theorem dX7_packBytes_85 : decode cX7_packBytes 85 = .ok (.iconst 0, 1) := by decide +kernel
theorem dX7_packBytes_86 : decode cX7_packBytes 86 = .ok (.istore 8, 2) := by decide +kernel
theorem dX7_packBytes_88 : decode cX7_packBytes 88 = .ok (.aload_n 0, 1) := by decide +kernel
theorem dX7_packBytes_89 : decode cX7_packBytes 89 = .ok (.iload 6, 2) := by decide +kernel
theorem dX7_packBytes_91 : decode cX7_packBytes 91 = .ok (.iload 8, 2) := by decide +kernel
theorem dX7_packBytes_93 : decode cX7_packBytes 93 = .ok (.iconst 4, 1) := by decide +kernel
theorem dX7_packBytes_94 : decode cX7_packBytes 94 = .ok (.ishl, 1) := by decide +kernel
theorem dX7_packBytes_95 : decode cX7_packBytes 95 = .ok (.iload 7, 2) := by decide +kernel
theorem dX7_packBytes_97 : decode cX7_packBytes 97 = .ok (.ior, 1) := by decide +kernel
theorem dX7_packBytes_98 : decode cX7_packBytes 98 = .ok (.invokevirtual 18, 3) := by decide +kernel
theorem dX7_packBytes_101 : decode cX7_packBytes 101 = .ok (.iinc 5 (-2), 3) := by decide +kernel
theorem dX7_packBytes_104 : decode cX7_packBytes 104 = .ok (.iinc 6 (-1), 3) := by decide +kernel
theorem dX7_packBytes_107 : decode cX7_packBytes 107 = .ok (.goto (-71), 3) := by decide +kernel
theorem dX7_packBytes_110 : decode cX7_packBytes 110 = .ok (.return_, 1) := by decide +kernel
theorem dX7_unpackBytes_0 : decode cX7_unpackBytes 0 = .ok (.iload_n 3, 1) := by decide +kernel
theorem dX7_unpackBytes_1 : decode cX7_unpackBytes 1 = .ok (.iload 4, 2) := by decide +kernel
theorem dX7_unpackBytes_3 : decode cX7_unpackBytes 3 = .ok (.iadd, 1) := by decide +kernel
theorem dX7_unpackBytes_4 : decode cX7_unpackBytes 4 = .ok (.iconst 1, 1) := by decide +kernel
theorem dX7_unpackBytes_5 : decode cX7_unpackBytes 5 = .ok (.isub, 1) := by decide +kernel
theorem dX7_unpackBytes_6 : decode cX7_unpackBytes 6 = .ok (.istore 5, 2) := by decide +kernel
theorem dX7_unpackBytes_8 : decode cX7_unpackBytes 8 = .ok (.aload_n 0, 1) := by decide +kernel
theorem dX7_unpackBytes_9 : decode cX7_unpackBytes 9 = .ok (.iload_n 1, 1) := by decide +kernel
theorem dX7_unpackBytes_10 : decode cX7_unpackBytes 10 = .ok (.iload_n 2, 1) := by decide +kernel
theorem dX7_unpackBytes_11 : decode cX7_unpackBytes 11 = .ok (.iadd, 1) := by decide +kernel
theorem dX7_unpackBytes_12 : decode cX7_unpackBytes 12 = .ok (.iconst 1, 1) := by decide +kernel
theorem dX7_unpackBytes_13 : decode cX7_unpackBytes 13 = .ok (.isub, 1) := by decide +kernel
theorem dX7_unpackBytes_14 : decode cX7_unpackBytes 14 = .ok (.aload_n 0, 1) := by decide +kernel
theorem dX7_unpackBytes_15 : decode cX7_unpackBytes 15 = .ok (.iload 5, 2) := by decide +kernel
theorem dX7_unpackBytes_17 : decode cX7_unpackBytes 17 = .ok (.invokevirtual 7, 3) := by decide +kernel
theorem dX7_unpackBytes_20 : decode cX7_unpackBytes 20 = .ok (.invokestatic 13, 3) := by decide +kernel
theorem dX7_unpackBytes_23 : decode cX7_unpackBytes 23 = .ok (.invokevirtual 18, 3) := by decide +kernel
theorem dX7_unpackBytes_26 : decode cX7_unpackBytes 26 = .ok (.iconst 0, 1) := by decide +kernel
theorem dX7_unpackBytes_27 : decode cX7_unpackBytes 27 = .ok (.istore 6, 2) := by decide +kernel
theorem dX7_unpackBytes_29 : decode cX7_unpackBytes 29 = .ok (.iconst 1, 1) := by decide +kernel
theorem dX7_unpackBytes_30 : decode cX7_unpackBytes 30 = .ok (.istore 7, 2) := by decide +kernel
theorem dX7_unpackBytes_32 : decode cX7_unpackBytes 32 = .ok (.iload_n 1, 1) := by decide +kernel
theorem dX7_unpackBytes_33 : decode cX7_unpackBytes 33 = .ok (.iload_n 2, 1) := by decide +kernel
theorem dX7_unpackBytes_34 : decode cX7_unpackBytes 34 = .ok (.iadd, 1) := by decide +kernel
theorem dX7_unpackBytes_35 : decode cX7_unpackBytes 35 = .ok (.iconst 2, 1) := by decide +kernel
theorem dX7_unpackBytes_36 : decode cX7_unpackBytes 36 = .ok (.isub, 1) := by decide +kernel
theorem dX7_unpackBytes_37 : decode cX7_unpackBytes 37 = .ok (.istore 8, 2) := by decide +kernel
theorem dX7_unpackBytes_39 : decode cX7_unpackBytes 39 = .ok (.iload 8, 2) := by decide +kernel
theorem dX7_unpackBytes_41 : decode cX7_unpackBytes 41 = .ok (.iload_n 1, 1) := by decide +kernel
theorem dX7_unpackBytes_42 : decode cX7_unpackBytes 42 = .ok (.if_icmp .lt 74, 3) := by decide +kernel
theorem dX7_unpackBytes_45 : decode cX7_unpackBytes 45 = .ok (.iload 7, 2) := by decide +kernel
theorem dX7_unpackBytes_47 : decode cX7_unpackBytes 47 = .ok (.ifCond .eq 24, 3) := by decide +kernel
theorem dX7_unpackBytes_50 : decode cX7_unpackBytes 50 = .ok (.iinc 5 (-1), 3) := by decide +kernel
theorem dX7_unpackBytes_53 : decode cX7_unpackBytes 53 = .ok (.iload 5, 2) := by decide +kernel
theorem dX7_unpackBytes_55 : decode cX7_unpackBytes 55 = .ok (.iload_n 3, 1) := by decide +kernel
theorem dX7_unpackBytes_56 : decode cX7_unpackBytes 56 = .ok (.if_icmp .lt 12, 3) := by decide +kernel
theorem dX7_unpackBytes_59 : decode cX7_unpackBytes 59 = .ok (.aload_n 0, 1) := by decide +kernel
theorem dX7_unpackBytes_60 : decode cX7_unpackBytes 60 = .ok (.iload 5, 2) := by decide +kernel
theorem dX7_unpackBytes_62 : decode cX7_unpackBytes 62 = .ok (.invokevirtual 7, 3) := by decide +kernel
theorem dX7_unpackBytes_65 : decode cX7_unpackBytes 65 = .ok (.goto 4, 3) := by decide +kernel
theorem dX7_unpackBytes_68 : decode cX7_unpackBytes 68 = .ok (.iconst 0, 1) := by decide +kernel
theorem dX7_unpackBytes_69 : decode cX7_unpackBytes 69 = .ok (.istore 6, 2) := by decide +kernel
theorem dX7_unpackBytes_71 : decode cX7_unpackBytes 71 = .ok (.aload_n 0, 1) := by decide +kernel
theorem dX7_unpackBytes_72 : decode cX7_unpackBytes 72 = .ok (.iload 8, 2) := by decide +kernel
theorem dX7_unpackBytes_74 : decode cX7_unpackBytes 74 = .ok (.sipush 240, 3) := by decide +kernel
theorem dX7_unpackBytes_77 : decode cX7_unpackBytes 77 = .ok (.iload 7, 2) := by decide +kernel
theorem dX7_unpackBytes_79 : decode cX7_unpackBytes 79 = .ok (.ifCond .eq 11, 3) := by decide +kernel
theorem dX7_unpackBytes_82 : decode cX7_unpackBytes 82 = .ok (.iload 6, 2) := by decide +kernel
theorem dX7_unpackBytes_84 : decode cX7_unpackBytes 84 = .ok (.bipush 15, 2) := by decide +kernel
theorem dX7_unpackBytes_86 : decode cX7_unpackBytes 86 = .ok (.iand, 1) := by decide +kernel
theorem dX7_unpackBytes_87 : decode cX7_unpackBytes 87 = .ok (.goto 7, 3) := by decide +kernel
theorem dX7_unpackBytes_90 : decode cX7_unpackBytes 90 = .ok (.iload 6, 2) := by decide +kernel
theorem dX7_unpackBytes_92 : decode cX7_unpackBytes 92 = .ok (.iconst 4, 1) := by decide +kernel
theorem dX7_unpackBytes_93 : decode cX7_unpackBytes 93 = .ok (.ishr, 1) := by decide +kernel
theorem dX7_unpackBytes_94 : decode cX7_unpackBytes 94 = .ok (.ior, 1) := by decide +kernel
theorem dX7_unpackBytes_95 : decode cX7_unpackBytes 95 = .ok (.invokevirtual 18, 3) := by decide +kernel
theorem dX7_unpackBytes_98 : decode cX7_unpackBytes 98 = .ok (.iload 7, 2) := by decide +kernel
theorem dX7_unpackBytes_100 : decode cX7_unpackBytes 100 = .ok (.ifCond .ne 7, 3) := by decide +kernel
theorem dX7_unpackBytes_103 : decode cX7_unpackBytes 103 = .ok (.iconst 1, 1) := by decide +kernel
theorem dX7_unpackBytes_104 : decode cX7_unpackBytes 104 = .ok (.goto 4, 3) := by decide +kernel
theorem dX7_unpackBytes_107 : decode cX7_unpackBytes 107 = .ok (.iconst 0, 1) := by decide +kernel
theorem dX7_unpackBytes_108 : decode cX7_unpackBytes 108 = .ok (.istore 7, 2) := by decide +kernel
theorem dX7_unpackBytes_110 : decode cX7_unpackBytes 110 = .ok (.iinc 8 (-1), 3) := by decide +kernel
theorem dX7_unpackBytes_113 : decode cX7_unpackBytes 113 = .ok (.goto (-74), 3) := by decide +kernel
theorem dX7_unpackBytes_116 : decode cX7_unpackBytes 116 = .ok (.return_, 1) := by decide +kernel
theorem dX7_offsetBytes_0 : decode cX7_offsetBytes 0 = .ok (.iload_n 3, 1) := by decide +kernel
theorem dX7_offsetBytes_1 : decode cX7_offsetBytes 1 = .ok (.iload 4, 2) := by decide +kernel
theorem dX7_offsetBytes_3 : decode cX7_offsetBytes 3 = .ok (.iadd, 1) := by decide +kernel
theorem dX7_offsetBytes_4 : decode cX7_offsetBytes 4 = .ok (.iconst 1, 1) := by decide +kernel
theorem dX7_offsetBytes_5 : decode cX7_offsetBytes 5 = .ok (.isub, 1) := by decide +kernel
theorem dX7_offsetBytes_6 : decode cX7_offsetBytes 6 = .ok (.istore 5, 2) := by decide +kernel
theorem dX7_offsetBytes_8 : decode cX7_offsetBytes 8 = .ok (.aload_n 0, 1) := by decide +kernel
theorem dX7_offsetBytes_9 : decode cX7_offsetBytes 9 = .ok (.iconst 2, 1) := by decide +kernel
theorem dX7_offsetBytes_10 : decode cX7_offsetBytes 10 = .ok (.iload_n 1, 1) := by decide +kernel
theorem dX7_offsetBytes_11 : decode cX7_offsetBytes 11 = .ok (.iload_n 2, 1) := by decide +kernel
theorem dX7_offsetBytes_12 : decode cX7_offsetBytes 12 = .ok (.iadd, 1) := by decide +kernel
theorem dX7_offsetBytes_13 : decode cX7_offsetBytes 13 = .ok (.imul, 1) := by decide +kernel
theorem dX7_offsetBytes_14 : decode cX7_offsetBytes 14 = .ok (.iconst 1, 1) := by decide +kernel
theorem dX7_offsetBytes_15 : decode cX7_offsetBytes 15 = .ok (.isub, 1) := by decide +kernel
theorem dX7_offsetBytes_16 : decode cX7_offsetBytes 16 = .ok (.invokevirtual 22, 3) := by decide +kernel
theorem dX7_offsetBytes_19 : decode cX7_offsetBytes 19 = .ok (.istore 6, 2) := by decide +kernel
theorem dX7_offsetBytes_21 : decode cX7_offsetBytes 21 = .ok (.iload_n 1, 1) := by decide +kernel
theorem dX7_offsetBytes_22 : decode cX7_offsetBytes 22 = .ok (.iload_n 2, 1) := by decide +kernel
theorem dX7_offsetBytes_23 : decode cX7_offsetBytes 23 = .ok (.iadd, 1) := by decide +kernel
theorem dX7_offsetBytes_24 : decode cX7_offsetBytes 24 = .ok (.iconst 1, 1) := by decide +kernel
theorem dX7_offsetBytes_25 : decode cX7_offsetBytes 25 = .ok (.isub, 1) := by decide +kernel
theorem dX7_offsetBytes_26 : decode cX7_offsetBytes 26 = .ok (.istore 7, 2) := by decide +kernel
theorem dX7_offsetBytes_28 : decode cX7_offsetBytes 28 = .ok (.iload 7, 2) := by decide +kernel
theorem dX7_offsetBytes_30 : decode cX7_offsetBytes 30 = .ok (.iload_n 1, 1) := by decide +kernel
theorem dX7_offsetBytes_31 : decode cX7_offsetBytes 31 = .ok (.if_icmp .lt 52, 3) := by decide +kernel
theorem dX7_offsetBytes_34 : decode cX7_offsetBytes 34 = .ok (.iload 5, 2) := by decide +kernel
theorem dX7_offsetBytes_36 : decode cX7_offsetBytes 36 = .ok (.iload_n 3, 1) := by decide +kernel
theorem dX7_offsetBytes_37 : decode cX7_offsetBytes 37 = .ok (.if_icmp .lt 12, 3) := by decide +kernel
theorem dX7_offsetBytes_40 : decode cX7_offsetBytes 40 = .ok (.aload_n 0, 1) := by decide +kernel
theorem dX7_offsetBytes_41 : decode cX7_offsetBytes 41 = .ok (.iload 5, 2) := by decide +kernel
theorem dX7_offsetBytes_43 : decode cX7_offsetBytes 43 = .ok (.invokevirtual 7, 3) := by decide +kernel
theorem dX7_offsetBytes_46 : decode cX7_offsetBytes 46 = .ok (.goto 4, 3) := by decide +kernel
theorem dX7_offsetBytes_49 : decode cX7_offsetBytes 49 = .ok (.iconst 0, 1) := by decide +kernel
theorem dX7_offsetBytes_50 : decode cX7_offsetBytes 50 = .ok (.istore 8, 2) := by decide +kernel
theorem dX7_offsetBytes_52 : decode cX7_offsetBytes 52 = .ok (.aload_n 0, 1) := by decide +kernel
theorem dX7_offsetBytes_53 : decode cX7_offsetBytes 53 = .ok (.iload 7, 2) := by decide +kernel
theorem dX7_offsetBytes_55 : decode cX7_offsetBytes 55 = .ok (.iload 8, 2) := by decide +kernel
theorem dX7_offsetBytes_57 : decode cX7_offsetBytes 57 = .ok (.bipush 15, 2) := by decide +kernel
theorem dX7_offsetBytes_59 : decode cX7_offsetBytes 59 = .ok (.iand, 1) := by decide +kernel
theorem dX7_offsetBytes_60 : decode cX7_offsetBytes 60 = .ok (.iconst 4, 1) := by decide +kernel
theorem dX7_offsetBytes_61 : decode cX7_offsetBytes 61 = .ok (.ishl, 1) := by decide +kernel
theorem dX7_offsetBytes_62 : decode cX7_offsetBytes 62 = .ok (.iload 6, 2) := by decide +kernel
theorem dX7_offsetBytes_64 : decode cX7_offsetBytes 64 = .ok (.ior, 1) := by decide +kernel
theorem dX7_offsetBytes_65 : decode cX7_offsetBytes 65 = .ok (.invokevirtual 18, 3) := by decide +kernel
theorem dX7_offsetBytes_68 : decode cX7_offsetBytes 68 = .ok (.iload 8, 2) := by decide +kernel
theorem dX7_offsetBytes_70 : decode cX7_offsetBytes 70 = .ok (.iconst 4, 1) := by decide +kernel
theorem dX7_offsetBytes_71 : decode cX7_offsetBytes 71 = .ok (.ishr, 1) := by decide +kernel
theorem dX7_offsetBytes_72 : decode cX7_offsetBytes 72 = .ok (.istore 6, 2) := by decide +kernel
theorem dX7_offsetBytes_74 : decode cX7_offsetBytes 74 = .ok (.iinc 5 (-1), 3) := by decide +kernel
theorem dX7_offsetBytes_77 : decode cX7_offsetBytes 77 = .ok (.iinc 7 (-1), 3) := by decide +kernel
theorem dX7_offsetBytes_80 : decode cX7_offsetBytes 80 = .ok (.goto (-52), 3) := by decide +kernel
theorem dX7_offsetBytes_83 : decode cX7_offsetBytes 83 = .ok (.return_, 1) := by decide +kernel
theorem dX7_copyBytes_0 : decode cX7_copyBytes 0 = .ok (.iconst 0, 1) := by decide +kernel
theorem dX7_copyBytes_1 : decode cX7_copyBytes 1 = .ok (.istore 5, 2) := by decide +kernel
theorem dX7_copyBytes_3 : decode cX7_copyBytes 3 = .ok (.iload 5, 2) := by decide +kernel
theorem dX7_copyBytes_5 : decode cX7_copyBytes 5 = .ok (.iload_n 2, 1) := by decide +kernel
theorem dX7_copyBytes_6 : decode cX7_copyBytes 6 = .ok (.if_icmp .ge 46, 3) := by decide +kernel
theorem dX7_copyBytes_9 : decode cX7_copyBytes 9 = .ok (.aload_n 0, 1) := by decide +kernel
theorem dX7_copyBytes_10 : decode cX7_copyBytes 10 = .ok (.iload_n 1, 1) := by decide +kernel
theorem dX7_copyBytes_11 : decode cX7_copyBytes 11 = .ok (.iload 5, 2) := by decide +kernel
theorem dX7_copyBytes_13 : decode cX7_copyBytes 13 = .ok (.iadd, 1) := by decide +kernel
theorem dX7_copyBytes_14 : decode cX7_copyBytes 14 = .ok (.invokevirtual 7, 3) := by decide +kernel
theorem dX7_copyBytes_17 : decode cX7_copyBytes 17 = .ok (.iload 4, 2) := by decide +kernel
theorem dX7_copyBytes_19 : decode cX7_copyBytes 19 = .ok (.iconst (-1), 1) := by decide +kernel
theorem dX7_copyBytes_20 : decode cX7_copyBytes 20 = .ok (.ixor, 1) := by decide +kernel
theorem dX7_copyBytes_21 : decode cX7_copyBytes 21 = .ok (.iand, 1) := by decide +kernel
theorem dX7_copyBytes_22 : decode cX7_copyBytes 22 = .ok (.istore 6, 2) := by decide +kernel
theorem dX7_copyBytes_24 : decode cX7_copyBytes 24 = .ok (.aload_n 0, 1) := by decide +kernel
theorem dX7_copyBytes_25 : decode cX7_copyBytes 25 = .ok (.iload_n 1, 1) := by decide +kernel
theorem dX7_copyBytes_26 : decode cX7_copyBytes 26 = .ok (.iload 5, 2) := by decide +kernel
theorem dX7_copyBytes_28 : decode cX7_copyBytes 28 = .ok (.iadd, 1) := by decide +kernel
theorem dX7_copyBytes_29 : decode cX7_copyBytes 29 = .ok (.iload 6, 2) := by decide +kernel
theorem dX7_copyBytes_31 : decode cX7_copyBytes 31 = .ok (.aload_n 0, 1) := by decide +kernel
theorem dX7_copyBytes_32 : decode cX7_copyBytes 32 = .ok (.iload_n 3, 1) := by decide +kernel
theorem dX7_copyBytes_33 : decode cX7_copyBytes 33 = .ok (.iload 5, 2) := by decide +kernel
theorem dX7_copyBytes_35 : decode cX7_copyBytes 35 = .ok (.iadd, 1) := by decide +kernel
theorem dX7_copyBytes_36 : decode cX7_copyBytes 36 = .ok (.invokevirtual 7, 3) := by decide +kernel
theorem dX7_copyBytes_39 : decode cX7_copyBytes 39 = .ok (.iload 4, 2) := by decide +kernel
theorem dX7_copyBytes_41 : decode cX7_copyBytes 41 = .ok (.iand, 1) := by decide +kernel
theorem dX7_copyBytes_42 : decode cX7_copyBytes 42 = .ok (.ior, 1) := by decide +kernel
theorem dX7_copyBytes_43 : decode cX7_copyBytes 43 = .ok (.invokevirtual 18, 3) := by decide +kernel
theorem dX7_copyBytes_46 : decode cX7_copyBytes 46 = .ok (.iinc 5 1, 3) := by decide +kernel
theorem dX7_copyBytes_49 : decode cX7_copyBytes 49 = .ok (.goto (-46), 3) := by decide +kernel
theorem dX7_copyBytes_52 : decode cX7_copyBytes 52 = .ok (.return_, 1) := by decide +kernel
theorem dX7_turned_0 : decode cX7_turned 0 = .ok (.iload_n 0, 1) := by decide +kernel
theorem dX7_turned_1 : decode cX7_turned 1 = .ok (.bipush 15, 2) := by decide +kernel
theorem dX7_turned_3 : decode cX7_turned 3 = .ok (.iand, 1) := by decide +kernel
theorem dX7_turned_4 : decode cX7_turned 4 = .ok (.iconst 4, 1) := by decide +kernel
theorem dX7_turned_5 : decode cX7_turned 5 = .ok (.ishl, 1) := by decide +kernel
theorem dX7_turned_6 : decode cX7_turned 6 = .ok (.iload_n 0, 1) := by decide +kernel
theorem dX7_turned_7 : decode cX7_turned 7 = .ok (.iconst 4, 1) := by decide +kernel
theorem dX7_turned_8 : decode cX7_turned 8 = .ok (.ishr, 1) := by decide +kernel
theorem dX7_turned_9 : decode cX7_turned 9 = .ok (.ior, 1) := by decide +kernel
theorem dX7_turned_10 : decode cX7_turned 10 = .ok (.ireturn, 1) := by decide +kernel
