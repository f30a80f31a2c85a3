theorem dX2_kept_0 : decode cX2_kept 0 = .ok (.aload_n 0, 1) := by decide +kernel
theorem dX2_kept_1 : decode cX2_kept 1 = .ok (.getfield 29, 3) := by decide +kernel
theorem dX2_kept_4 : decode cX2_kept 4 = .ok (.ireturn, 1) := by decide +kernel
theorem dX2_noted_0 : decode cX2_noted 0 = .ok (.aload_n 0, 1) := by decide +kernel
theorem dX2_noted_1 : decode cX2_noted 1 = .ok (.getfield 33, 3) := by decide +kernel
theorem dX2_noted_4 : decode cX2_noted 4 = .ok (.ireturn, 1) := by decide +kernel
theorem dX2_refused_0 : decode cX2_refused 0 = .ok (.iload_n 1, 1) := by decide +kernel
theorem dX2_refused_1 : decode cX2_refused 1 = .ok (.ifCond .lt 21, 3) := by decide +kernel
theorem dX2_refused_4 : decode cX2_refused 4 = .ok (.iload_n 1, 1) := by decide +kernel
theorem dX2_refused_5 : decode cX2_refused 5 = .ok (.aload_n 0, 1) := by decide +kernel
theorem dX2_refused_6 : decode cX2_refused 6 = .ok (.getfield 26, 3) := by decide +kernel
theorem dX2_refused_9 : decode cX2_refused 9 = .ok (.arraylength, 1) := by decide +kernel
theorem dX2_refused_10 : decode cX2_refused 10 = .ok (.if_icmp .ge 12, 3) := by decide +kernel
theorem dX2_refused_13 : decode cX2_refused 13 = .ok (.aload_n 0, 1) := by decide +kernel
theorem dX2_refused_14 : decode cX2_refused 14 = .ok (.getfield 26, 3) := by decide +kernel
theorem dX2_refused_17 : decode cX2_refused 17 = .ok (.iload_n 1, 1) := by decide +kernel
theorem dX2_refused_18 : decode cX2_refused 18 = .ok (.iaload, 1) := by decide +kernel
theorem dX2_refused_19 : decode cX2_refused 19 = .ok (.goto 4, 3) := by decide +kernel
theorem dX2_refused_22 : decode cX2_refused 22 = .ok (.iconst 0, 1) := by decide +kernel
theorem dX2_refused_23 : decode cX2_refused 23 = .ok (.ireturn, 1) := by decide +kernel
theorem dX2_refuse_0 : decode cX2_refuse 0 = .ok (.iload_n 1, 1) := by decide +kernel
theorem dX2_refuse_1 : decode cX2_refuse 1 = .ok (.ifCond .lt 22, 3) := by decide +kernel
theorem dX2_refuse_4 : decode cX2_refuse 4 = .ok (.iload_n 1, 1) := by decide +kernel
theorem dX2_refuse_5 : decode cX2_refuse 5 = .ok (.aload_n 0, 1) := by decide +kernel
theorem dX2_refuse_6 : decode cX2_refuse 6 = .ok (.getfield 26, 3) := by decide +kernel
theorem dX2_refuse_9 : decode cX2_refuse 9 = .ok (.arraylength, 1) := by decide +kernel
theorem dX2_refuse_10 : decode cX2_refuse 10 = .ok (.if_icmp .ge 13, 3) := by decide +kernel
theorem dX2_refuse_13 : decode cX2_refuse 13 = .ok (.aload_n 0, 1) := by decide +kernel
theorem dX2_refuse_14 : decode cX2_refuse 14 = .ok (.getfield 26, 3) := by decide +kernel
theorem dX2_refuse_17 : decode cX2_refuse 17 = .ok (.iload_n 1, 1) := by decide +kernel
theorem dX2_refuse_18 : decode cX2_refuse 18 = .ok (.dup2, 1) := by decide +kernel
theorem dX2_refuse_19 : decode cX2_refuse 19 = .ok (.iaload, 1) := by decide +kernel
theorem dX2_refuse_20 : decode cX2_refuse 20 = .ok (.iconst 1, 1) := by decide +kernel
theorem dX2_refuse_21 : decode cX2_refuse 21 = .ok (.iadd, 1) := by decide +kernel
theorem dX2_refuse_22 : decode cX2_refuse 22 = .ok (.iastore, 1) := by decide +kernel
theorem dX2_refuse_23 : decode cX2_refuse 23 = .ok (.return_, 1) := by decide +kernel
theorem dX2_takeBack_0 : decode cX2_takeBack 0 = .ok (.aload_n 0, 1) := by decide +kernel
theorem dX2_takeBack_1 : decode cX2_takeBack 1 = .ok (.getfield 36, 3) := by decide +kernel
theorem dX2_takeBack_4 : decode cX2_takeBack 4 = .ok (.aload_n 0, 1) := by decide +kernel
theorem dX2_takeBack_5 : decode cX2_takeBack 5 = .ok (.getfield 29, 3) := by decide +kernel
theorem dX2_takeBack_8 : decode cX2_takeBack 8 = .ok (.iadd, 1) := by decide +kernel
theorem dX2_takeBack_9 : decode cX2_takeBack 9 = .ok (.iconst 1, 1) := by decide +kernel
theorem dX2_takeBack_10 : decode cX2_takeBack 10 = .ok (.isub, 1) := by decide +kernel
theorem dX2_takeBack_11 : decode cX2_takeBack 11 = .ok (.bipush 40, 2) := by decide +kernel
theorem dX2_takeBack_13 : decode cX2_takeBack 13 = .ok (.irem, 1) := by decide +kernel
theorem dX2_takeBack_14 : decode cX2_takeBack 14 = .ok (.istore_n 1, 1) := by decide +kernel
theorem dX2_takeBack_15 : decode cX2_takeBack 15 = .ok (.aload_n 0, 1) := by decide +kernel
theorem dX2_takeBack_16 : decode cX2_takeBack 16 = .ok (.getfield 29, 3) := by decide +kernel
theorem dX2_takeBack_19 : decode cX2_takeBack 19 = .ok (.ifCond .le 39, 3) := by decide +kernel
theorem dX2_takeBack_22 : decode cX2_takeBack 22 = .ok (.iload_n 1, 1) := by decide +kernel
theorem dX2_takeBack_23 : decode cX2_takeBack 23 = .ok (.ifCond .lt 35, 3) := by decide +kernel
theorem dX2_takeBack_26 : decode cX2_takeBack 26 = .ok (.aload_n 0, 1) := by decide +kernel
theorem dX2_takeBack_27 : decode cX2_takeBack 27 = .ok (.getfield 18, 3) := by decide +kernel
theorem dX2_takeBack_30 : decode cX2_takeBack 30 = .ok (.iload_n 1, 1) := by decide +kernel
theorem dX2_takeBack_31 : decode cX2_takeBack 31 = .ok (.aaload, 1) := by decide +kernel
theorem dX2_takeBack_32 : decode cX2_takeBack 32 = .ok (.ifnull 26, 3) := by decide +kernel
theorem dX2_takeBack_35 : decode cX2_takeBack 35 = .ok (.aload_n 0, 1) := by decide +kernel
theorem dX2_takeBack_36 : decode cX2_takeBack 36 = .ok (.getfield 12, 3) := by decide +kernel
theorem dX2_takeBack_39 : decode cX2_takeBack 39 = .ok (.aload_n 0, 1) := by decide +kernel
theorem dX2_takeBack_40 : decode cX2_takeBack 40 = .ok (.getfield 18, 3) := by decide +kernel
theorem dX2_takeBack_43 : decode cX2_takeBack 43 = .ok (.iload_n 1, 1) := by decide +kernel
theorem dX2_takeBack_44 : decode cX2_takeBack 44 = .ok (.aaload, 1) := by decide +kernel
theorem dX2_takeBack_45 : decode cX2_takeBack 45 = .ok (.invokevirtual 43, 3) := by decide +kernel
theorem dX2_takeBack_48 : decode cX2_takeBack 48 = .ok (.aload_n 0, 1) := by decide +kernel
theorem dX2_takeBack_49 : decode cX2_takeBack 49 = .ok (.dup, 1) := by decide +kernel
theorem dX2_takeBack_50 : decode cX2_takeBack 50 = .ok (.getfield 29, 3) := by decide +kernel
theorem dX2_takeBack_53 : decode cX2_takeBack 53 = .ok (.iconst 1, 1) := by decide +kernel
theorem dX2_takeBack_54 : decode cX2_takeBack 54 = .ok (.isub, 1) := by decide +kernel
theorem dX2_takeBack_55 : decode cX2_takeBack 55 = .ok (.putfield 29, 3) := by decide +kernel
theorem dX2_takeBack_58 : decode cX2_takeBack 58 = .ok (.return_, 1) := by decide +kernel
theorem dX2_write_0 : decode cX2_write 0 = .ok (.aload_n 0, 1) := by decide +kernel
theorem dX2_write_1 : decode cX2_write 1 = .ok (.getfield 33, 3) := by decide +kernel
theorem dX2_write_4 : decode cX2_write 4 = .ok (.bipush 8, 2) := by decide +kernel
theorem dX2_write_6 : decode cX2_write 6 = .ok (.if_icmp .ge 53, 3) := by decide +kernel
theorem dX2_write_9 : decode cX2_write 9 = .ok (.aload_n 0, 1) := by decide +kernel
theorem dX2_write_10 : decode cX2_write 10 = .ok (.getfield 22, 3) := by decide +kernel
theorem dX2_write_13 : decode cX2_write 13 = .ok (.iconst 3, 1) := by decide +kernel
theorem dX2_write_14 : decode cX2_write 14 = .ok (.aload_n 0, 1) := by decide +kernel
theorem dX2_write_15 : decode cX2_write 15 = .ok (.getfield 33, 3) := by decide +kernel
theorem dX2_write_18 : decode cX2_write 18 = .ok (.imul, 1) := by decide +kernel
theorem dX2_write_19 : decode cX2_write 19 = .ok (.iload_n 1, 1) := by decide +kernel
theorem dX2_write_20 : decode cX2_write 20 = .ok (.iastore, 1) := by decide +kernel
theorem dX2_write_21 : decode cX2_write 21 = .ok (.aload_n 0, 1) := by decide +kernel
theorem dX2_write_22 : decode cX2_write 22 = .ok (.getfield 22, 3) := by decide +kernel
theorem dX2_write_25 : decode cX2_write 25 = .ok (.iconst 3, 1) := by decide +kernel
theorem dX2_write_26 : decode cX2_write 26 = .ok (.aload_n 0, 1) := by decide +kernel
theorem dX2_write_27 : decode cX2_write 27 = .ok (.getfield 33, 3) := by decide +kernel
theorem dX2_write_30 : decode cX2_write 30 = .ok (.imul, 1) := by decide +kernel
theorem dX2_write_31 : decode cX2_write 31 = .ok (.iconst 1, 1) := by decide +kernel
theorem dX2_write_32 : decode cX2_write 32 = .ok (.iadd, 1) := by decide +kernel
theorem dX2_write_33 : decode cX2_write 33 = .ok (.iload_n 2, 1) := by decide +kernel
theorem dX2_write_34 : decode cX2_write 34 = .ok (.iastore, 1) := by decide +kernel
theorem dX2_write_35 : decode cX2_write 35 = .ok (.aload_n 0, 1) := by decide +kernel
theorem dX2_write_36 : decode cX2_write 36 = .ok (.getfield 22, 3) := by decide +kernel
theorem dX2_write_39 : decode cX2_write 39 = .ok (.iconst 3, 1) := by decide +kernel
theorem dX2_write_40 : decode cX2_write 40 = .ok (.aload_n 0, 1) := by decide +kernel
theorem dX2_write_41 : decode cX2_write 41 = .ok (.getfield 33, 3) := by decide +kernel
theorem dX2_write_44 : decode cX2_write 44 = .ok (.imul, 1) := by decide +kernel
theorem dX2_write_45 : decode cX2_write 45 = .ok (.iconst 2, 1) := by decide +kernel
theorem dX2_write_46 : decode cX2_write 46 = .ok (.iadd, 1) := by decide +kernel
theorem dX2_write_47 : decode cX2_write 47 = .ok (.iload_n 3, 1) := by decide +kernel
theorem dX2_write_48 : decode cX2_write 48 = .ok (.iastore, 1) := by decide +kernel
theorem dX2_write_49 : decode cX2_write 49 = .ok (.aload_n 0, 1) := by decide +kernel
theorem dX2_write_50 : decode cX2_write 50 = .ok (.dup, 1) := by decide +kernel
theorem dX2_write_51 : decode cX2_write 51 = .ok (.getfield 33, 3) := by decide +kernel
theorem dX2_write_54 : decode cX2_write 54 = .ok (.iconst 1, 1) := by decide +kernel
theorem dX2_write_55 : decode cX2_write 55 = .ok (.iadd, 1) := by decide +kernel
theorem dX2_write_56 : decode cX2_write 56 = .ok (.putfield 33, 3) := by decide +kernel
theorem dX2_write_59 : decode cX2_write 59 = .ok (.return_, 1) := by decide +kernel
theorem dX2_wipe_0 : decode cX2_wipe 0 = .ok (.aload_n 0, 1) := by decide +kernel
theorem dX2_wipe_1 : decode cX2_wipe 1 = .ok (.iconst 0, 1) := by decide +kernel
theorem dX2_wipe_2 : decode cX2_wipe 2 = .ok (.putfield 33, 3) := by decide +kernel
theorem dX2_wipe_5 : decode cX2_wipe 5 = .ok (.return_, 1) := by decide +kernel
theorem dX2_latestNote_0 : decode cX2_latestNote 0 = .ok (.iconst (-1), 1) := by decide +kernel
theorem dX2_latestNote_1 : decode cX2_latestNote 1 = .ok (.istore_n 1, 1) := by decide +kernel
theorem dX2_latestNote_2 : decode cX2_latestNote 2 = .ok (.iconst 0, 1) := by decide +kernel
theorem dX2_latestNote_3 : decode cX2_latestNote 3 = .ok (.istore_n 2, 1) := by decide +kernel
theorem dX2_latestNote_4 : decode cX2_latestNote 4 = .ok (.iload_n 2, 1) := by decide +kernel
theorem dX2_latestNote_5 : decode cX2_latestNote 5 = .ok (.aload_n 0, 1) := by decide +kernel
theorem dX2_latestNote_6 : decode cX2_latestNote 6 = .ok (.getfield 33, 3) := by decide +kernel
theorem dX2_latestNote_9 : decode cX2_latestNote 9 = .ok (.if_icmp .ge 22, 3) := by decide +kernel
theorem dX2_latestNote_12 : decode cX2_latestNote 12 = .ok (.iload_n 1, 1) := by decide +kernel
theorem dX2_latestNote_13 : decode cX2_latestNote 13 = .ok (.aload_n 0, 1) := by decide +kernel
theorem dX2_latestNote_14 : decode cX2_latestNote 14 = .ok (.getfield 22, 3) := by decide +kernel
theorem dX2_latestNote_17 : decode cX2_latestNote 17 = .ok (.iconst 3, 1) := by decide +kernel
theorem dX2_latestNote_18 : decode cX2_latestNote 18 = .ok (.iload_n 2, 1) := by decide +kernel
theorem dX2_latestNote_19 : decode cX2_latestNote 19 = .ok (.imul, 1) := by decide +kernel
theorem dX2_latestNote_20 : decode cX2_latestNote 20 = .ok (.iaload, 1) := by decide +kernel
theorem dX2_latestNote_21 : decode cX2_latestNote 21 = .ok (.invokestatic 47, 3) := by decide +kernel
theorem dX2_latestNote_24 : decode cX2_latestNote 24 = .ok (.istore_n 1, 1) := by decide +kernel
theorem dX2_latestNote_25 : decode cX2_latestNote 25 = .ok (.iinc 2 1, 3) := by decide +kernel
theorem dX2_latestNote_28 : decode cX2_latestNote 28 = .ok (.goto (-24), 3) := by decide +kernel
theorem dX2_latestNote_31 : decode cX2_latestNote 31 = .ok (.iload_n 1, 1) := by decide +kernel
theorem dX2_latestNote_32 : decode cX2_latestNote 32 = .ok (.ireturn, 1) := by decide +kernel
theorem dX2_bears_0 : decode cX2_bears 0 = .ok (.iconst 0, 1) := by decide +kernel
theorem dX2_bears_1 : decode cX2_bears 1 = .ok (.istore_n 3, 1) := by decide +kernel
theorem dX2_bears_2 : decode cX2_bears 2 = .ok (.iload_n 3, 1) := by decide +kernel
theorem dX2_bears_3 : decode cX2_bears 3 = .ok (.aload_n 0, 1) := by decide +kernel
theorem dX2_bears_4 : decode cX2_bears 4 = .ok (.getfield 33, 3) := by decide +kernel
theorem dX2_bears_7 : decode cX2_bears 7 = .ok (.if_icmp .ge 50, 3) := by decide +kernel
theorem dX2_bears_10 : decode cX2_bears 10 = .ok (.aload_n 0, 1) := by decide +kernel
theorem dX2_bears_11 : decode cX2_bears 11 = .ok (.getfield 22, 3) := by decide +kernel
theorem dX2_bears_14 : decode cX2_bears 14 = .ok (.iconst 3, 1) := by decide +kernel
theorem dX2_bears_15 : decode cX2_bears 15 = .ok (.iload_n 3, 1) := by decide +kernel
theorem dX2_bears_16 : decode cX2_bears 16 = .ok (.imul, 1) := by decide +kernel
theorem dX2_bears_17 : decode cX2_bears 17 = .ok (.iaload, 1) := by decide +kernel
theorem dX2_bears_18 : decode cX2_bears 18 = .ok (.iload_n 2, 1) := by decide +kernel
theorem dX2_bears_19 : decode cX2_bears 19 = .ok (.if_icmp .ne 32, 3) := by decide +kernel
theorem dX2_bears_22 : decode cX2_bears 22 = .ok (.aload_n 1, 1) := by decide +kernel
theorem dX2_bears_23 : decode cX2_bears 23 = .ok (.aload_n 0, 1) := by decide +kernel
theorem dX2_bears_24 : decode cX2_bears 24 = .ok (.getfield 22, 3) := by decide +kernel
theorem dX2_bears_27 : decode cX2_bears 27 = .ok (.iconst 3, 1) := by decide +kernel
theorem dX2_bears_28 : decode cX2_bears 28 = .ok (.iload_n 3, 1) := by decide +kernel
theorem dX2_bears_29 : decode cX2_bears 29 = .ok (.imul, 1) := by decide +kernel
theorem dX2_bears_30 : decode cX2_bears 30 = .ok (.iconst 1, 1) := by decide +kernel
theorem dX2_bears_31 : decode cX2_bears 31 = .ok (.iadd, 1) := by decide +kernel
theorem dX2_bears_32 : decode cX2_bears 32 = .ok (.iaload, 1) := by decide +kernel
theorem dX2_bears_33 : decode cX2_bears 33 = .ok (.invokevirtual 53, 3) := by decide +kernel
theorem dX2_bears_36 : decode cX2_bears 36 = .ok (.aload_n 0, 1) := by decide +kernel
theorem dX2_bears_37 : decode cX2_bears 37 = .ok (.getfield 22, 3) := by decide +kernel
theorem dX2_bears_40 : decode cX2_bears 40 = .ok (.iconst 3, 1) := by decide +kernel
theorem dX2_bears_41 : decode cX2_bears 41 = .ok (.iload_n 3, 1) := by decide +kernel
theorem dX2_bears_42 : decode cX2_bears 42 = .ok (.imul, 1) := by decide +kernel
theorem dX2_bears_43 : decode cX2_bears 43 = .ok (.iconst 2, 1) := by decide +kernel
theorem dX2_bears_44 : decode cX2_bears 44 = .ok (.iadd, 1) := by decide +kernel
theorem dX2_bears_45 : decode cX2_bears 45 = .ok (.iaload, 1) := by decide +kernel
theorem dX2_bears_46 : decode cX2_bears 46 = .ok (.if_icmp .eq 5, 3) := by decide +kernel
theorem dX2_bears_49 : decode cX2_bears 49 = .ok (.iconst 0, 1) := by decide +kernel
theorem dX2_bears_50 : decode cX2_bears 50 = .ok (.ireturn, 1) := by decide +kernel
theorem dX2_bears_51 : decode cX2_bears 51 = .ok (.iinc 3 1, 3) := by decide +kernel
theorem dX2_bears_54 : decode cX2_bears 54 = .ok (.goto (-52), 3) := by decide +kernel
theorem dX2_bears_57 : decode cX2_bears 57 = .ok (.iconst 1, 1) := by decide +kernel
theorem dX2_bears_58 : decode cX2_bears 58 = .ok (.ireturn, 1) := by decide +kernel
theorem dX2_renew_0 : decode cX2_renew 0 = .ok (.aload_n 0, 1) := by decide +kernel
theorem dX2_renew_1 : decode cX2_renew 1 = .ok (.getfield 12, 3) := by decide +kernel
theorem dX2_renew_4 : decode cX2_renew 4 = .ok (.aload_n 1, 1) := by decide +kernel
theorem dX2_renew_5 : decode cX2_renew 5 = .ok (.invokevirtual 57, 3) := by decide +kernel
theorem dX2_renew_8 : decode cX2_renew 8 = .ok (.aload_n 0, 1) := by decide +kernel
theorem dX2_renew_9 : decode cX2_renew 9 = .ok (.iconst 0, 1) := by decide +kernel
theorem dX2_renew_10 : decode cX2_renew 10 = .ok (.putfield 36, 3) := by decide +kernel
theorem dX2_renew_13 : decode cX2_renew 13 = .ok (.aload_n 0, 1) := by decide +kernel
theorem dX2_renew_14 : decode cX2_renew 14 = .ok (.iconst 0, 1) := by decide +kernel
theorem dX2_renew_15 : decode cX2_renew 15 = .ok (.putfield 29, 3) := by decide +kernel
theorem dX2_renew_18 : decode cX2_renew 18 = .ok (.aload_n 0, 1) := by decide +kernel
theorem dX2_renew_19 : decode cX2_renew 19 = .ok (.iconst 0, 1) := by decide +kernel
theorem dX2_renew_20 : decode cX2_renew 20 = .ok (.putfield 33, 3) := by decide +kernel
theorem dX2_renew_23 : decode cX2_renew 23 = .ok (.return_, 1) := by decide +kernel
theorem dX4_behind_0 : decode cX4_behind 0 = .ok (.aload_n 0, 1) := by decide +kernel
theorem dX4_behind_1 : decode cX4_behind 1 = .ok (.getfield 21, 3) := by decide +kernel
theorem dX4_behind_4 : decode cX4_behind 4 = .ok (.aload_n 1, 1) := by decide +kernel
theorem dX4_behind_5 : decode cX4_behind 5 = .ok (.invokevirtual 32, 3) := by decide +kernel
theorem dX4_behind_8 : decode cX4_behind 8 = .ok (.iconst 0, 1) := by decide +kernel
theorem dX4_behind_9 : decode cX4_behind 9 = .ok (.istore_n 3, 1) := by decide +kernel
theorem dX4_behind_10 : decode cX4_behind 10 = .ok (.iload_n 3, 1) := by decide +kernel
theorem dX4_behind_11 : decode cX4_behind 11 = .ok (.iload_n 2, 1) := by decide +kernel
theorem dX4_behind_12 : decode cX4_behind 12 = .ok (.if_icmp .ge 31, 3) := by decide +kernel
theorem dX4_behind_15 : decode cX4_behind 15 = .ok (.aload_n 0, 1) := by decide +kernel
theorem dX4_behind_16 : decode cX4_behind 16 = .ok (.getfield 21, 3) := by decide +kernel
theorem dX4_behind_19 : decode cX4_behind 19 = .ok (.invokevirtual 36, 3) := by decide +kernel
theorem dX4_behind_22 : decode cX4_behind 22 = .ok (.ifCond .eq 21, 3) := by decide +kernel
theorem dX4_behind_25 : decode cX4_behind 25 = .ok (.aload_n 0, 1) := by decide +kernel
theorem dX4_behind_26 : decode cX4_behind 26 = .ok (.getfield 12, 3) := by decide +kernel
theorem dX4_behind_29 : decode cX4_behind 29 = .ok (.aload_n 0, 1) := by decide +kernel
theorem dX4_behind_30 : decode cX4_behind 30 = .ok (.getfield 21, 3) := by decide +kernel
theorem dX4_behind_33 : decode cX4_behind 33 = .ok (.invokevirtual 40, 3) := by decide +kernel
theorem dX4_behind_36 : decode cX4_behind 36 = .ok (.pop, 1) := by decide +kernel
theorem dX4_behind_37 : decode cX4_behind 37 = .ok (.iinc 3 1, 3) := by decide +kernel
theorem dX4_behind_40 : decode cX4_behind 40 = .ok (.goto (-30), 3) := by decide +kernel
theorem dX4_behind_43 : decode cX4_behind 43 = .ok (.aload_n 0, 1) := by decide +kernel
theorem dX4_behind_44 : decode cX4_behind 44 = .ok (.getfield 21, 3) := by decide +kernel
theorem dX4_behind_47 : decode cX4_behind 47 = .ok (.areturn, 1) := by decide +kernel
theorem dX4_firstFault_0 : decode cX4_firstFault 0 = .ok (.aload_n 0, 1) := by decide +kernel
theorem dX4_firstFault_1 : decode cX4_firstFault 1 = .ok (.getfield 21, 3) := by decide +kernel
theorem dX4_firstFault_4 : decode cX4_firstFault 4 = .ok (.aload_n 1, 1) := by decide +kernel
theorem dX4_firstFault_5 : decode cX4_firstFault 5 = .ok (.invokevirtual 32, 3) := by decide +kernel
theorem dX4_firstFault_8 : decode cX4_firstFault 8 = .ok (.iconst 1, 1) := by decide +kernel
theorem dX4_firstFault_9 : decode cX4_firstFault 9 = .ok (.istore_n 3, 1) := by decide +kernel
theorem dX4_firstFault_10 : decode cX4_firstFault 10 = .ok (.iload_n 3, 1) := by decide +kernel
theorem dX4_firstFault_11 : decode cX4_firstFault 11 = .ok (.bipush 100, 2) := by decide +kernel
theorem dX4_firstFault_13 : decode cX4_firstFault 13 = .ok (.if_icmp .gt 36, 3) := by decide +kernel
theorem dX4_firstFault_16 : decode cX4_firstFault 16 = .ok (.aload_n 0, 1) := by decide +kernel
theorem dX4_firstFault_17 : decode cX4_firstFault 17 = .ok (.getfield 21, 3) := by decide +kernel
theorem dX4_firstFault_20 : decode cX4_firstFault 20 = .ok (.invokevirtual 36, 3) := by decide +kernel
theorem dX4_firstFault_23 : decode cX4_firstFault 23 = .ok (.ifCond .eq 26, 3) := by decide +kernel
theorem dX4_firstFault_26 : decode cX4_firstFault 26 = .ok (.aload_n 0, 1) := by decide +kernel
theorem dX4_firstFault_27 : decode cX4_firstFault 27 = .ok (.getfield 12, 3) := by decide +kernel
theorem dX4_firstFault_30 : decode cX4_firstFault 30 = .ok (.aload_n 0, 1) := by decide +kernel
theorem dX4_firstFault_31 : decode cX4_firstFault 31 = .ok (.getfield 21, 3) := by decide +kernel
theorem dX4_firstFault_34 : decode cX4_firstFault 34 = .ok (.invokevirtual 40, 3) := by decide +kernel
theorem dX4_firstFault_37 : decode cX4_firstFault 37 = .ok (.iload_n 2, 1) := by decide +kernel
theorem dX4_firstFault_38 : decode cX4_firstFault 38 = .ok (.if_icmp .ne 5, 3) := by decide +kernel
theorem dX4_firstFault_41 : decode cX4_firstFault 41 = .ok (.iload_n 3, 1) := by decide +kernel
theorem dX4_firstFault_42 : decode cX4_firstFault 42 = .ok (.ireturn, 1) := by decide +kernel
theorem dX4_firstFault_43 : decode cX4_firstFault 43 = .ok (.iinc 3 1, 3) := by decide +kernel
theorem dX4_firstFault_46 : decode cX4_firstFault 46 = .ok (.goto (-36), 3) := by decide +kernel
theorem dX4_firstFault_49 : decode cX4_firstFault 49 = .ok (.iconst (-1), 1) := by decide +kernel
theorem dX4_firstFault_50 : decode cX4_firstFault 50 = .ok (.ireturn, 1) := by decide +kernel
theorem dX4_firstRest_0 : decode cX4_firstRest 0 = .ok (.aload_n 0, 1) := by decide +kernel
theorem dX4_firstRest_1 : decode cX4_firstRest 1 = .ok (.getfield 21, 3) := by decide +kernel
theorem dX4_firstRest_4 : decode cX4_firstRest 4 = .ok (.aload_n 1, 1) := by decide +kernel
theorem dX4_firstRest_5 : decode cX4_firstRest 5 = .ok (.invokevirtual 32, 3) := by decide +kernel
theorem dX4_firstRest_8 : decode cX4_firstRest 8 = .ok (.iconst 0, 1) := by decide +kernel
theorem dX4_firstRest_9 : decode cX4_firstRest 9 = .ok (.istore_n 2, 1) := by decide +kernel
theorem dX4_firstRest_10 : decode cX4_firstRest 10 = .ok (.iload_n 2, 1) := by decide +kernel
theorem dX4_firstRest_11 : decode cX4_firstRest 11 = .ok (.bipush 100, 2) := by decide +kernel
theorem dX4_firstRest_13 : decode cX4_firstRest 13 = .ok (.if_icmp .gt 33, 3) := by decide +kernel
theorem dX4_firstRest_16 : decode cX4_firstRest 16 = .ok (.aload_n 0, 1) := by decide +kernel
theorem dX4_firstRest_17 : decode cX4_firstRest 17 = .ok (.getfield 21, 3) := by decide +kernel
theorem dX4_firstRest_20 : decode cX4_firstRest 20 = .ok (.invokevirtual 36, 3) := by decide +kernel
theorem dX4_firstRest_23 : decode cX4_firstRest 23 = .ok (.ifCond .ne 5, 3) := by decide +kernel
theorem dX4_firstRest_26 : decode cX4_firstRest 26 = .ok (.iload_n 2, 1) := by decide +kernel
theorem dX4_firstRest_27 : decode cX4_firstRest 27 = .ok (.ireturn, 1) := by decide +kernel
theorem dX4_firstRest_28 : decode cX4_firstRest 28 = .ok (.aload_n 0, 1) := by decide +kernel
theorem dX4_firstRest_29 : decode cX4_firstRest 29 = .ok (.getfield 12, 3) := by decide +kernel
theorem dX4_firstRest_32 : decode cX4_firstRest 32 = .ok (.aload_n 0, 1) := by decide +kernel
theorem dX4_firstRest_33 : decode cX4_firstRest 33 = .ok (.getfield 21, 3) := by decide +kernel
theorem dX4_firstRest_36 : decode cX4_firstRest 36 = .ok (.invokevirtual 40, 3) := by decide +kernel
theorem dX4_firstRest_39 : decode cX4_firstRest 39 = .ok (.pop, 1) := by decide +kernel
theorem dX4_firstRest_40 : decode cX4_firstRest 40 = .ok (.iinc 2 1, 3) := by decide +kernel
theorem dX4_firstRest_43 : decode cX4_firstRest 43 = .ok (.goto (-33), 3) := by decide +kernel
theorem dX4_firstRest_46 : decode cX4_firstRest 46 = .ok (.iconst (-1), 1) := by decide +kernel
theorem dX4_firstRest_47 : decode cX4_firstRest 47 = .ok (.ireturn, 1) := by decide +kernel
theorem dX4_firstChange_0 : decode cX4_firstChange 0 = .ok (.aload_n 0, 1) := by decide +kernel
theorem dX4_firstChange_1 : decode cX4_firstChange 1 = .ok (.getfield 21, 3) := by decide +kernel
theorem dX4_firstChange_4 : decode cX4_firstChange 4 = .ok (.aload_n 1, 1) := by decide +kernel
theorem dX4_firstChange_5 : decode cX4_firstChange 5 = .ok (.invokevirtual 32, 3) := by decide +kernel
theorem dX4_firstChange_8 : decode cX4_firstChange 8 = .ok (.iconst 1, 1) := by decide +kernel
theorem dX4_firstChange_9 : decode cX4_firstChange 9 = .ok (.istore_n 3, 1) := by decide +kernel
theorem dX4_firstChange_10 : decode cX4_firstChange 10 = .ok (.iload_n 3, 1) := by decide +kernel
theorem dX4_firstChange_11 : decode cX4_firstChange 11 = .ok (.bipush 100, 2) := by decide +kernel
theorem dX4_firstChange_13 : decode cX4_firstChange 13 = .ok (.if_icmp .gt 49, 3) := by decide +kernel
theorem dX4_firstChange_16 : decode cX4_firstChange 16 = .ok (.aload_n 0, 1) := by decide +kernel
theorem dX4_firstChange_17 : decode cX4_firstChange 17 = .ok (.getfield 21, 3) := by decide +kernel
theorem dX4_firstChange_20 : decode cX4_firstChange 20 = .ok (.invokevirtual 36, 3) := by decide +kernel
theorem dX4_firstChange_23 : decode cX4_firstChange 23 = .ok (.ifCond .eq 39, 3) := by decide +kernel
theorem dX4_firstChange_26 : decode cX4_firstChange 26 = .ok (.aload_n 0, 1) := by decide +kernel
theorem dX4_firstChange_27 : decode cX4_firstChange 27 = .ok (.getfield 12, 3) := by decide +kernel
theorem dX4_firstChange_30 : decode cX4_firstChange 30 = .ok (.aload_n 0, 1) := by decide +kernel
theorem dX4_firstChange_31 : decode cX4_firstChange 31 = .ok (.getfield 21, 3) := by decide +kernel
theorem dX4_firstChange_34 : decode cX4_firstChange 34 = .ok (.invokevirtual 40, 3) := by decide +kernel
theorem dX4_firstChange_37 : decode cX4_firstChange 37 = .ok (.pop, 1) := by decide +kernel
theorem dX4_firstChange_38 : decode cX4_firstChange 38 = .ok (.aload_n 0, 1) := by decide +kernel
theorem dX4_firstChange_39 : decode cX4_firstChange 39 = .ok (.getfield 21, 3) := by decide +kernel
theorem dX4_firstChange_42 : decode cX4_firstChange 42 = .ok (.iload_n 2, 1) := by decide +kernel
theorem dX4_firstChange_43 : decode cX4_firstChange 43 = .ok (.invokevirtual 44, 3) := by decide +kernel
theorem dX4_firstChange_46 : decode cX4_firstChange 46 = .ok (.aload_n 1, 1) := by decide +kernel
theorem dX4_firstChange_47 : decode cX4_firstChange 47 = .ok (.iload_n 2, 1) := by decide +kernel
theorem dX4_firstChange_48 : decode cX4_firstChange 48 = .ok (.invokevirtual 44, 3) := by decide +kernel
theorem dX4_firstChange_51 : decode cX4_firstChange 51 = .ok (.if_icmp .eq 5, 3) := by decide +kernel
theorem dX4_firstChange_54 : decode cX4_firstChange 54 = .ok (.iload_n 3, 1) := by decide +kernel
theorem dX4_firstChange_55 : decode cX4_firstChange 55 = .ok (.ireturn, 1) := by decide +kernel
theorem dX4_firstChange_56 : decode cX4_firstChange 56 = .ok (.iinc 3 1, 3) := by decide +kernel
theorem dX4_firstChange_59 : decode cX4_firstChange 59 = .ok (.goto (-49), 3) := by decide +kernel
theorem dX4_firstChange_62 : decode cX4_firstChange 62 = .ok (.iconst (-1), 1) := by decide +kernel
theorem dX4_firstChange_63 : decode cX4_firstChange 63 = .ok (.ireturn, 1) := by decide +kernel
theorem dX4_firstReturn_0 : decode cX4_firstReturn 0 = .ok (.aload_n 0, 1) := by decide +kernel
theorem dX4_firstReturn_1 : decode cX4_firstReturn 1 = .ok (.getfield 21, 3) := by decide +kernel
theorem dX4_firstReturn_4 : decode cX4_firstReturn 4 = .ok (.aload_n 1, 1) := by decide +kernel
theorem dX4_firstReturn_5 : decode cX4_firstReturn 5 = .ok (.invokevirtual 32, 3) := by decide +kernel
theorem dX4_firstReturn_8 : decode cX4_firstReturn 8 = .ok (.iconst 1, 1) := by decide +kernel
theorem dX4_firstReturn_9 : decode cX4_firstReturn 9 = .ok (.istore_n 2, 1) := by decide +kernel
theorem dX4_firstReturn_10 : decode cX4_firstReturn 10 = .ok (.iload_n 2, 1) := by decide +kernel
theorem dX4_firstReturn_11 : decode cX4_firstReturn 11 = .ok (.bipush 100, 2) := by decide +kernel
theorem dX4_firstReturn_13 : decode cX4_firstReturn 13 = .ok (.if_icmp .gt 48, 3) := by decide +kernel
theorem dX4_firstReturn_16 : decode cX4_firstReturn 16 = .ok (.aload_n 0, 1) := by decide +kernel
theorem dX4_firstReturn_17 : decode cX4_firstReturn 17 = .ok (.getfield 21, 3) := by decide +kernel
theorem dX4_firstReturn_20 : decode cX4_firstReturn 20 = .ok (.invokevirtual 36, 3) := by decide +kernel
theorem dX4_firstReturn_23 : decode cX4_firstReturn 23 = .ok (.ifCond .eq 15, 3) := by decide +kernel
theorem dX4_firstReturn_26 : decode cX4_firstReturn 26 = .ok (.aload_n 0, 1) := by decide +kernel
theorem dX4_firstReturn_27 : decode cX4_firstReturn 27 = .ok (.getfield 12, 3) := by decide +kernel
theorem dX4_firstReturn_30 : decode cX4_firstReturn 30 = .ok (.aload_n 0, 1) := by decide +kernel
theorem dX4_firstReturn_31 : decode cX4_firstReturn 31 = .ok (.getfield 21, 3) := by decide +kernel
theorem dX4_firstReturn_34 : decode cX4_firstReturn 34 = .ok (.invokevirtual 40, 3) := by decide +kernel
theorem dX4_firstReturn_37 : decode cX4_firstReturn 37 = .ok (.pop, 1) := by decide +kernel
theorem dX4_firstReturn_38 : decode cX4_firstReturn 38 = .ok (.aload_n 0, 1) := by decide +kernel
theorem dX4_firstReturn_39 : decode cX4_firstReturn 39 = .ok (.getfield 21, 3) := by decide +kernel
theorem dX4_firstReturn_42 : decode cX4_firstReturn 42 = .ok (.aload_n 1, 1) := by decide +kernel
theorem dX4_firstReturn_43 : decode cX4_firstReturn 43 = .ok (.sipush 276, 3) := by decide +kernel
theorem dX4_firstReturn_46 : decode cX4_firstReturn 46 = .ok (.iconst (-1), 1) := by decide +kernel
theorem dX4_firstReturn_47 : decode cX4_firstReturn 47 = .ok (.invokevirtual 48, 3) := by decide +kernel
theorem dX4_firstReturn_50 : decode cX4_firstReturn 50 = .ok (.ifCond .eq 5, 3) := by decide +kernel
theorem dX4_firstReturn_53 : decode cX4_firstReturn 53 = .ok (.iload_n 2, 1) := by decide +kernel
theorem dX4_firstReturn_54 : decode cX4_firstReturn 54 = .ok (.ireturn, 1) := by decide +kernel
theorem dX4_firstReturn_55 : decode cX4_firstReturn 55 = .ok (.iinc 2 1, 3) := by decide +kernel
theorem dX4_firstReturn_58 : decode cX4_firstReturn 58 = .ok (.goto (-48), 3) := by decide +kernel
theorem dX4_firstReturn_61 : decode cX4_firstReturn 61 = .ok (.iconst (-1), 1) := by decide +kernel
theorem dX4_firstReturn_62 : decode cX4_firstReturn 62 = .ok (.ireturn, 1) := by decide +kernel
theorem dX4_spoil_0 : decode cX4_spoil 0 = .ok (.aload_n 0, 1) := by decide +kernel
theorem dX4_spoil_1 : decode cX4_spoil 1 = .ok (.invokevirtual 52, 3) := by decide +kernel
theorem dX4_spoil_4 : decode cX4_spoil 4 = .ok (.aload_n 0, 1) := by decide +kernel
theorem dX4_spoil_5 : decode cX4_spoil 5 = .ok (.getfield 25, 3) := by decide +kernel
theorem dX4_spoil_8 : decode cX4_spoil 8 = .ok (.aload_n 1, 1) := by decide +kernel
theorem dX4_spoil_9 : decode cX4_spoil 9 = .ok (.invokevirtual 32, 3) := by decide +kernel
theorem dX4_spoil_12 : decode cX4_spoil 12 = .ok (.aload_n 0, 1) := by decide +kernel
theorem dX4_spoil_13 : decode cX4_spoil 13 = .ok (.aload_n 0, 1) := by decide +kernel
theorem dX4_spoil_14 : decode cX4_spoil 14 = .ok (.getfield 25, 3) := by decide +kernel
theorem dX4_spoil_17 : decode cX4_spoil 17 = .ok (.iload 4, 2) := by decide +kernel
theorem dX4_spoil_19 : decode cX4_spoil 19 = .ok (.invokevirtual 55, 3) := by decide +kernel
theorem dX4_spoil_22 : decode cX4_spoil 22 = .ok (.ifCond .ne 7, 3) := by decide +kernel
theorem dX4_spoil_25 : decode cX4_spoil 25 = .ok (.iconst 1, 1) := by decide +kernel
theorem dX4_spoil_26 : decode cX4_spoil 26 = .ok (.goto 4, 3) := by decide +kernel
theorem dX4_spoil_29 : decode cX4_spoil 29 = .ok (.iconst 0, 1) := by decide +kernel
theorem dX4_spoil_30 : decode cX4_spoil 30 = .ok (.istore 6, 2) := by decide +kernel
theorem dX4_spoil_32 : decode cX4_spoil 32 = .ok (.iconst 2, 1) := by decide +kernel
theorem dX4_spoil_33 : decode cX4_spoil 33 = .ok (.iload_n 2, 1) := by decide +kernel
theorem dX4_spoil_34 : decode cX4_spoil 34 = .ok (.imul, 1) := by decide +kernel
theorem dX4_spoil_35 : decode cX4_spoil 35 = .ok (.istore 7, 2) := by decide +kernel
theorem dX4_spoil_37 : decode cX4_spoil 37 = .ok (.iload 7, 2) := by decide +kernel
theorem dX4_spoil_39 : decode cX4_spoil 39 = .ok (.iconst 2, 1) := by decide +kernel
theorem dX4_spoil_40 : decode cX4_spoil 40 = .ok (.iload_n 2, 1) := by decide +kernel
theorem dX4_spoil_41 : decode cX4_spoil 41 = .ok (.iload_n 3, 1) := by decide +kernel
theorem dX4_spoil_42 : decode cX4_spoil 42 = .ok (.iadd, 1) := by decide +kernel
theorem dX4_spoil_43 : decode cX4_spoil 43 = .ok (.imul, 1) := by decide +kernel
theorem dX4_spoil_44 : decode cX4_spoil 44 = .ok (.if_icmp .ge 85, 3) := by decide +kernel
theorem dX4_spoil_47 : decode cX4_spoil 47 = .ok (.iconst 0, 1) := by decide +kernel
theorem dX4_spoil_48 : decode cX4_spoil 48 = .ok (.istore 8, 2) := by decide +kernel
theorem dX4_spoil_50 : decode cX4_spoil 50 = .ok (.iload 8, 2) := by decide +kernel
theorem dX4_spoil_52 : decode cX4_spoil 52 = .ok (.bipush 16, 2) := by decide +kernel
theorem dX4_spoil_54 : decode cX4_spoil 54 = .ok (.if_icmp .ge 69, 3) := by decide +kernel
theorem dX4_spoil_57 : decode cX4_spoil 57 = .ok (.iload 8, 2) := by decide +kernel
theorem dX4_spoil_59 : decode cX4_spoil 59 = .ok (.aload_n 1, 1) := by decide +kernel
theorem dX4_spoil_60 : decode cX4_spoil 60 = .ok (.iload 7, 2) := by decide +kernel
theorem dX4_spoil_62 : decode cX4_spoil 62 = .ok (.invokevirtual 59, 3) := by decide +kernel
theorem dX4_spoil_65 : decode cX4_spoil 65 = .ok (.if_icmp .eq 52, 3) := by decide +kernel
theorem dX4_spoil_68 : decode cX4_spoil 68 = .ok (.aload_n 0, 1) := by decide +kernel
theorem dX4_spoil_69 : decode cX4_spoil 69 = .ok (.getfield 21, 3) := by decide +kernel
theorem dX4_spoil_72 : decode cX4_spoil 72 = .ok (.aload_n 1, 1) := by decide +kernel
theorem dX4_spoil_73 : decode cX4_spoil 73 = .ok (.invokevirtual 32, 3) := by decide +kernel
theorem dX4_spoil_76 : decode cX4_spoil 76 = .ok (.aload_n 0, 1) := by decide +kernel
theorem dX4_spoil_77 : decode cX4_spoil 77 = .ok (.getfield 21, 3) := by decide +kernel
theorem dX4_spoil_80 : decode cX4_spoil 80 = .ok (.iload 7, 2) := by decide +kernel
theorem dX4_spoil_82 : decode cX4_spoil 82 = .ok (.iload 8, 2) := by decide +kernel
theorem dX4_spoil_84 : decode cX4_spoil 84 = .ok (.invokevirtual 62, 3) := by decide +kernel
theorem dX4_spoil_87 : decode cX4_spoil 87 = .ok (.aload_n 0, 1) := by decide +kernel
theorem dX4_spoil_88 : decode cX4_spoil 88 = .ok (.aload_n 0, 1) := by decide +kernel
theorem dX4_spoil_89 : decode cX4_spoil 89 = .ok (.getfield 21, 3) := by decide +kernel
theorem dX4_spoil_92 : decode cX4_spoil 92 = .ok (.iload 4, 2) := by decide +kernel
theorem dX4_spoil_94 : decode cX4_spoil 94 = .ok (.invokevirtual 55, 3) := by decide +kernel
theorem dX4_spoil_97 : decode cX4_spoil 97 = .ok (.istore 9, 2) := by decide +kernel
theorem dX4_spoil_99 : decode cX4_spoil 99 = .ok (.aload_n 0, 1) := by decide +kernel
theorem dX4_spoil_100 : decode cX4_spoil 100 = .ok (.iload 7, 2) := by decide +kernel
theorem dX4_spoil_102 : decode cX4_spoil 102 = .ok (.iload 8, 2) := by decide +kernel
theorem dX4_spoil_104 : decode cX4_spoil 104 = .ok (.aload_n 0, 1) := by decide +kernel
theorem dX4_spoil_105 : decode cX4_spoil 105 = .ok (.iload 7, 2) := by decide +kernel
theorem dX4_spoil_107 : decode cX4_spoil 107 = .ok (.iload 9, 2) := by decide +kernel
theorem dX4_spoil_109 : decode cX4_spoil 109 = .ok (.iload 6, 2) := by decide +kernel
theorem dX4_spoil_111 : decode cX4_spoil 111 = .ok (.invokevirtual 66, 3) := by decide +kernel
theorem dX4_spoil_114 : decode cX4_spoil 114 = .ok (.invokevirtual 70, 3) := by decide +kernel
theorem dX4_spoil_117 : decode cX4_spoil 117 = .ok (.iinc 8 1, 3) := by decide +kernel
theorem dX4_spoil_120 : decode cX4_spoil 120 = .ok (.goto (-70), 3) := by decide +kernel
theorem dX4_spoil_123 : decode cX4_spoil 123 = .ok (.iinc 7 1, 3) := by decide +kernel
theorem dX4_spoil_126 : decode cX4_spoil 126 = .ok (.goto (-89), 3) := by decide +kernel
theorem dX4_spoil_129 : decode cX4_spoil 129 = .ok (.aload_n 0, 1) := by decide +kernel
theorem dX4_spoil_130 : decode cX4_spoil 130 = .ok (.iload 5, 2) := by decide +kernel
theorem dX4_spoil_132 : decode cX4_spoil 132 = .ok (.invokevirtual 74, 3) := by decide +kernel
theorem dX4_spoil_135 : decode cX4_spoil 135 = .ok (.ireturn, 1) := by decide +kernel
theorem dX4_runToFault_0 : decode cX4_runToFault 0 = .ok (.iconst 0, 1) := by decide +kernel
theorem dX4_runToFault_1 : decode cX4_runToFault 1 = .ok (.istore_n 3, 1) := by decide +kernel
theorem dX4_runToFault_2 : decode cX4_runToFault 2 = .ok (.iconst 0, 1) := by decide +kernel
theorem dX4_runToFault_3 : decode cX4_runToFault 3 = .ok (.istore 4, 2) := by decide +kernel
theorem dX4_runToFault_5 : decode cX4_runToFault 5 = .ok (.iload 4, 2) := by decide +kernel
theorem dX4_runToFault_7 : decode cX4_runToFault 7 = .ok (.iload_n 2, 1) := by decide +kernel
theorem dX4_runToFault_8 : decode cX4_runToFault 8 = .ok (.if_icmp .ge 29, 3) := by decide +kernel
theorem dX4_runToFault_11 : decode cX4_runToFault 11 = .ok (.aload_n 1, 1) := by decide +kernel
theorem dX4_runToFault_12 : decode cX4_runToFault 12 = .ok (.invokevirtual 36, 3) := by decide +kernel
theorem dX4_runToFault_15 : decode cX4_runToFault 15 = .ok (.ifCond .eq 22, 3) := by decide +kernel
theorem dX4_runToFault_18 : decode cX4_runToFault 18 = .ok (.iload_n 3, 1) := by decide +kernel
theorem dX4_runToFault_19 : decode cX4_runToFault 19 = .ok (.ifCond .ne 18, 3) := by decide +kernel
theorem dX4_runToFault_22 : decode cX4_runToFault 22 = .ok (.aload_n 0, 1) := by decide +kernel
theorem dX4_runToFault_23 : decode cX4_runToFault 23 = .ok (.getfield 12, 3) := by decide +kernel
theorem dX4_runToFault_26 : decode cX4_runToFault 26 = .ok (.aload_n 1, 1) := by decide +kernel
theorem dX4_runToFault_27 : decode cX4_runToFault 27 = .ok (.invokevirtual 40, 3) := by decide +kernel
theorem dX4_runToFault_30 : decode cX4_runToFault 30 = .ok (.istore_n 3, 1) := by decide +kernel
theorem dX4_runToFault_31 : decode cX4_runToFault 31 = .ok (.iinc 4 1, 3) := by decide +kernel
theorem dX4_runToFault_34 : decode cX4_runToFault 34 = .ok (.goto (-29), 3) := by decide +kernel
theorem dX4_runToFault_37 : decode cX4_runToFault 37 = .ok (.iload_n 3, 1) := by decide +kernel
theorem dX4_runToFault_38 : decode cX4_runToFault 38 = .ok (.ireturn, 1) := by decide +kernel
theorem dX4_verdict_0 : decode cX4_verdict 0 = .ok (.iload_n 2, 1) := by decide +kernel
theorem dX4_verdict_1 : decode cX4_verdict 1 = .ok (.iconst 4, 1) := by decide +kernel
theorem dX4_verdict_2 : decode cX4_verdict 2 = .ok (.if_icmp .eq 8, 3) := by decide +kernel
theorem dX4_verdict_5 : decode cX4_verdict 5 = .ok (.iload_n 2, 1) := by decide +kernel
theorem dX4_verdict_6 : decode cX4_verdict 6 = .ok (.iconst 5, 1) := by decide +kernel
theorem dX4_verdict_7 : decode cX4_verdict 7 = .ok (.if_icmp .ne 7, 3) := by decide +kernel
theorem dX4_verdict_10 : decode cX4_verdict 10 = .ok (.iconst 1, 1) := by decide +kernel
theorem dX4_verdict_11 : decode cX4_verdict 11 = .ok (.goto 4, 3) := by decide +kernel
theorem dX4_verdict_14 : decode cX4_verdict 14 = .ok (.iconst 0, 1) := by decide +kernel
theorem dX4_verdict_15 : decode cX4_verdict 15 = .ok (.istore 4, 2) := by decide +kernel
theorem dX4_verdict_17 : decode cX4_verdict 17 = .ok (.iload 4, 2) := by decide +kernel
theorem dX4_verdict_19 : decode cX4_verdict 19 = .ok (.ifCond .eq 37, 3) := by decide +kernel
theorem dX4_verdict_22 : decode cX4_verdict 22 = .ok (.aload_n 0, 1) := by decide +kernel
theorem dX4_verdict_23 : decode cX4_verdict 23 = .ok (.getfield 21, 3) := by decide +kernel
theorem dX4_verdict_26 : decode cX4_verdict 26 = .ok (.sipush 284, 3) := by decide +kernel
theorem dX4_verdict_29 : decode cX4_verdict 29 = .ok (.invokevirtual 44, 3) := by decide +kernel
theorem dX4_verdict_32 : decode cX4_verdict 32 = .ok (.iload_n 1, 1) := by decide +kernel
theorem dX4_verdict_33 : decode cX4_verdict 33 = .ok (.iconst 1, 1) := by decide +kernel
theorem dX4_verdict_34 : decode cX4_verdict 34 = .ok (.ishr, 1) := by decide +kernel
theorem dX4_verdict_35 : decode cX4_verdict 35 = .ok (.if_icmp .ne 21, 3) := by decide +kernel
theorem dX4_verdict_38 : decode cX4_verdict 38 = .ok (.aload_n 0, 1) := by decide +kernel
theorem dX4_verdict_39 : decode cX4_verdict 39 = .ok (.getfield 21, 3) := by decide +kernel
theorem dX4_verdict_42 : decode cX4_verdict 42 = .ok (.sipush 285, 3) := by decide +kernel
theorem dX4_verdict_45 : decode cX4_verdict 45 = .ok (.invokevirtual 44, 3) := by decide +kernel
theorem dX4_verdict_48 : decode cX4_verdict 48 = .ok (.iload_n 1, 1) := by decide +kernel
theorem dX4_verdict_49 : decode cX4_verdict 49 = .ok (.iconst 1, 1) := by decide +kernel
theorem dX4_verdict_50 : decode cX4_verdict 50 = .ok (.iand, 1) := by decide +kernel
theorem dX4_verdict_51 : decode cX4_verdict 51 = .ok (.if_icmp .ne 5, 3) := by decide +kernel
theorem dX4_verdict_54 : decode cX4_verdict 54 = .ok (.iconst 0, 1) := by decide +kernel
theorem dX4_verdict_55 : decode cX4_verdict 55 = .ok (.ireturn, 1) := by decide +kernel
theorem dX4_verdict_56 : decode cX4_verdict 56 = .ok (.iload_n 2, 1) := by decide +kernel
theorem dX4_verdict_57 : decode cX4_verdict 57 = .ok (.ifCond .ne 31, 3) := by decide +kernel
theorem dX4_verdict_60 : decode cX4_verdict 60 = .ok (.iload_n 3, 1) := by decide +kernel
theorem dX4_verdict_61 : decode cX4_verdict 61 = .ok (.ifCond .eq 27, 3) := by decide +kernel
theorem dX4_verdict_64 : decode cX4_verdict 64 = .ok (.aload_n 0, 1) := by decide +kernel
theorem dX4_verdict_65 : decode cX4_verdict 65 = .ok (.getfield 21, 3) := by decide +kernel
theorem dX4_verdict_68 : decode cX4_verdict 68 = .ok (.aload_n 0, 1) := by decide +kernel
theorem dX4_verdict_69 : decode cX4_verdict 69 = .ok (.getfield 25, 3) := by decide +kernel
theorem dX4_verdict_72 : decode cX4_verdict 72 = .ok (.sipush 266, 3) := by decide +kernel
theorem dX4_verdict_75 : decode cX4_verdict 75 = .ok (.iload_n 1, 1) := by decide +kernel
theorem dX4_verdict_76 : decode cX4_verdict 76 = .ok (.iconst 1, 1) := by decide +kernel
theorem dX4_verdict_77 : decode cX4_verdict 77 = .ok (.ishr, 1) := by decide +kernel
theorem dX4_verdict_78 : decode cX4_verdict 78 = .ok (.invokevirtual 48, 3) := by decide +kernel
theorem dX4_verdict_81 : decode cX4_verdict 81 = .ok (.ifCond .eq 7, 3) := by decide +kernel
theorem dX4_verdict_84 : decode cX4_verdict 84 = .ok (.iconst 1, 1) := by decide +kernel
theorem dX4_verdict_85 : decode cX4_verdict 85 = .ok (.goto 4, 3) := by decide +kernel
theorem dX4_verdict_88 : decode cX4_verdict 88 = .ok (.iconst 2, 1) := by decide +kernel
theorem dX4_verdict_89 : decode cX4_verdict 89 = .ok (.ireturn, 1) := by decide +kernel
theorem dX4_judge_0 : decode cX4_judge 0 = .ok (.aload_n 0, 1) := by decide +kernel
theorem dX4_judge_1 : decode cX4_judge 1 = .ok (.getfield 28, 3) := by decide +kernel
theorem dX4_judge_4 : decode cX4_judge 4 = .ok (.iload_n 3, 1) := by decide +kernel
theorem dX4_judge_5 : decode cX4_judge 5 = .ok (.dup2, 1) := by decide +kernel
theorem dX4_judge_6 : decode cX4_judge 6 = .ok (.iaload, 1) := by decide +kernel
theorem dX4_judge_7 : decode cX4_judge 7 = .ok (.iconst 1, 1) := by decide +kernel
theorem dX4_judge_8 : decode cX4_judge 8 = .ok (.iadd, 1) := by decide +kernel
theorem dX4_judge_9 : decode cX4_judge 9 = .ok (.iastore, 1) := by decide +kernel
theorem dX4_judge_10 : decode cX4_judge 10 = .ok (.iload_n 3, 1) := by decide +kernel
theorem dX4_judge_11 : decode cX4_judge 11 = .ok (.iconst 2, 1) := by decide +kernel
theorem dX4_judge_12 : decode cX4_judge 12 = .ok (.if_icmp .ne 25, 3) := by decide +kernel
theorem dX4_judge_15 : decode cX4_judge 15 = .ok (.aload_n 0, 1) := by decide +kernel
theorem dX4_judge_16 : decode cX4_judge 16 = .ok (.getfield 28, 3) := by decide +kernel
theorem dX4_judge_19 : decode cX4_judge 19 = .ok (.iconst 3, 1) := by decide +kernel
theorem dX4_judge_20 : decode cX4_judge 20 = .ok (.iaload, 1) := by decide +kernel
theorem dX4_judge_21 : decode cX4_judge 21 = .ok (.iconst (-1), 1) := by decide +kernel
theorem dX4_judge_22 : decode cX4_judge 22 = .ok (.if_icmp .ne 15, 3) := by decide +kernel
theorem dX4_judge_25 : decode cX4_judge 25 = .ok (.aload_n 0, 1) := by decide +kernel
theorem dX4_judge_26 : decode cX4_judge 26 = .ok (.getfield 28, 3) := by decide +kernel
theorem dX4_judge_29 : decode cX4_judge 29 = .ok (.iconst 3, 1) := by decide +kernel
theorem dX4_judge_30 : decode cX4_judge 30 = .ok (.bipush 100, 2) := by decide +kernel
theorem dX4_judge_32 : decode cX4_judge 32 = .ok (.iload_n 1, 1) := by decide +kernel
theorem dX4_judge_33 : decode cX4_judge 33 = .ok (.imul, 1) := by decide +kernel
theorem dX4_judge_34 : decode cX4_judge 34 = .ok (.iload_n 2, 1) := by decide +kernel
theorem dX4_judge_35 : decode cX4_judge 35 = .ok (.iadd, 1) := by decide +kernel
theorem dX4_judge_36 : decode cX4_judge 36 = .ok (.iastore, 1) := by decide +kernel
theorem dX4_judge_37 : decode cX4_judge 37 = .ok (.return_, 1) := by decide +kernel
theorem dX4_blame_0 : decode cX4_blame 0 = .ok (.aload_n 0, 1) := by decide +kernel
theorem dX4_blame_1 : decode cX4_blame 1 = .ok (.invokevirtual 52, 3) := by decide +kernel
theorem dX4_blame_4 : decode cX4_blame 4 = .ok (.aload_n 0, 1) := by decide +kernel
theorem dX4_blame_5 : decode cX4_blame 5 = .ok (.getfield 28, 3) := by decide +kernel
theorem dX4_blame_8 : decode cX4_blame 8 = .ok (.iconst 1, 1) := by decide +kernel
theorem dX4_blame_9 : decode cX4_blame 9 = .ok (.iconst (-1), 1) := by decide +kernel
theorem dX4_blame_10 : decode cX4_blame 10 = .ok (.iastore, 1) := by decide +kernel
theorem dX4_blame_11 : decode cX4_blame 11 = .ok (.aload_n 1, 1) := by decide +kernel
theorem dX4_blame_12 : decode cX4_blame 12 = .ok (.getfield 76, 3) := by decide +kernel
theorem dX4_blame_15 : decode cX4_blame 15 = .ok (.astore 5, 2) := by decide +kernel
theorem dX4_blame_17 : decode cX4_blame 17 = .ok (.iconst 2, 1) := by decide +kernel
theorem dX4_blame_18 : decode cX4_blame 18 = .ok (.iload_n 2, 1) := by decide +kernel
theorem dX4_blame_19 : decode cX4_blame 19 = .ok (.imul, 1) := by decide +kernel
theorem dX4_blame_20 : decode cX4_blame 20 = .ok (.istore 6, 2) := by decide +kernel
theorem dX4_blame_22 : decode cX4_blame 22 = .ok (.iload 6, 2) := by decide +kernel
theorem dX4_blame_24 : decode cX4_blame 24 = .ok (.iconst 2, 1) := by decide +kernel
theorem dX4_blame_25 : decode cX4_blame 25 = .ok (.iload_n 2, 1) := by decide +kernel
theorem dX4_blame_26 : decode cX4_blame 26 = .ok (.iload_n 3, 1) := by decide +kernel
theorem dX4_blame_27 : decode cX4_blame 27 = .ok (.iadd, 1) := by decide +kernel
theorem dX4_blame_28 : decode cX4_blame 28 = .ok (.imul, 1) := by decide +kernel
theorem dX4_blame_29 : decode cX4_blame 29 = .ok (.if_icmp .ge 108, 3) := by decide +kernel
theorem dX4_blame_32 : decode cX4_blame 32 = .ok (.iconst 0, 1) := by decide +kernel
theorem dX4_blame_33 : decode cX4_blame 33 = .ok (.istore 7, 2) := by decide +kernel
theorem dX4_blame_35 : decode cX4_blame 35 = .ok (.iload 7, 2) := by decide +kernel
theorem dX4_blame_37 : decode cX4_blame 37 = .ok (.bipush 16, 2) := by decide +kernel
theorem dX4_blame_39 : decode cX4_blame 39 = .ok (.if_icmp .ge 92, 3) := by decide +kernel
theorem dX4_blame_42 : decode cX4_blame 42 = .ok (.aload_n 0, 1) := by decide +kernel
theorem dX4_blame_43 : decode cX4_blame 43 = .ok (.getfield 21, 3) := by decide +kernel
theorem dX4_blame_46 : decode cX4_blame 46 = .ok (.aload 5, 2) := by decide +kernel
theorem dX4_blame_48 : decode cX4_blame 48 = .ok (.invokevirtual 32, 3) := by decide +kernel
theorem dX4_blame_51 : decode cX4_blame 51 = .ok (.aload_n 0, 1) := by decide +kernel
theorem dX4_blame_52 : decode cX4_blame 52 = .ok (.getfield 21, 3) := by decide +kernel
theorem dX4_blame_55 : decode cX4_blame 55 = .ok (.iload 6, 2) := by decide +kernel
theorem dX4_blame_57 : decode cX4_blame 57 = .ok (.iload 7, 2) := by decide +kernel
theorem dX4_blame_59 : decode cX4_blame 59 = .ok (.invokevirtual 62, 3) := by decide +kernel
theorem dX4_blame_62 : decode cX4_blame 62 = .ok (.iload 7, 2) := by decide +kernel
theorem dX4_blame_64 : decode cX4_blame 64 = .ok (.aload 5, 2) := by decide +kernel
theorem dX4_blame_66 : decode cX4_blame 66 = .ok (.iload 6, 2) := by decide +kernel
theorem dX4_blame_68 : decode cX4_blame 68 = .ok (.invokevirtual 59, 3) := by decide +kernel
theorem dX4_blame_71 : decode cX4_blame 71 = .ok (.if_icmp .eq 54, 3) := by decide +kernel
theorem dX4_blame_74 : decode cX4_blame 74 = .ok (.aload_n 0, 1) := by decide +kernel
theorem dX4_blame_75 : decode cX4_blame 75 = .ok (.aload_n 1, 1) := by decide +kernel
theorem dX4_blame_76 : decode cX4_blame 76 = .ok (.invokevirtual 81, 3) := by decide +kernel
theorem dX4_blame_79 : decode cX4_blame 79 = .ok (.ifCond .eq 46, 3) := by decide +kernel
theorem dX4_blame_82 : decode cX4_blame 82 = .ok (.aload_n 0, 1) := by decide +kernel
theorem dX4_blame_83 : decode cX4_blame 83 = .ok (.getfield 28, 3) := by decide +kernel
theorem dX4_blame_86 : decode cX4_blame 86 = .ok (.iconst 0, 1) := by decide +kernel
theorem dX4_blame_87 : decode cX4_blame 87 = .ok (.dup2, 1) := by decide +kernel
theorem dX4_blame_88 : decode cX4_blame 88 = .ok (.iaload, 1) := by decide +kernel
theorem dX4_blame_89 : decode cX4_blame 89 = .ok (.iconst 1, 1) := by decide +kernel
theorem dX4_blame_90 : decode cX4_blame 90 = .ok (.iadd, 1) := by decide +kernel
theorem dX4_blame_91 : decode cX4_blame 91 = .ok (.iastore, 1) := by decide +kernel
theorem dX4_blame_92 : decode cX4_blame 92 = .ok (.aload_n 0, 1) := by decide +kernel
theorem dX4_blame_93 : decode cX4_blame 93 = .ok (.getfield 28, 3) := by decide +kernel
theorem dX4_blame_96 : decode cX4_blame 96 = .ok (.iconst 1, 1) := by decide +kernel
theorem dX4_blame_97 : decode cX4_blame 97 = .ok (.aload_n 0, 1) := by decide +kernel
theorem dX4_blame_98 : decode cX4_blame 98 = .ok (.getfield 28, 3) := by decide +kernel
theorem dX4_blame_101 : decode cX4_blame 101 = .ok (.iconst 1, 1) := by decide +kernel
theorem dX4_blame_102 : decode cX4_blame 102 = .ok (.iaload, 1) := by decide +kernel
theorem dX4_blame_103 : decode cX4_blame 103 = .ok (.iconst (-1), 1) := by decide +kernel
theorem dX4_blame_104 : decode cX4_blame 104 = .ok (.if_icmp .ne 14, 3) := by decide +kernel
theorem dX4_blame_107 : decode cX4_blame 107 = .ok (.bipush 100, 2) := by decide +kernel
theorem dX4_blame_109 : decode cX4_blame 109 = .ok (.iload 6, 2) := by decide +kernel
theorem dX4_blame_111 : decode cX4_blame 111 = .ok (.imul, 1) := by decide +kernel
theorem dX4_blame_112 : decode cX4_blame 112 = .ok (.iload 7, 2) := by decide +kernel
theorem dX4_blame_114 : decode cX4_blame 114 = .ok (.iadd, 1) := by decide +kernel
theorem dX4_blame_115 : decode cX4_blame 115 = .ok (.goto 9, 3) := by decide +kernel
theorem dX4_blame_118 : decode cX4_blame 118 = .ok (.aload_n 0, 1) := by decide +kernel
theorem dX4_blame_119 : decode cX4_blame 119 = .ok (.getfield 28, 3) := by decide +kernel
theorem dX4_blame_122 : decode cX4_blame 122 = .ok (.iconst 1, 1) := by decide +kernel
theorem dX4_blame_123 : decode cX4_blame 123 = .ok (.iaload, 1) := by decide +kernel
theorem dX4_blame_124 : decode cX4_blame 124 = .ok (.iastore, 1) := by decide +kernel
theorem dX4_blame_125 : decode cX4_blame 125 = .ok (.iinc 7 1, 3) := by decide +kernel
theorem dX4_blame_128 : decode cX4_blame 128 = .ok (.goto (-93), 3) := by decide +kernel
theorem dX4_blame_131 : decode cX4_blame 131 = .ok (.iinc 6 1, 3) := by decide +kernel
theorem dX4_blame_134 : decode cX4_blame 134 = .ok (.goto (-112), 3) := by decide +kernel
theorem dX4_blame_137 : decode cX4_blame 137 = .ok (.aload_n 0, 1) := by decide +kernel
theorem dX4_blame_138 : decode cX4_blame 138 = .ok (.getfield 21, 3) := by decide +kernel
theorem dX4_blame_141 : decode cX4_blame 141 = .ok (.aload 5, 2) := by decide +kernel
theorem dX4_blame_143 : decode cX4_blame 143 = .ok (.invokevirtual 32, 3) := by decide +kernel
theorem dX4_blame_146 : decode cX4_blame 146 = .ok (.aload_n 0, 1) := by decide +kernel
theorem dX4_blame_147 : decode cX4_blame 147 = .ok (.getfield 28, 3) := by decide +kernel
theorem dX4_blame_150 : decode cX4_blame 150 = .ok (.iconst 2, 1) := by decide +kernel
theorem dX4_blame_151 : decode cX4_blame 151 = .ok (.aload_n 0, 1) := by decide +kernel
theorem dX4_blame_152 : decode cX4_blame 152 = .ok (.aload_n 1, 1) := by decide +kernel
theorem dX4_blame_153 : decode cX4_blame 153 = .ok (.invokevirtual 81, 3) := by decide +kernel
theorem dX4_blame_156 : decode cX4_blame 156 = .ok (.ifCond .eq 7, 3) := by decide +kernel
theorem dX4_blame_159 : decode cX4_blame 159 = .ok (.iconst 1, 1) := by decide +kernel
theorem dX4_blame_160 : decode cX4_blame 160 = .ok (.goto 4, 3) := by decide +kernel
theorem dX4_blame_163 : decode cX4_blame 163 = .ok (.iconst 0, 1) := by decide +kernel
theorem dX4_blame_164 : decode cX4_blame 164 = .ok (.iastore, 1) := by decide +kernel
theorem dX4_blame_165 : decode cX4_blame 165 = .ok (.aload_n 0, 1) := by decide +kernel
theorem dX4_blame_166 : decode cX4_blame 166 = .ok (.iload 4, 2) := by decide +kernel
theorem dX4_blame_168 : decode cX4_blame 168 = .ok (.invokevirtual 74, 3) := by decide +kernel
theorem dX4_blame_171 : decode cX4_blame 171 = .ok (.ireturn, 1) := by decide +kernel
theorem dX4_bears_0 : decode cX4_bears 0 = .ok (.iconst 1, 1) := by decide +kernel
theorem dX4_bears_1 : decode cX4_bears 1 = .ok (.istore_n 2, 1) := by decide +kernel
theorem dX4_bears_2 : decode cX4_bears 2 = .ok (.aload_n 1, 1) := by decide +kernel
theorem dX4_bears_3 : decode cX4_bears 3 = .ok (.invokevirtual 85, 3) := by decide +kernel
theorem dX4_bears_6 : decode cX4_bears 6 = .ok (.istore_n 3, 1) := by decide +kernel
theorem dX4_bears_7 : decode cX4_bears 7 = .ok (.iconst 0, 1) := by decide +kernel
theorem dX4_bears_8 : decode cX4_bears 8 = .ok (.istore 4, 2) := by decide +kernel
theorem dX4_bears_10 : decode cX4_bears 10 = .ok (.iload 4, 2) := by decide +kernel
theorem dX4_bears_12 : decode cX4_bears 12 = .ok (.iload_n 3, 1) := by decide +kernel
theorem dX4_bears_13 : decode cX4_bears 13 = .ok (.if_icmp .gt 71, 3) := by decide +kernel
theorem dX4_bears_16 : decode cX4_bears 16 = .ok (.iload 4, 2) := by decide +kernel
theorem dX4_bears_18 : decode cX4_bears 18 = .ok (.bipush 60, 2) := by decide +kernel
theorem dX4_bears_20 : decode cX4_bears 20 = .ok (.if_icmp .gt 64, 3) := by decide +kernel
theorem dX4_bears_23 : decode cX4_bears 23 = .ok (.aload_n 1, 1) := by decide +kernel
theorem dX4_bears_24 : decode cX4_bears 24 = .ok (.aload_n 0, 1) := by decide +kernel
theorem dX4_bears_25 : decode cX4_bears 25 = .ok (.getfield 21, 3) := by decide +kernel
theorem dX4_bears_28 : decode cX4_bears 28 = .ok (.iload 4, 2) := by decide +kernel
theorem dX4_bears_30 : decode cX4_bears 30 = .ok (.invokevirtual 89, 3) := by decide +kernel
theorem dX4_bears_33 : decode cX4_bears 33 = .ok (.ifCond .ne 5, 3) := by decide +kernel
theorem dX4_bears_36 : decode cX4_bears 36 = .ok (.iconst 0, 1) := by decide +kernel
theorem dX4_bears_37 : decode cX4_bears 37 = .ok (.ireturn, 1) := by decide +kernel
theorem dX4_bears_38 : decode cX4_bears 38 = .ok (.iload_n 2, 1) := by decide +kernel
theorem dX4_bears_39 : decode cX4_bears 39 = .ok (.ifCond .eq 39, 3) := by decide +kernel
theorem dX4_bears_42 : decode cX4_bears 42 = .ok (.iload 4, 2) := by decide +kernel
theorem dX4_bears_44 : decode cX4_bears 44 = .ok (.iload_n 3, 1) := by decide +kernel
theorem dX4_bears_45 : decode cX4_bears 45 = .ok (.if_icmp .ge 33, 3) := by decide +kernel
theorem dX4_bears_48 : decode cX4_bears 48 = .ok (.aload_n 0, 1) := by decide +kernel
theorem dX4_bears_49 : decode cX4_bears 49 = .ok (.getfield 21, 3) := by decide +kernel
theorem dX4_bears_52 : decode cX4_bears 52 = .ok (.invokevirtual 36, 3) := by decide +kernel
theorem dX4_bears_55 : decode cX4_bears 55 = .ok (.ifCond .eq 23, 3) := by decide +kernel
theorem dX4_bears_58 : decode cX4_bears 58 = .ok (.aload_n 0, 1) := by decide +kernel
theorem dX4_bears_59 : decode cX4_bears 59 = .ok (.getfield 12, 3) := by decide +kernel
theorem dX4_bears_62 : decode cX4_bears 62 = .ok (.aload_n 0, 1) := by decide +kernel
theorem dX4_bears_63 : decode cX4_bears 63 = .ok (.getfield 21, 3) := by decide +kernel
theorem dX4_bears_66 : decode cX4_bears 66 = .ok (.invokevirtual 40, 3) := by decide +kernel
theorem dX4_bears_69 : decode cX4_bears 69 = .ok (.ifCond .ne 7, 3) := by decide +kernel
theorem dX4_bears_72 : decode cX4_bears 72 = .ok (.iconst 1, 1) := by decide +kernel
theorem dX4_bears_73 : decode cX4_bears 73 = .ok (.goto 4, 3) := by decide +kernel
theorem dX4_bears_76 : decode cX4_bears 76 = .ok (.iconst 0, 1) := by decide +kernel
theorem dX4_bears_77 : decode cX4_bears 77 = .ok (.istore_n 2, 1) := by decide +kernel
theorem dX4_bears_78 : decode cX4_bears 78 = .ok (.iinc 4 1, 3) := by decide +kernel
theorem dX4_bears_81 : decode cX4_bears 81 = .ok (.goto (-71), 3) := by decide +kernel
theorem dX4_bears_84 : decode cX4_bears 84 = .ok (.iconst 1, 1) := by decide +kernel
theorem dX4_bears_85 : decode cX4_bears 85 = .ok (.ireturn, 1) := by decide +kernel
theorem dX4_age_0 : decode cX4_age 0 = .ok (.aload_n 0, 1) := by decide +kernel
theorem dX4_age_1 : decode cX4_age 1 = .ok (.invokevirtual 52, 3) := by decide +kernel
theorem dX4_age_4 : decode cX4_age 4 = .ok (.aload_n 0, 1) := by decide +kernel
theorem dX4_age_5 : decode cX4_age 5 = .ok (.getfield 21, 3) := by decide +kernel
theorem dX4_age_8 : decode cX4_age 8 = .ok (.aload_n 1, 1) := by decide +kernel
theorem dX4_age_9 : decode cX4_age 9 = .ok (.invokevirtual 32, 3) := by decide +kernel
theorem dX4_age_12 : decode cX4_age 12 = .ok (.aload_n 0, 1) := by decide +kernel
theorem dX4_age_13 : decode cX4_age 13 = .ok (.iload_n 2, 1) := by decide +kernel
theorem dX4_age_14 : decode cX4_age 14 = .ok (.putfield 92, 3) := by decide +kernel
theorem dX4_age_17 : decode cX4_age 17 = .ok (.iconst 0, 1) := by decide +kernel
theorem dX4_age_18 : decode cX4_age 18 = .ok (.istore 5, 2) := by decide +kernel
theorem dX4_age_20 : decode cX4_age 20 = .ok (.iload 5, 2) := by decide +kernel
theorem dX4_age_22 : decode cX4_age 22 = .ok (.iload_n 3, 1) := by decide +kernel
theorem dX4_age_23 : decode cX4_age 23 = .ok (.if_icmp .ge 62, 3) := by decide +kernel
theorem dX4_age_26 : decode cX4_age 26 = .ok (.aload_n 0, 1) := by decide +kernel
theorem dX4_age_27 : decode cX4_age 27 = .ok (.invokevirtual 96, 3) := by decide +kernel
theorem dX4_age_30 : decode cX4_age 30 = .ok (.iconst 0, 1) := by decide +kernel
theorem dX4_age_31 : decode cX4_age 31 = .ok (.istore 6, 2) := by decide +kernel
theorem dX4_age_33 : decode cX4_age 33 = .ok (.iload 6, 2) := by decide +kernel
theorem dX4_age_35 : decode cX4_age 35 = .ok (.iconst 5, 1) := by decide +kernel
theorem dX4_age_36 : decode cX4_age 36 = .ok (.if_icmp .ge 43, 3) := by decide +kernel
theorem dX4_age_39 : decode cX4_age 39 = .ok (.aload_n 0, 1) := by decide +kernel
theorem dX4_age_40 : decode cX4_age 40 = .ok (.getfield 21, 3) := by decide +kernel
theorem dX4_age_43 : decode cX4_age 43 = .ok (.invokevirtual 36, 3) := by decide +kernel
theorem dX4_age_46 : decode cX4_age 46 = .ok (.ifCond .eq 33, 3) := by decide +kernel
theorem dX4_age_49 : decode cX4_age 49 = .ok (.aload_n 0, 1) := by decide +kernel
theorem dX4_age_50 : decode cX4_age 50 = .ok (.getfield 12, 3) := by decide +kernel
theorem dX4_age_53 : decode cX4_age 53 = .ok (.aload_n 0, 1) := by decide +kernel
theorem dX4_age_54 : decode cX4_age 54 = .ok (.getfield 21, 3) := by decide +kernel
theorem dX4_age_57 : decode cX4_age 57 = .ok (.invokevirtual 40, 3) := by decide +kernel
theorem dX4_age_60 : decode cX4_age 60 = .ok (.ifCond .eq 13, 3) := by decide +kernel
theorem dX4_age_63 : decode cX4_age 63 = .ok (.aload_n 0, 1) := by decide +kernel
theorem dX4_age_64 : decode cX4_age 64 = .ok (.getfield 28, 3) := by decide +kernel
theorem dX4_age_67 : decode cX4_age 67 = .ok (.iconst 0, 1) := by decide +kernel
theorem dX4_age_68 : decode cX4_age 68 = .ok (.dup2, 1) := by decide +kernel
theorem dX4_age_69 : decode cX4_age 69 = .ok (.iaload, 1) := by decide +kernel
theorem dX4_age_70 : decode cX4_age 70 = .ok (.iconst 1, 1) := by decide +kernel
theorem dX4_age_71 : decode cX4_age 71 = .ok (.iadd, 1) := by decide +kernel
theorem dX4_age_72 : decode cX4_age 72 = .ok (.iastore, 1) := by decide +kernel
theorem dX4_age_73 : decode cX4_age 73 = .ok (.iinc 6 1, 3) := by decide +kernel
theorem dX4_age_76 : decode cX4_age 76 = .ok (.goto (-43), 3) := by decide +kernel
theorem dX4_age_79 : decode cX4_age 79 = .ok (.iinc 5 1, 3) := by decide +kernel
theorem dX4_age_82 : decode cX4_age 82 = .ok (.goto (-62), 3) := by decide +kernel
theorem dX4_age_85 : decode cX4_age 85 = .ok (.aload_n 0, 1) := by decide +kernel
theorem dX4_age_86 : decode cX4_age 86 = .ok (.getfield 28, 3) := by decide +kernel
theorem dX4_age_89 : decode cX4_age 89 = .ok (.iconst 2, 1) := by decide +kernel
theorem dX4_age_90 : decode cX4_age 90 = .ok (.aload_n 0, 1) := by decide +kernel
theorem dX4_age_91 : decode cX4_age 91 = .ok (.getfield 21, 3) := by decide +kernel
theorem dX4_age_94 : decode cX4_age 94 = .ok (.aload_n 1, 1) := by decide +kernel
theorem dX4_age_95 : decode cX4_age 95 = .ok (.invokevirtual 99, 3) := by decide +kernel
theorem dX4_age_98 : decode cX4_age 98 = .ok (.iastore, 1) := by decide +kernel
theorem dX4_age_99 : decode cX4_age 99 = .ok (.aload_n 0, 1) := by decide +kernel
theorem dX4_age_100 : decode cX4_age 100 = .ok (.iload 4, 2) := by decide +kernel
theorem dX4_age_102 : decode cX4_age 102 = .ok (.invokevirtual 74, 3) := by decide +kernel
theorem dX4_age_105 : decode cX4_age 105 = .ok (.ireturn, 1) := by decide +kernel
theorem dX4_happen_0 : decode cX4_happen 0 = .ok (.aload_n 0, 1) := by decide +kernel
theorem dX4_happen_1 : decode cX4_happen 1 = .ok (.iconst 3, 1) := by decide +kernel
theorem dX4_happen_2 : decode cX4_happen 2 = .ok (.invokevirtual 102, 3) := by decide +kernel
theorem dX4_happen_5 : decode cX4_happen 5 = .ok (.istore_n 1, 1) := by decide +kernel
theorem dX4_happen_6 : decode cX4_happen 6 = .ok (.iload_n 1, 1) := by decide +kernel
theorem dX4_happen_7 : decode cX4_happen 7 = .ok (.ifCond .ne 31, 3) := by decide +kernel
theorem dX4_happen_10 : decode cX4_happen 10 = .ok (.aload_n 0, 1) := by decide +kernel
theorem dX4_happen_11 : decode cX4_happen 11 = .ok (.sipush 256, 3) := by decide +kernel
theorem dX4_happen_14 : decode cX4_happen 14 = .ok (.invokevirtual 102, 3) := by decide +kernel
theorem dX4_happen_17 : decode cX4_happen 17 = .ok (.istore_n 2, 1) := by decide +kernel
theorem dX4_happen_18 : decode cX4_happen 18 = .ok (.aload_n 0, 1) := by decide +kernel
theorem dX4_happen_19 : decode cX4_happen 19 = .ok (.sipush 256, 3) := by decide +kernel
theorem dX4_happen_22 : decode cX4_happen 22 = .ok (.invokevirtual 102, 3) := by decide +kernel
theorem dX4_happen_25 : decode cX4_happen 25 = .ok (.istore_n 3, 1) := by decide +kernel
theorem dX4_happen_26 : decode cX4_happen 26 = .ok (.aload_n 0, 1) := by decide +kernel
theorem dX4_happen_27 : decode cX4_happen 27 = .ok (.getfield 21, 3) := by decide +kernel
theorem dX4_happen_30 : decode cX4_happen 30 = .ok (.iload_n 2, 1) := by decide +kernel
theorem dX4_happen_31 : decode cX4_happen 31 = .ok (.iload_n 3, 1) := by decide +kernel
theorem dX4_happen_32 : decode cX4_happen 32 = .ok (.invokevirtual 105, 3) := by decide +kernel
theorem dX4_happen_35 : decode cX4_happen 35 = .ok (.goto 39, 3) := by decide +kernel
theorem dX4_happen_38 : decode cX4_happen 38 = .ok (.iload_n 1, 1) := by decide +kernel
theorem dX4_happen_39 : decode cX4_happen 39 = .ok (.iconst 1, 1) := by decide +kernel
theorem dX4_happen_40 : decode cX4_happen 40 = .ok (.if_icmp .ne 34, 3) := by decide +kernel
theorem dX4_happen_43 : decode cX4_happen 43 = .ok (.aload_n 0, 1) := by decide +kernel
theorem dX4_happen_44 : decode cX4_happen 44 = .ok (.getfield 21, 3) := by decide +kernel
theorem dX4_happen_47 : decode cX4_happen 47 = .ok (.invokevirtual 36, 3) := by decide +kernel
theorem dX4_happen_50 : decode cX4_happen 50 = .ok (.ifCond .ne 24, 3) := by decide +kernel
theorem dX4_happen_53 : decode cX4_happen 53 = .ok (.aload_n 0, 1) := by decide +kernel
theorem dX4_happen_54 : decode cX4_happen 54 = .ok (.getfield 12, 3) := by decide +kernel
theorem dX4_happen_57 : decode cX4_happen 57 = .ok (.aload_n 0, 1) := by decide +kernel
theorem dX4_happen_58 : decode cX4_happen 58 = .ok (.getfield 21, 3) := by decide +kernel
theorem dX4_happen_61 : decode cX4_happen 61 = .ok (.invokevirtual 108, 3) := by decide +kernel
theorem dX4_happen_64 : decode cX4_happen 64 = .ok (.aload_n 0, 1) := by decide +kernel
theorem dX4_happen_65 : decode cX4_happen 65 = .ok (.getfield 28, 3) := by decide +kernel
theorem dX4_happen_68 : decode cX4_happen 68 = .ok (.iconst 1, 1) := by decide +kernel
theorem dX4_happen_69 : decode cX4_happen 69 = .ok (.dup2, 1) := by decide +kernel
theorem dX4_happen_70 : decode cX4_happen 70 = .ok (.iaload, 1) := by decide +kernel
theorem dX4_happen_71 : decode cX4_happen 71 = .ok (.iconst 1, 1) := by decide +kernel
theorem dX4_happen_72 : decode cX4_happen 72 = .ok (.iadd, 1) := by decide +kernel
theorem dX4_happen_73 : decode cX4_happen 73 = .ok (.iastore, 1) := by decide +kernel
theorem dX4_happen_74 : decode cX4_happen 74 = .ok (.return_, 1) := by decide +kernel
theorem dX4_draw_0 : decode cX4_draw 0 = .ok (.aload_n 0, 1) := by decide +kernel
theorem dX4_draw_1 : decode cX4_draw 1 = .ok (.aload_n 0, 1) := by decide +kernel
theorem dX4_draw_2 : decode cX4_draw 2 = .ok (.getfield 92, 3) := by decide +kernel
theorem dX4_draw_5 : decode cX4_draw 5 = .ok (.ldc 111, 2) := by decide +kernel
theorem dX4_draw_7 : decode cX4_draw 7 = .ok (.imul, 1) := by decide +kernel
theorem dX4_draw_8 : decode cX4_draw 8 = .ok (.sipush 12345, 3) := by decide +kernel
theorem dX4_draw_11 : decode cX4_draw 11 = .ok (.iadd, 1) := by decide +kernel
theorem dX4_draw_12 : decode cX4_draw 12 = .ok (.putfield 92, 3) := by decide +kernel
theorem dX4_draw_15 : decode cX4_draw 15 = .ok (.iload_n 1, 1) := by decide +kernel
theorem dX4_draw_16 : decode cX4_draw 16 = .ok (.ifCond .le 19, 3) := by decide +kernel
theorem dX4_draw_19 : decode cX4_draw 19 = .ok (.aload_n 0, 1) := by decide +kernel
theorem dX4_draw_20 : decode cX4_draw 20 = .ok (.getfield 92, 3) := by decide +kernel
theorem dX4_draw_23 : decode cX4_draw 23 = .ok (.bipush 16, 2) := by decide +kernel
theorem dX4_draw_25 : decode cX4_draw 25 = .ok (.iushr, 1) := by decide +kernel
theorem dX4_draw_26 : decode cX4_draw 26 = .ok (.sipush 32767, 3) := by decide +kernel
theorem dX4_draw_29 : decode cX4_draw 29 = .ok (.iand, 1) := by decide +kernel
theorem dX4_draw_30 : decode cX4_draw 30 = .ok (.iload_n 1, 1) := by decide +kernel
theorem dX4_draw_31 : decode cX4_draw 31 = .ok (.irem, 1) := by decide +kernel
theorem dX4_draw_32 : decode cX4_draw 32 = .ok (.goto 4, 3) := by decide +kernel
theorem dX4_draw_35 : decode cX4_draw 35 = .ok (.iconst 0, 1) := by decide +kernel
theorem dX4_draw_36 : decode cX4_draw 36 = .ok (.ireturn, 1) := by decide +kernel
theorem dX4_clearTold_0 : decode cX4_clearTold 0 = .ok (.aload_n 0, 1) := by decide +kernel
theorem dX4_clearTold_1 : decode cX4_clearTold 1 = .ok (.getfield 28, 3) := by decide +kernel
theorem dX4_clearTold_4 : decode cX4_clearTold 4 = .ok (.iconst 0, 1) := by decide +kernel
theorem dX4_clearTold_5 : decode cX4_clearTold 5 = .ok (.iconst 0, 1) := by decide +kernel
theorem dX4_clearTold_6 : decode cX4_clearTold 6 = .ok (.iastore, 1) := by decide +kernel
theorem dX4_clearTold_7 : decode cX4_clearTold 7 = .ok (.aload_n 0, 1) := by decide +kernel
theorem dX4_clearTold_8 : decode cX4_clearTold 8 = .ok (.getfield 28, 3) := by decide +kernel
theorem dX4_clearTold_11 : decode cX4_clearTold 11 = .ok (.iconst 1, 1) := by decide +kernel
theorem dX4_clearTold_12 : decode cX4_clearTold 12 = .ok (.iconst 0, 1) := by decide +kernel
theorem dX4_clearTold_13 : decode cX4_clearTold 13 = .ok (.iastore, 1) := by decide +kernel
theorem dX4_clearTold_14 : decode cX4_clearTold 14 = .ok (.aload_n 0, 1) := by decide +kernel
theorem dX4_clearTold_15 : decode cX4_clearTold 15 = .ok (.getfield 28, 3) := by decide +kernel
theorem dX4_clearTold_18 : decode cX4_clearTold 18 = .ok (.iconst 2, 1) := by decide +kernel
theorem dX4_clearTold_19 : decode cX4_clearTold 19 = .ok (.iconst 0, 1) := by decide +kernel
theorem dX4_clearTold_20 : decode cX4_clearTold 20 = .ok (.iastore, 1) := by decide +kernel
theorem dX4_clearTold_21 : decode cX4_clearTold 21 = .ok (.aload_n 0, 1) := by decide +kernel
theorem dX4_clearTold_22 : decode cX4_clearTold 22 = .ok (.getfield 28, 3) := by decide +kernel
theorem dX4_clearTold_25 : decode cX4_clearTold 25 = .ok (.iconst 3, 1) := by decide +kernel
theorem dX4_clearTold_26 : decode cX4_clearTold 26 = .ok (.iconst (-1), 1) := by decide +kernel
theorem dX4_clearTold_27 : decode cX4_clearTold 27 = .ok (.iastore, 1) := by decide +kernel
theorem dX4_clearTold_28 : decode cX4_clearTold 28 = .ok (.return_, 1) := by decide +kernel
theorem dX4_told_0 : decode cX4_told 0 = .ok (.iload_n 1, 1) := by decide +kernel
theorem dX4_told_1 : decode cX4_told 1 = .ok (.ifCond .lt 21, 3) := by decide +kernel
theorem dX4_told_4 : decode cX4_told 4 = .ok (.iload_n 1, 1) := by decide +kernel
theorem dX4_told_5 : decode cX4_told 5 = .ok (.aload_n 0, 1) := by decide +kernel
theorem dX4_told_6 : decode cX4_told 6 = .ok (.getfield 28, 3) := by decide +kernel
theorem dX4_told_9 : decode cX4_told 9 = .ok (.arraylength, 1) := by decide +kernel
theorem dX4_told_10 : decode cX4_told 10 = .ok (.if_icmp .ge 12, 3) := by decide +kernel
theorem dX4_told_13 : decode cX4_told 13 = .ok (.aload_n 0, 1) := by decide +kernel
theorem dX4_told_14 : decode cX4_told 14 = .ok (.getfield 28, 3) := by decide +kernel
theorem dX4_told_17 : decode cX4_told 17 = .ok (.iload_n 1, 1) := by decide +kernel
theorem dX4_told_18 : decode cX4_told 18 = .ok (.iaload, 1) := by decide +kernel
theorem dX4_told_19 : decode cX4_told 19 = .ok (.goto 4, 3) := by decide +kernel
theorem dX4_told_22 : decode cX4_told 22 = .ok (.iconst (-1), 1) := by decide +kernel
theorem dX4_told_23 : decode cX4_told 23 = .ok (.ireturn, 1) := by decide +kernel
theorem dX12_feed_0 : decode cX12_feed 0 = .ok (.aload_n 0, 1) := by decide +kernel
theorem dX12_feed_1 : decode cX12_feed 1 = .ok (.getfield 65, 3) := by decide +kernel
theorem dX12_feed_4 : decode cX12_feed 4 = .ok (.sipush 680, 3) := by decide +kernel
theorem dX12_feed_7 : decode cX12_feed 7 = .ok (.if_icmp .le 5, 3) := by decide +kernel
theorem dX12_feed_10 : decode cX12_feed 10 = .ok (.iconst (-1), 1) := by decide +kernel
theorem dX12_feed_11 : decode cX12_feed 11 = .ok (.ireturn, 1) := by decide +kernel
theorem dX12_feed_12 : decode cX12_feed 12 = .ok (.aload_n 0, 1) := by decide +kernel
theorem dX12_feed_13 : decode cX12_feed 13 = .ok (.iload_n 1, 1) := by decide +kernel
theorem dX12_feed_14 : decode cX12_feed 14 = .ok (.invokevirtual 68, 3) := by decide +kernel
theorem dX12_feed_17 : decode cX12_feed 17 = .ok (.aload_n 0, 1) := by decide +kernel
theorem dX12_feed_18 : decode cX12_feed 18 = .ok (.iload_n 2, 1) := by decide +kernel
theorem dX12_feed_19 : decode cX12_feed 19 = .ok (.invokevirtual 68, 3) := by decide +kernel
theorem dX12_feed_22 : decode cX12_feed 22 = .ok (.aload_n 0, 1) := by decide +kernel
theorem dX12_feed_23 : decode cX12_feed 23 = .ok (.iload_n 3, 1) := by decide +kernel
theorem dX12_feed_24 : decode cX12_feed 24 = .ok (.invokevirtual 68, 3) := by decide +kernel
theorem dX12_feed_27 : decode cX12_feed 27 = .ok (.aload_n 0, 1) := by decide +kernel
theorem dX12_feed_28 : decode cX12_feed 28 = .ok (.iload 4, 2) := by decide +kernel
theorem dX12_feed_30 : decode cX12_feed 30 = .ok (.invokevirtual 68, 3) := by decide +kernel
theorem dX12_feed_33 : decode cX12_feed 33 = .ok (.aload_n 0, 1) := by decide +kernel
theorem dX12_feed_34 : decode cX12_feed 34 = .ok (.iload 5, 2) := by decide +kernel
theorem dX12_feed_36 : decode cX12_feed 36 = .ok (.invokevirtual 68, 3) := by decide +kernel
theorem dX12_feed_39 : decode cX12_feed 39 = .ok (.aload_n 0, 1) := by decide +kernel
theorem dX12_feed_40 : decode cX12_feed 40 = .ok (.getfield 65, 3) := by decide +kernel
theorem dX12_feed_43 : decode cX12_feed 43 = .ok (.ireturn, 1) := by decide +kernel
theorem dX12_fault_0 : decode cX12_fault 0 = .ok (.aload_n 0, 1) := by decide +kernel
theorem dX12_fault_1 : decode cX12_fault 1 = .ok (.getfield 13, 3) := by decide +kernel
theorem dX12_fault_4 : decode cX12_fault 4 = .ok (.ireturn, 1) := by decide +kernel
theorem dX12_undo_0 : decode cX12_undo 0 = .ok (.aload_n 0, 1) := by decide +kernel
theorem dX12_undo_1 : decode cX12_undo 1 = .ok (.getfield 61, 3) := by decide +kernel
theorem dX12_undo_4 : decode cX12_undo 4 = .ok (.invokevirtual 126, 3) := by decide +kernel
theorem dX12_undo_7 : decode cX12_undo 7 = .ok (.ifCond .ne 5, 3) := by decide +kernel
theorem dX12_undo_10 : decode cX12_undo 10 = .ok (.iconst (-1), 1) := by decide +kernel
theorem dX12_undo_11 : decode cX12_undo 11 = .ok (.ireturn, 1) := by decide +kernel
theorem dX12_undo_12 : decode cX12_undo 12 = .ok (.aload_n 0, 1) := by decide +kernel
theorem dX12_undo_13 : decode cX12_undo 13 = .ok (.getfield 61, 3) := by decide +kernel
theorem dX12_undo_16 : decode cX12_undo 16 = .ok (.invokevirtual 247, 3) := by decide +kernel
theorem dX12_undo_19 : decode cX12_undo 19 = .ok (.aload_n 0, 1) := by decide +kernel
theorem dX12_undo_20 : decode cX12_undo 20 = .ok (.getfield 61, 3) := by decide +kernel
theorem dX12_undo_23 : decode cX12_undo 23 = .ok (.invokevirtual 126, 3) := by decide +kernel
theorem dX12_undo_26 : decode cX12_undo 26 = .ok (.ireturn, 1) := by decide +kernel
theorem dX12_halts_0 : decode cX12_halts 0 = .ok (.aload_n 0, 1) := by decide +kernel
theorem dX12_halts_1 : decode cX12_halts 1 = .ok (.getfield 34, 3) := by decide +kernel
theorem dX12_halts_4 : decode cX12_halts 4 = .ok (.aload_n 0, 1) := by decide +kernel
theorem dX12_halts_5 : decode cX12_halts 5 = .ok (.getfield 61, 3) := by decide +kernel
theorem dX12_halts_8 : decode cX12_halts 8 = .ok (.getfield 107, 3) := by decide +kernel
theorem dX12_halts_11 : decode cX12_halts 11 = .ok (.invokevirtual 264, 3) := by decide +kernel
theorem dX12_halts_14 : decode cX12_halts 14 = .ok (.ireturn, 1) := by decide +kernel
theorem dX12_round_0 : decode cX12_round 0 = .ok (.aload_n 0, 1) := by decide +kernel
theorem dX12_round_1 : decode cX12_round 1 = .ok (.getfield 34, 3) := by decide +kernel
theorem dX12_round_4 : decode cX12_round 4 = .ok (.aload_n 0, 1) := by decide +kernel
theorem dX12_round_5 : decode cX12_round 5 = .ok (.getfield 61, 3) := by decide +kernel
theorem dX12_round_8 : decode cX12_round 8 = .ok (.getfield 107, 3) := by decide +kernel
theorem dX12_round_11 : decode cX12_round 11 = .ok (.invokevirtual 270, 3) := by decide +kernel
theorem dX12_round_14 : decode cX12_round 14 = .ok (.ireturn, 1) := by decide +kernel
theorem dX12_note_0 : decode cX12_note 0 = .ok (.aload_n 0, 1) := by decide +kernel
theorem dX12_note_1 : decode cX12_note 1 = .ok (.getfield 61, 3) := by decide +kernel
theorem dX12_note_4 : decode cX12_note 4 = .ok (.invokevirtual 129, 3) := by decide +kernel
theorem dX12_note_7 : decode cX12_note 7 = .ok (.bipush 8, 2) := by decide +kernel
theorem dX12_note_9 : decode cX12_note 9 = .ok (.if_icmp .ge 27, 3) := by decide +kernel
theorem dX12_note_12 : decode cX12_note 12 = .ok (.iload_n 1, 1) := by decide +kernel
theorem dX12_note_13 : decode cX12_note 13 = .ok (.ifCond .lt 23, 3) := by decide +kernel
theorem dX12_note_16 : decode cX12_note 16 = .ok (.iload_n 1, 1) := by decide +kernel
theorem dX12_note_17 : decode cX12_note 17 = .ok (.bipush 60, 2) := by decide +kernel
theorem dX12_note_19 : decode cX12_note 19 = .ok (.if_icmp .gt 17, 3) := by decide +kernel
theorem dX12_note_22 : decode cX12_note 22 = .ok (.iload_n 2, 1) := by decide +kernel
theorem dX12_note_23 : decode cX12_note 23 = .ok (.invokestatic 232, 3) := by decide +kernel
theorem dX12_note_26 : decode cX12_note 26 = .ok (.ifCond .eq 10, 3) := by decide +kernel
theorem dX12_note_29 : decode cX12_note 29 = .ok (.iload_n 3, 1) := by decide +kernel
theorem dX12_note_30 : decode cX12_note 30 = .ok (.invokestatic 236, 3) := by decide +kernel
theorem dX12_note_33 : decode cX12_note 33 = .ok (.ifCond .ne 13, 3) := by decide +kernel
theorem dX12_note_36 : decode cX12_note 36 = .ok (.aload_n 0, 1) := by decide +kernel
theorem dX12_note_37 : decode cX12_note 37 = .ok (.getfield 61, 3) := by decide +kernel
theorem dX12_note_40 : decode cX12_note 40 = .ok (.iconst 2, 1) := by decide +kernel
theorem dX12_note_41 : decode cX12_note 41 = .ok (.invokevirtual 86, 3) := by decide +kernel
theorem dX12_note_44 : decode cX12_note 44 = .ok (.iconst (-1), 1) := by decide +kernel
theorem dX12_note_45 : decode cX12_note 45 = .ok (.ireturn, 1) := by decide +kernel
theorem dX12_note_46 : decode cX12_note 46 = .ok (.aload_n 0, 1) := by decide +kernel
theorem dX12_note_47 : decode cX12_note 47 = .ok (.getfield 61, 3) := by decide +kernel
theorem dX12_note_50 : decode cX12_note 50 = .ok (.iload_n 1, 1) := by decide +kernel
theorem dX12_note_51 : decode cX12_note 51 = .ok (.iload_n 2, 1) := by decide +kernel
theorem dX12_note_52 : decode cX12_note 52 = .ok (.iload_n 3, 1) := by decide +kernel
theorem dX12_note_53 : decode cX12_note 53 = .ok (.invokevirtual 279, 3) := by decide +kernel
theorem dX12_note_56 : decode cX12_note 56 = .ok (.aload_n 0, 1) := by decide +kernel
theorem dX12_note_57 : decode cX12_note 57 = .ok (.getfield 61, 3) := by decide +kernel
theorem dX12_note_60 : decode cX12_note 60 = .ok (.invokevirtual 129, 3) := by decide +kernel
theorem dX12_note_63 : decode cX12_note 63 = .ok (.ireturn, 1) := by decide +kernel
theorem dX12_forget_0 : decode cX12_forget 0 = .ok (.aload_n 0, 1) := by decide +kernel
theorem dX12_forget_1 : decode cX12_forget 1 = .ok (.getfield 61, 3) := by decide +kernel
theorem dX12_forget_4 : decode cX12_forget 4 = .ok (.invokevirtual 286, 3) := by decide +kernel
theorem dX12_forget_7 : decode cX12_forget 7 = .ok (.return_, 1) := by decide +kernel
theorem dX12_instructions_0 : decode cX12_instructions 0 = .ok (.aload_n 0, 1) := by decide +kernel
theorem dX12_instructions_1 : decode cX12_instructions 1 = .ok (.getfield 34, 3) := by decide +kernel
theorem dX12_instructions_4 : decode cX12_instructions 4 = .ok (.getfield 93, 3) := by decide +kernel
theorem dX12_instructions_7 : decode cX12_instructions 7 = .ok (.invokevirtual 302, 3) := by decide +kernel
theorem dX12_instructions_10 : decode cX12_instructions 10 = .ok (.ireturn, 1) := by decide +kernel
theorem dX12_append_0 : decode cX12_append 0 = .ok (.bipush 24, 2) := by decide +kernel
theorem dX12_append_2 : decode cX12_append 2 = .ok (.istore_n 2, 1) := by decide +kernel
theorem dX12_append_3 : decode cX12_append 3 = .ok (.iload_n 2, 1) := by decide +kernel
theorem dX12_append_4 : decode cX12_append 4 = .ok (.ifCond .lt 45, 3) := by decide +kernel
theorem dX12_append_7 : decode cX12_append 7 = .ok (.aload_n 0, 1) := by decide +kernel
theorem dX12_append_8 : decode cX12_append 8 = .ok (.getfield 65, 3) := by decide +kernel
theorem dX12_append_11 : decode cX12_append 11 = .ok (.sipush 700, 3) := by decide +kernel
theorem dX12_append_14 : decode cX12_append 14 = .ok (.if_icmp .ge 35, 3) := by decide +kernel
theorem dX12_append_17 : decode cX12_append 17 = .ok (.aload_n 0, 1) := by decide +kernel
theorem dX12_append_18 : decode cX12_append 18 = .ok (.getfield 9, 3) := by decide +kernel
theorem dX12_append_21 : decode cX12_append 21 = .ok (.aload_n 0, 1) := by decide +kernel
theorem dX12_append_22 : decode cX12_append 22 = .ok (.getfield 65, 3) := by decide +kernel
theorem dX12_append_25 : decode cX12_append 25 = .ok (.iload_n 1, 1) := by decide +kernel
theorem dX12_append_26 : decode cX12_append 26 = .ok (.iload_n 2, 1) := by decide +kernel
theorem dX12_append_27 : decode cX12_append 27 = .ok (.iushr, 1) := by decide +kernel
theorem dX12_append_28 : decode cX12_append 28 = .ok (.sipush 255, 3) := by decide +kernel
theorem dX12_append_31 : decode cX12_append 31 = .ok (.iand, 1) := by decide +kernel
theorem dX12_append_32 : decode cX12_append 32 = .ok (.iastore, 1) := by decide +kernel
theorem dX12_append_33 : decode cX12_append 33 = .ok (.aload_n 0, 1) := by decide +kernel
theorem dX12_append_34 : decode cX12_append 34 = .ok (.dup, 1) := by decide +kernel
theorem dX12_append_35 : decode cX12_append 35 = .ok (.getfield 65, 3) := by decide +kernel
theorem dX12_append_38 : decode cX12_append 38 = .ok (.iconst 1, 1) := by decide +kernel
theorem dX12_append_39 : decode cX12_append 39 = .ok (.iadd, 1) := by decide +kernel
theorem dX12_append_40 : decode cX12_append 40 = .ok (.putfield 65, 3) := by decide +kernel
theorem dX12_append_43 : decode cX12_append 43 = .ok (.iinc 2 (-8), 3) := by decide +kernel
theorem dX12_append_46 : decode cX12_append 46 = .ok (.goto (-43), 3) := by decide +kernel
theorem dX12_append_49 : decode cX12_append 49 = .ok (.return_, 1) := by decide +kernel
