theorem dX3_waysFrom_36 : decode cX3_waysFrom 36 = .ok (.invokevirtual 117, 3) := by decide +kernel
theorem dX3_waysFrom_39 : decode cX3_waysFrom 39 = .ok (.istore 7, 2) := by decide +kernel
theorem dX3_waysFrom_41 : decode cX3_waysFrom 41 = .ok (.lload 4, 2) := by decide +kernel
theorem dX3_waysFrom_43 : decode cX3_waysFrom 43 = .ok (.iload 7, 2) := by decide +kernel
theorem dX3_waysFrom_45 : decode cX3_waysFrom 45 = .ok (.iconst (-1), 1) := by decide +kernel
theorem dX3_waysFrom_46 : decode cX3_waysFrom 46 = .ok (.if_icmp .ne 7, 3) := by decide +kernel
theorem dX3_waysFrom_49 : decode cX3_waysFrom 49 = .ok (.lconst 0, 1) := by decide +kernel
theorem dX3_waysFrom_50 : decode cX3_waysFrom 50 = .ok (.goto 16, 3) := by decide +kernel
theorem dX3_waysFrom_53 : decode cX3_waysFrom 53 = .ok (.aload_n 0, 1) := by decide +kernel
theorem dX3_waysFrom_54 : decode cX3_waysFrom 54 = .ok (.getfield 21, 3) := by decide +kernel
theorem dX3_waysFrom_57 : decode cX3_waysFrom 57 = .ok (.iconst 4, 1) := by decide +kernel
theorem dX3_waysFrom_58 : decode cX3_waysFrom 58 = .ok (.iload_n 1, 1) := by decide +kernel
theorem dX3_waysFrom_59 : decode cX3_waysFrom 59 = .ok (.iconst 1, 1) := by decide +kernel
theorem dX3_waysFrom_60 : decode cX3_waysFrom 60 = .ok (.iadd, 1) := by decide +kernel
theorem dX3_waysFrom_61 : decode cX3_waysFrom 61 = .ok (.imul, 1) := by decide +kernel
theorem dX3_waysFrom_62 : decode cX3_waysFrom 62 = .ok (.iload 7, 2) := by decide +kernel
theorem dX3_waysFrom_64 : decode cX3_waysFrom 64 = .ok (.iadd, 1) := by decide +kernel
theorem dX3_waysFrom_65 : decode cX3_waysFrom 65 = .ok (.laload, 1) := by decide +kernel
theorem dX3_waysFrom_66 : decode cX3_waysFrom 66 = .ok (.ladd, 1) := by decide +kernel
theorem dX3_waysFrom_67 : decode cX3_waysFrom 67 = .ok (.lstore 4, 2) := by decide +kernel
theorem dX3_waysFrom_69 : decode cX3_waysFrom 69 = .ok (.iinc 6 1, 3) := by decide +kernel
theorem dX3_waysFrom_72 : decode cX3_waysFrom 72 = .ok (.goto (-47), 3) := by decide +kernel
theorem dX3_waysFrom_75 : decode cX3_waysFrom 75 = .ok (.lload 4, 2) := by decide +kernel
theorem dX3_waysFrom_77 : decode cX3_waysFrom 77 = .ok (.lreturn, 1) := by decide +kernel
theorem dX3_way_0 : decode cX3_way 0 = .ok (.iload_n 2, 1) := by decide +kernel
theorem dX3_way_1 : decode cX3_way 1 = .ok (.iconst (-1), 1) := by decide +kernel
theorem dX3_way_2 : decode cX3_way 2 = .ok (.if_icmp .ne 7, 3) := by decide +kernel
theorem dX3_way_5 : decode cX3_way 5 = .ok (.iconst (-1), 1) := by decide +kernel
theorem dX3_way_6 : decode cX3_way 6 = .ok (.goto 10, 3) := by decide +kernel
theorem dX3_way_9 : decode cX3_way 9 = .ok (.aload_n 0, 1) := by decide +kernel
theorem dX3_way_10 : decode cX3_way 10 = .ok (.iload_n 1, 1) := by decide +kernel
theorem dX3_way_11 : decode cX3_way 11 = .ok (.iload_n 2, 1) := by decide +kernel
theorem dX3_way_12 : decode cX3_way 12 = .ok (.iload_n 3, 1) := by decide +kernel
theorem dX3_way_13 : decode cX3_way 13 = .ok (.invokevirtual 117, 3) := by decide +kernel
theorem dX3_way_16 : decode cX3_way 16 = .ok (.istore 4, 2) := by decide +kernel
theorem dX3_way_18 : decode cX3_way 18 = .ok (.iload 4, 2) := by decide +kernel
theorem dX3_way_20 : decode cX3_way 20 = .ok (.iconst (-1), 1) := by decide +kernel
theorem dX3_way_21 : decode cX3_way 21 = .ok (.if_icmp .eq 21, 3) := by decide +kernel
theorem dX3_way_24 : decode cX3_way 24 = .ok (.aload_n 0, 1) := by decide +kernel
theorem dX3_way_25 : decode cX3_way 25 = .ok (.getfield 21, 3) := by decide +kernel
theorem dX3_way_28 : decode cX3_way 28 = .ok (.iconst 4, 1) := by decide +kernel
theorem dX3_way_29 : decode cX3_way 29 = .ok (.iload_n 1, 1) := by decide +kernel
theorem dX3_way_30 : decode cX3_way 30 = .ok (.iconst 1, 1) := by decide +kernel
theorem dX3_way_31 : decode cX3_way 31 = .ok (.iadd, 1) := by decide +kernel
theorem dX3_way_32 : decode cX3_way 32 = .ok (.imul, 1) := by decide +kernel
theorem dX3_way_33 : decode cX3_way 33 = .ok (.iload 4, 2) := by decide +kernel
theorem dX3_way_35 : decode cX3_way 35 = .ok (.iadd, 1) := by decide +kernel
theorem dX3_way_36 : decode cX3_way 36 = .ok (.laload, 1) := by decide +kernel
theorem dX3_way_37 : decode cX3_way 37 = .ok (.lconst 0, 1) := by decide +kernel
theorem dX3_way_38 : decode cX3_way 38 = .ok (.lcmp, 1) := by decide +kernel
theorem dX3_way_39 : decode cX3_way 39 = .ok (.ifCond .ne 7, 3) := by decide +kernel
theorem dX3_way_42 : decode cX3_way 42 = .ok (.iconst (-1), 1) := by decide +kernel
theorem dX3_way_43 : decode cX3_way 43 = .ok (.goto 5, 3) := by decide +kernel
theorem dX3_way_46 : decode cX3_way 46 = .ok (.iload 4, 2) := by decide +kernel
theorem dX3_way_48 : decode cX3_way 48 = .ok (.ireturn, 1) := by decide +kernel
theorem dX3_stateBehind_0 : decode cX3_stateBehind 0 = .ok (.iload_n 2, 1) := by decide +kernel
theorem dX3_stateBehind_1 : decode cX3_stateBehind 1 = .ok (.iconst 1, 1) := by decide +kernel
theorem dX3_stateBehind_2 : decode cX3_stateBehind 2 = .ok (.iand, 1) := by decide +kernel
theorem dX3_stateBehind_3 : decode cX3_stateBehind 3 = .ok (.ifCond .eq 7, 3) := by decide +kernel
theorem dX3_stateBehind_6 : decode cX3_stateBehind 6 = .ok (.iconst 1, 1) := by decide +kernel
theorem dX3_stateBehind_7 : decode cX3_stateBehind 7 = .ok (.goto 4, 3) := by decide +kernel
theorem dX3_stateBehind_10 : decode cX3_stateBehind 10 = .ok (.iconst 0, 1) := by decide +kernel
theorem dX3_stateBehind_11 : decode cX3_stateBehind 11 = .ok (.istore 4, 2) := by decide +kernel
theorem dX3_stateBehind_13 : decode cX3_stateBehind 13 = .ok (.aload_n 0, 1) := by decide +kernel
theorem dX3_stateBehind_14 : decode cX3_stateBehind 14 = .ok (.getfield 15, 3) := by decide +kernel
theorem dX3_stateBehind_17 : decode cX3_stateBehind 17 = .ok (.iload_n 1, 1) := by decide +kernel
theorem dX3_stateBehind_18 : decode cX3_stateBehind 18 = .ok (.iaload, 1) := by decide +kernel
theorem dX3_stateBehind_19 : decode cX3_stateBehind 19 = .ok (.aload_n 0, 1) := by decide +kernel
theorem dX3_stateBehind_20 : decode cX3_stateBehind 20 = .ok (.getfield 53, 3) := by decide +kernel
theorem dX3_stateBehind_23 : decode cX3_stateBehind 23 = .ok (.iload 4, 2) := by decide +kernel
theorem dX3_stateBehind_25 : decode cX3_stateBehind 25 = .ok (.iload_n 3, 1) := by decide +kernel
theorem dX3_stateBehind_26 : decode cX3_stateBehind 26 = .ok (.invokestatic 81, 3) := by decide +kernel
theorem dX3_stateBehind_29 : decode cX3_stateBehind 29 = .ok (.aload_n 0, 1) := by decide +kernel
theorem dX3_stateBehind_30 : decode cX3_stateBehind 30 = .ok (.getfield 18, 3) := by decide +kernel
theorem dX3_stateBehind_33 : decode cX3_stateBehind 33 = .ok (.iload_n 1, 1) := by decide +kernel
theorem dX3_stateBehind_34 : decode cX3_stateBehind 34 = .ok (.iaload, 1) := by decide +kernel
theorem dX3_stateBehind_35 : decode cX3_stateBehind 35 = .ok (.if_icmp .eq 5, 3) := by decide +kernel
theorem dX3_stateBehind_38 : decode cX3_stateBehind 38 = .ok (.iconst (-1), 1) := by decide +kernel
theorem dX3_stateBehind_39 : decode cX3_stateBehind 39 = .ok (.ireturn, 1) := by decide +kernel
theorem dX3_stateBehind_40 : decode cX3_stateBehind 40 = .ok (.iload_n 1, 1) := by decide +kernel
theorem dX3_stateBehind_41 : decode cX3_stateBehind 41 = .ok (.aload_n 0, 1) := by decide +kernel
theorem dX3_stateBehind_42 : decode cX3_stateBehind 42 = .ok (.getfield 106, 3) := by decide +kernel
theorem dX3_stateBehind_45 : decode cX3_stateBehind 45 = .ok (.if_icmp .ne 12, 3) := by decide +kernel
theorem dX3_stateBehind_48 : decode cX3_stateBehind 48 = .ok (.iload_n 2, 1) := by decide +kernel
theorem dX3_stateBehind_49 : decode cX3_stateBehind 49 = .ok (.iconst 2, 1) := by decide +kernel
theorem dX3_stateBehind_50 : decode cX3_stateBehind 50 = .ok (.if_icmp .ge 7, 3) := by decide +kernel
theorem dX3_stateBehind_53 : decode cX3_stateBehind 53 = .ok (.iconst 1, 1) := by decide +kernel
theorem dX3_stateBehind_54 : decode cX3_stateBehind 54 = .ok (.goto 4, 3) := by decide +kernel
theorem dX3_stateBehind_57 : decode cX3_stateBehind 57 = .ok (.iconst 0, 1) := by decide +kernel
theorem dX3_stateBehind_58 : decode cX3_stateBehind 58 = .ok (.istore 5, 2) := by decide +kernel
theorem dX3_stateBehind_60 : decode cX3_stateBehind 60 = .ok (.iload_n 2, 1) := by decide +kernel
theorem dX3_stateBehind_61 : decode cX3_stateBehind 61 = .ok (.iconst 2, 1) := by decide +kernel
theorem dX3_stateBehind_62 : decode cX3_stateBehind 62 = .ok (.iand, 1) := by decide +kernel
theorem dX3_stateBehind_63 : decode cX3_stateBehind 63 = .ok (.aload_n 0, 1) := by decide +kernel
theorem dX3_stateBehind_64 : decode cX3_stateBehind 64 = .ok (.getfield 15, 3) := by decide +kernel
theorem dX3_stateBehind_67 : decode cX3_stateBehind 67 = .ok (.iload_n 1, 1) := by decide +kernel
theorem dX3_stateBehind_68 : decode cX3_stateBehind 68 = .ok (.iaload, 1) := by decide +kernel
theorem dX3_stateBehind_69 : decode cX3_stateBehind 69 = .ok (.iload 4, 2) := by decide +kernel
theorem dX3_stateBehind_71 : decode cX3_stateBehind 71 = .ok (.iload_n 3, 1) := by decide +kernel
theorem dX3_stateBehind_72 : decode cX3_stateBehind 72 = .ok (.iload 5, 2) := by decide +kernel
theorem dX3_stateBehind_74 : decode cX3_stateBehind 74 = .ok (.invokestatic 85, 3) := by decide +kernel
theorem dX3_stateBehind_77 : decode cX3_stateBehind 77 = .ok (.ifCond .eq 7, 3) := by decide +kernel
theorem dX3_stateBehind_80 : decode cX3_stateBehind 80 = .ok (.iconst 1, 1) := by decide +kernel
theorem dX3_stateBehind_81 : decode cX3_stateBehind 81 = .ok (.goto 4, 3) := by decide +kernel
theorem dX3_stateBehind_84 : decode cX3_stateBehind 84 = .ok (.iconst 0, 1) := by decide +kernel
theorem dX3_stateBehind_85 : decode cX3_stateBehind 85 = .ok (.ior, 1) := by decide +kernel
theorem dX3_stateBehind_86 : decode cX3_stateBehind 86 = .ok (.ireturn, 1) := by decide +kernel
theorem dX4_init_0 : decode cX4_init 0 = .ok (.aload_n 0, 1) := by decide +kernel
theorem dX4_init_1 : decode cX4_init 1 = .ok (.invokespecial 3, 3) := by decide +kernel
theorem dX4_init_4 : decode cX4_init 4 = .ok (.aload_n 0, 1) := by decide +kernel
theorem dX4_init_5 : decode cX4_init 5 = .ok (.new 9, 3) := by decide +kernel
theorem dX4_init_8 : decode cX4_init 8 = .ok (.dup, 1) := by decide +kernel
theorem dX4_init_9 : decode cX4_init 9 = .ok (.invokespecial 11, 3) := by decide +kernel
theorem dX4_init_12 : decode cX4_init 12 = .ok (.putfield 12, 3) := by decide +kernel
theorem dX4_init_15 : decode cX4_init 15 = .ok (.aload_n 0, 1) := by decide +kernel
theorem dX4_init_16 : decode cX4_init 16 = .ok (.new 18, 3) := by decide +kernel
theorem dX4_init_19 : decode cX4_init 19 = .ok (.dup, 1) := by decide +kernel
theorem dX4_init_20 : decode cX4_init 20 = .ok (.invokespecial 20, 3) := by decide +kernel
theorem dX4_init_23 : decode cX4_init 23 = .ok (.putfield 21, 3) := by decide +kernel
theorem dX4_init_26 : decode cX4_init 26 = .ok (.aload_n 0, 1) := by decide +kernel
theorem dX4_init_27 : decode cX4_init 27 = .ok (.new 18, 3) := by decide +kernel
theorem dX4_init_30 : decode cX4_init 30 = .ok (.dup, 1) := by decide +kernel
theorem dX4_init_31 : decode cX4_init 31 = .ok (.invokespecial 20, 3) := by decide +kernel
theorem dX4_init_34 : decode cX4_init 34 = .ok (.putfield 25, 3) := by decide +kernel
theorem dX4_init_37 : decode cX4_init 37 = .ok (.aload_n 0, 1) := by decide +kernel
theorem dX4_init_38 : decode cX4_init 38 = .ok (.iconst 4, 1) := by decide +kernel
theorem dX4_init_39 : decode cX4_init 39 = .ok (.newarray .int, 2) := by decide +kernel
theorem dX4_init_41 : decode cX4_init 41 = .ok (.putfield 28, 3) := by decide +kernel
theorem dX4_init_44 : decode cX4_init 44 = .ok (.return_, 1) := by decide +kernel
theorem dX4_behind_0 : decode cX4_behind 0 = .ok (.aload_n 0, 1) := by decide +kernel
theorem dX4_behind_1 : decode cX4_behind 1 = .ok (.getfield 21, 3) := by decide +kernel
theorem dX4_behind_4 : decode cX4_behind 4 = .ok (.aload_n 1, 1) := by decide +kernel
theorem dX4_behind_5 : decode cX4_behind 5 = .ok (.invokevirtual 32, 3) := by decide +kernel
theorem dX4_behind_8 : decode cX4_behind 8 = .ok (.iconst 0, 1) := by decide +kernel
theorem dX4_behind_9 : decode cX4_behind 9 = .ok (.istore_n 3, 1) := by decide +kernel
theorem dX4_behind_10 : decode cX4_behind 10 = .ok (.iload_n 3, 1) := by decide +kernel
theorem dX4_behind_11 : decode cX4_behind 11 = .ok (.iload_n 2, 1) := by decide +kernel
theorem dX4_behind_12 : decode cX4_behind 12 = .ok (.if_icmp .ge 31, 3) := by decide +kernel
theorem dX4_behind_15 : decode cX4_behind 15 = .ok (.aload_n 0, 1) := by decide +kernel
theorem dX4_behind_16 : decode cX4_behind 16 = .ok (.getfield 21, 3) := by decide +kernel
theorem dX4_behind_19 : decode cX4_behind 19 = .ok (.invokevirtual 36, 3) := by decide +kernel
theorem dX4_behind_22 : decode cX4_behind 22 = .ok (.ifCond .eq 21, 3) := by decide +kernel
theorem dX4_behind_25 : decode cX4_behind 25 = .ok (.aload_n 0, 1) := by decide +kernel
theorem dX4_behind_26 : decode cX4_behind 26 = .ok (.getfield 12, 3) := by decide +kernel
theorem dX4_behind_29 : decode cX4_behind 29 = .ok (.aload_n 0, 1) := by decide +kernel
theorem dX4_behind_30 : decode cX4_behind 30 = .ok (.getfield 21, 3) := by decide +kernel
theorem dX4_behind_33 : decode cX4_behind 33 = .ok (.invokevirtual 40, 3) := by decide +kernel
theorem dX4_behind_36 : decode cX4_behind 36 = .ok (.pop, 1) := by decide +kernel
theorem dX4_behind_37 : decode cX4_behind 37 = .ok (.iinc 3 1, 3) := by decide +kernel
theorem dX4_behind_40 : decode cX4_behind 40 = .ok (.goto (-30), 3) := by decide +kernel
theorem dX4_behind_43 : decode cX4_behind 43 = .ok (.aload_n 0, 1) := by decide +kernel
theorem dX4_behind_44 : decode cX4_behind 44 = .ok (.getfield 21, 3) := by decide +kernel
theorem dX4_behind_47 : decode cX4_behind 47 = .ok (.areturn, 1) := by decide +kernel
theorem dX4_firstFault_0 : decode cX4_firstFault 0 = .ok (.aload_n 0, 1) := by decide +kernel
theorem dX4_firstFault_1 : decode cX4_firstFault 1 = .ok (.getfield 21, 3) := by decide +kernel
theorem dX4_firstFault_4 : decode cX4_firstFault 4 = .ok (.aload_n 1, 1) := by decide +kernel
theorem dX4_firstFault_5 : decode cX4_firstFault 5 = .ok (.invokevirtual 32, 3) := by decide +kernel
theorem dX4_firstFault_8 : decode cX4_firstFault 8 = .ok (.iconst 1, 1) := by decide +kernel
theorem dX4_firstFault_9 : decode cX4_firstFault 9 = .ok (.istore_n 3, 1) := by decide +kernel
theorem dX4_firstFault_10 : decode cX4_firstFault 10 = .ok (.iload_n 3, 1) := by decide +kernel
theorem dX4_firstFault_11 : decode cX4_firstFault 11 = .ok (.bipush 100, 2) := by decide +kernel
theorem dX4_firstFault_13 : decode cX4_firstFault 13 = .ok (.if_icmp .gt 36, 3) := by decide +kernel
theorem dX4_firstFault_16 : decode cX4_firstFault 16 = .ok (.aload_n 0, 1) := by decide +kernel
theorem dX4_firstFault_17 : decode cX4_firstFault 17 = .ok (.getfield 21, 3) := by decide +kernel
theorem dX4_firstFault_20 : decode cX4_firstFault 20 = .ok (.invokevirtual 36, 3) := by decide +kernel
theorem dX4_firstFault_23 : decode cX4_firstFault 23 = .ok (.ifCond .eq 26, 3) := by decide +kernel
theorem dX4_firstFault_26 : decode cX4_firstFault 26 = .ok (.aload_n 0, 1) := by decide +kernel
theorem dX4_firstFault_27 : decode cX4_firstFault 27 = .ok (.getfield 12, 3) := by decide +kernel
theorem dX4_firstFault_30 : decode cX4_firstFault 30 = .ok (.aload_n 0, 1) := by decide +kernel
theorem dX4_firstFault_31 : decode cX4_firstFault 31 = .ok (.getfield 21, 3) := by decide +kernel
theorem dX4_firstFault_34 : decode cX4_firstFault 34 = .ok (.invokevirtual 40, 3) := by decide +kernel
theorem dX4_firstFault_37 : decode cX4_firstFault 37 = .ok (.iload_n 2, 1) := by decide +kernel
theorem dX4_firstFault_38 : decode cX4_firstFault 38 = .ok (.if_icmp .ne 5, 3) := by decide +kernel
theorem dX4_firstFault_41 : decode cX4_firstFault 41 = .ok (.iload_n 3, 1) := by decide +kernel
theorem dX4_firstFault_42 : decode cX4_firstFault 42 = .ok (.ireturn, 1) := by decide +kernel
theorem dX4_firstFault_43 : decode cX4_firstFault 43 = .ok (.iinc 3 1, 3) := by decide +kernel
theorem dX4_firstFault_46 : decode cX4_firstFault 46 = .ok (.goto (-36), 3) := by decide +kernel
theorem dX4_firstFault_49 : decode cX4_firstFault 49 = .ok (.iconst (-1), 1) := by decide +kernel
theorem dX4_firstFault_50 : decode cX4_firstFault 50 = .ok (.ireturn, 1) := by decide +kernel
theorem dX4_firstRest_0 : decode cX4_firstRest 0 = .ok (.aload_n 0, 1) := by decide +kernel
theorem dX4_firstRest_1 : decode cX4_firstRest 1 = .ok (.getfield 21, 3) := by decide +kernel
theorem dX4_firstRest_4 : decode cX4_firstRest 4 = .ok (.aload_n 1, 1) := by decide +kernel
theorem dX4_firstRest_5 : decode cX4_firstRest 5 = .ok (.invokevirtual 32, 3) := by decide +kernel
theorem dX4_firstRest_8 : decode cX4_firstRest 8 = .ok (.iconst 0, 1) := by decide +kernel
theorem dX4_firstRest_9 : decode cX4_firstRest 9 = .ok (.istore_n 2, 1) := by decide +kernel
theorem dX4_firstRest_10 : decode cX4_firstRest 10 = .ok (.iload_n 2, 1) := by decide +kernel
theorem dX4_firstRest_11 : decode cX4_firstRest 11 = .ok (.bipush 100, 2) := by decide +kernel
theorem dX4_firstRest_13 : decode cX4_firstRest 13 = .ok (.if_icmp .gt 33, 3) := by decide +kernel
theorem dX4_firstRest_16 : decode cX4_firstRest 16 = .ok (.aload_n 0, 1) := by decide +kernel
theorem dX4_firstRest_17 : decode cX4_firstRest 17 = .ok (.getfield 21, 3) := by decide +kernel
theorem dX4_firstRest_20 : decode cX4_firstRest 20 = .ok (.invokevirtual 36, 3) := by decide +kernel
theorem dX4_firstRest_23 : decode cX4_firstRest 23 = .ok (.ifCond .ne 5, 3) := by decide +kernel
theorem dX4_firstRest_26 : decode cX4_firstRest 26 = .ok (.iload_n 2, 1) := by decide +kernel
theorem dX4_firstRest_27 : decode cX4_firstRest 27 = .ok (.ireturn, 1) := by decide +kernel
theorem dX4_firstRest_28 : decode cX4_firstRest 28 = .ok (.aload_n 0, 1) := by decide +kernel
theorem dX4_firstRest_29 : decode cX4_firstRest 29 = .ok (.getfield 12, 3) := by decide +kernel
theorem dX4_firstRest_32 : decode cX4_firstRest 32 = .ok (.aload_n 0, 1) := by decide +kernel
theorem dX4_firstRest_33 : decode cX4_firstRest 33 = .ok (.getfield 21, 3) := by decide +kernel
theorem dX4_firstRest_36 : decode cX4_firstRest 36 = .ok (.invokevirtual 40, 3) := by decide +kernel
theorem dX4_firstRest_39 : decode cX4_firstRest 39 = .ok (.pop, 1) := by decide +kernel
theorem dX4_firstRest_40 : decode cX4_firstRest 40 = .ok (.iinc 2 1, 3) := by decide +kernel
theorem dX4_firstRest_43 : decode cX4_firstRest 43 = .ok (.goto (-33), 3) := by decide +kernel
theorem dX4_firstRest_46 : decode cX4_firstRest 46 = .ok (.iconst (-1), 1) := by decide +kernel
theorem dX4_firstRest_47 : decode cX4_firstRest 47 = .ok (.ireturn, 1) := by decide +kernel
theorem dX4_firstChange_0 : decode cX4_firstChange 0 = .ok (.aload_n 0, 1) := by decide +kernel
theorem dX4_firstChange_1 : decode cX4_firstChange 1 = .ok (.getfield 21, 3) := by decide +kernel
theorem dX4_firstChange_4 : decode cX4_firstChange 4 = .ok (.aload_n 1, 1) := by decide +kernel
theorem dX4_firstChange_5 : decode cX4_firstChange 5 = .ok (.invokevirtual 32, 3) := by decide +kernel
theorem dX4_firstChange_8 : decode cX4_firstChange 8 = .ok (.iconst 1, 1) := by decide +kernel
theorem dX4_firstChange_9 : decode cX4_firstChange 9 = .ok (.istore_n 3, 1) := by decide +kernel
theorem dX4_firstChange_10 : decode cX4_firstChange 10 = .ok (.iload_n 3, 1) := by decide +kernel
theorem dX4_firstChange_11 : decode cX4_firstChange 11 = .ok (.bipush 100, 2) := by decide +kernel
theorem dX4_firstChange_13 : decode cX4_firstChange 13 = .ok (.if_icmp .gt 49, 3) := by decide +kernel
theorem dX4_firstChange_16 : decode cX4_firstChange 16 = .ok (.aload_n 0, 1) := by decide +kernel
theorem dX4_firstChange_17 : decode cX4_firstChange 17 = .ok (.getfield 21, 3) := by decide +kernel
theorem dX4_firstChange_20 : decode cX4_firstChange 20 = .ok (.invokevirtual 36, 3) := by decide +kernel
theorem dX4_firstChange_23 : decode cX4_firstChange 23 = .ok (.ifCond .eq 39, 3) := by decide +kernel
theorem dX4_firstChange_26 : decode cX4_firstChange 26 = .ok (.aload_n 0, 1) := by decide +kernel
theorem dX4_firstChange_27 : decode cX4_firstChange 27 = .ok (.getfield 12, 3) := by decide +kernel
theorem dX4_firstChange_30 : decode cX4_firstChange 30 = .ok (.aload_n 0, 1) := by decide +kernel
theorem dX4_firstChange_31 : decode cX4_firstChange 31 = .ok (.getfield 21, 3) := by decide +kernel
theorem dX4_firstChange_34 : decode cX4_firstChange 34 = .ok (.invokevirtual 40, 3) := by decide +kernel
theorem dX4_firstChange_37 : decode cX4_firstChange 37 = .ok (.pop, 1) := by decide +kernel
theorem dX4_firstChange_38 : decode cX4_firstChange 38 = .ok (.aload_n 0, 1) := by decide +kernel
theorem dX4_firstChange_39 : decode cX4_firstChange 39 = .ok (.getfield 21, 3) := by decide +kernel
theorem dX4_firstChange_42 : decode cX4_firstChange 42 = .ok (.iload_n 2, 1) := by decide +kernel
theorem dX4_firstChange_43 : decode cX4_firstChange 43 = .ok (.invokevirtual 44, 3) := by decide +kernel
theorem dX4_firstChange_46 : decode cX4_firstChange 46 = .ok (.aload_n 1, 1) := by decide +kernel
theorem dX4_firstChange_47 : decode cX4_firstChange 47 = .ok (.iload_n 2, 1) := by decide +kernel
theorem dX4_firstChange_48 : decode cX4_firstChange 48 = .ok (.invokevirtual 44, 3) := by decide +kernel
theorem dX4_firstChange_51 : decode cX4_firstChange 51 = .ok (.if_icmp .eq 5, 3) := by decide +kernel
theorem dX4_firstChange_54 : decode cX4_firstChange 54 = .ok (.iload_n 3, 1) := by decide +kernel
theorem dX4_firstChange_55 : decode cX4_firstChange 55 = .ok (.ireturn, 1) := by decide +kernel
theorem dX4_firstChange_56 : decode cX4_firstChange 56 = .ok (.iinc 3 1, 3) := by decide +kernel
theorem dX4_firstChange_59 : decode cX4_firstChange 59 = .ok (.goto (-49), 3) := by decide +kernel
theorem dX4_firstChange_62 : decode cX4_firstChange 62 = .ok (.iconst (-1), 1) := by decide +kernel
theorem dX4_firstChange_63 : decode cX4_firstChange 63 = .ok (.ireturn, 1) := by decide +kernel
theorem dX4_firstReturn_0 : decode cX4_firstReturn 0 = .ok (.aload_n 0, 1) := by decide +kernel
theorem dX4_firstReturn_1 : decode cX4_firstReturn 1 = .ok (.getfield 21, 3) := by decide +kernel
theorem dX4_firstReturn_4 : decode cX4_firstReturn 4 = .ok (.aload_n 1, 1) := by decide +kernel
theorem dX4_firstReturn_5 : decode cX4_firstReturn 5 = .ok (.invokevirtual 32, 3) := by decide +kernel
theorem dX4_firstReturn_8 : decode cX4_firstReturn 8 = .ok (.iconst 1, 1) := by decide +kernel
theorem dX4_firstReturn_9 : decode cX4_firstReturn 9 = .ok (.istore_n 2, 1) := by decide +kernel
theorem dX4_firstReturn_10 : decode cX4_firstReturn 10 = .ok (.iload_n 2, 1) := by decide +kernel
theorem dX4_firstReturn_11 : decode cX4_firstReturn 11 = .ok (.bipush 100, 2) := by decide +kernel
theorem dX4_firstReturn_13 : decode cX4_firstReturn 13 = .ok (.if_icmp .gt 48, 3) := by decide +kernel
theorem dX4_firstReturn_16 : decode cX4_firstReturn 16 = .ok (.aload_n 0, 1) := by decide +kernel
theorem dX4_firstReturn_17 : decode cX4_firstReturn 17 = .ok (.getfield 21, 3) := by decide +kernel
theorem dX4_firstReturn_20 : decode cX4_firstReturn 20 = .ok (.invokevirtual 36, 3) := by decide +kernel
theorem dX4_firstReturn_23 : decode cX4_firstReturn 23 = .ok (.ifCond .eq 15, 3) := by decide +kernel
theorem dX4_firstReturn_26 : decode cX4_firstReturn 26 = .ok (.aload_n 0, 1) := by decide +kernel
theorem dX4_firstReturn_27 : decode cX4_firstReturn 27 = .ok (.getfield 12, 3) := by decide +kernel
theorem dX4_firstReturn_30 : decode cX4_firstReturn 30 = .ok (.aload_n 0, 1) := by decide +kernel
theorem dX4_firstReturn_31 : decode cX4_firstReturn 31 = .ok (.getfield 21, 3) := by decide +kernel
theorem dX4_firstReturn_34 : decode cX4_firstReturn 34 = .ok (.invokevirtual 40, 3) := by decide +kernel
theorem dX4_firstReturn_37 : decode cX4_firstReturn 37 = .ok (.pop, 1) := by decide +kernel
theorem dX4_firstReturn_38 : decode cX4_firstReturn 38 = .ok (.aload_n 0, 1) := by decide +kernel
theorem dX4_firstReturn_39 : decode cX4_firstReturn 39 = .ok (.getfield 21, 3) := by decide +kernel
theorem dX4_firstReturn_42 : decode cX4_firstReturn 42 = .ok (.aload_n 1, 1) := by decide +kernel
theorem dX4_firstReturn_43 : decode cX4_firstReturn 43 = .ok (.sipush 276, 3) := by decide +kernel
theorem dX4_firstReturn_46 : decode cX4_firstReturn 46 = .ok (.iconst (-1), 1) := by decide +kernel
theorem dX4_firstReturn_47 : decode cX4_firstReturn 47 = .ok (.invokevirtual 48, 3) := by decide +kernel
theorem dX4_firstReturn_50 : decode cX4_firstReturn 50 = .ok (.ifCond .eq 5, 3) := by decide +kernel
theorem dX4_firstReturn_53 : decode cX4_firstReturn 53 = .ok (.iload_n 2, 1) := by decide +kernel
theorem dX4_firstReturn_54 : decode cX4_firstReturn 54 = .ok (.ireturn, 1) := by decide +kernel
theorem dX4_firstReturn_55 : decode cX4_firstReturn 55 = .ok (.iinc 2 1, 3) := by decide +kernel
theorem dX4_firstReturn_58 : decode cX4_firstReturn 58 = .ok (.goto (-48), 3) := by decide +kernel
theorem dX4_firstReturn_61 : decode cX4_firstReturn 61 = .ok (.iconst (-1), 1) := by decide +kernel
theorem dX4_firstReturn_62 : decode cX4_firstReturn 62 = .ok (.ireturn, 1) := by decide +kernel
theorem dX4_spoil_0 : decode cX4_spoil 0 = .ok (.aload_n 0, 1) := by decide +kernel
theorem dX4_spoil_1 : decode cX4_spoil 1 = .ok (.invokevirtual 52, 3) := by decide +kernel
theorem dX4_spoil_4 : decode cX4_spoil 4 = .ok (.aload_n 0, 1) := by decide +kernel
theorem dX4_spoil_5 : decode cX4_spoil 5 = .ok (.getfield 25, 3) := by decide +kernel
theorem dX4_spoil_8 : decode cX4_spoil 8 = .ok (.aload_n 1, 1) := by decide +kernel
theorem dX4_spoil_9 : decode cX4_spoil 9 = .ok (.invokevirtual 32, 3) := by decide +kernel
theorem dX4_spoil_12 : decode cX4_spoil 12 = .ok (.aload_n 0, 1) := by decide +kernel
theorem dX4_spoil_13 : decode cX4_spoil 13 = .ok (.aload_n 0, 1) := by decide +kernel
theorem dX4_spoil_14 : decode cX4_spoil 14 = .ok (.getfield 25, 3) := by decide +kernel
theorem dX4_spoil_17 : decode cX4_spoil 17 = .ok (.iload 4, 2) := by decide +kernel
theorem dX4_spoil_19 : decode cX4_spoil 19 = .ok (.invokevirtual 55, 3) := by decide +kernel
theorem dX4_spoil_22 : decode cX4_spoil 22 = .ok (.ifCond .ne 7, 3) := by decide +kernel
theorem dX4_spoil_25 : decode cX4_spoil 25 = .ok (.iconst 1, 1) := by decide +kernel
theorem dX4_spoil_26 : decode cX4_spoil 26 = .ok (.goto 4, 3) := by decide +kernel
theorem dX4_spoil_29 : decode cX4_spoil 29 = .ok (.iconst 0, 1) := by decide +kernel
theorem dX4_spoil_30 : decode cX4_spoil 30 = .ok (.istore 6, 2) := by decide +kernel
theorem dX4_spoil_32 : decode cX4_spoil 32 = .ok (.iconst 2, 1) := by decide +kernel
theorem dX4_spoil_33 : decode cX4_spoil 33 = .ok (.iload_n 2, 1) := by decide +kernel
theorem dX4_spoil_34 : decode cX4_spoil 34 = .ok (.imul, 1) := by decide +kernel
theorem dX4_spoil_35 : decode cX4_spoil 35 = .ok (.istore 7, 2) := by decide +kernel
theorem dX4_spoil_37 : decode cX4_spoil 37 = .ok (.iload 7, 2) := by decide +kernel
theorem dX4_spoil_39 : decode cX4_spoil 39 = .ok (.iconst 2, 1) := by decide +kernel
theorem dX4_spoil_40 : decode cX4_spoil 40 = .ok (.iload_n 2, 1) := by decide +kernel
theorem dX4_spoil_41 : decode cX4_spoil 41 = .ok (.iload_n 3, 1) := by decide +kernel
theorem dX4_spoil_42 : decode cX4_spoil 42 = .ok (.iadd, 1) := by decide +kernel
theorem dX4_spoil_43 : decode cX4_spoil 43 = .ok (.imul, 1) := by decide +kernel
theorem dX4_spoil_44 : decode cX4_spoil 44 = .ok (.if_icmp .ge 85, 3) := by decide +kernel
theorem dX4_spoil_47 : decode cX4_spoil 47 = .ok (.iconst 0, 1) := by decide +kernel
theorem dX4_spoil_48 : decode cX4_spoil 48 = .ok (.istore 8, 2) := by decide +kernel
theorem dX4_spoil_50 : decode cX4_spoil 50 = .ok (.iload 8, 2) := by decide +kernel
theorem dX4_spoil_52 : decode cX4_spoil 52 = .ok (.bipush 16, 2) := by decide +kernel
theorem dX4_spoil_54 : decode cX4_spoil 54 = .ok (.if_icmp .ge 69, 3) := by decide +kernel
theorem dX4_spoil_57 : decode cX4_spoil 57 = .ok (.iload 8, 2) := by decide +kernel
theorem dX4_spoil_59 : decode cX4_spoil 59 = .ok (.aload_n 1, 1) := by decide +kernel
theorem dX4_spoil_60 : decode cX4_spoil 60 = .ok (.iload 7, 2) := by decide +kernel
theorem dX4_spoil_62 : decode cX4_spoil 62 = .ok (.invokevirtual 59, 3) := by decide +kernel
theorem dX4_spoil_65 : decode cX4_spoil 65 = .ok (.if_icmp .eq 52, 3) := by decide +kernel
theorem dX4_spoil_68 : decode cX4_spoil 68 = .ok (.aload_n 0, 1) := by decide +kernel
theorem dX4_spoil_69 : decode cX4_spoil 69 = .ok (.getfield 21, 3) := by decide +kernel
theorem dX4_spoil_72 : decode cX4_spoil 72 = .ok (.aload_n 1, 1) := by decide +kernel
theorem dX4_spoil_73 : decode cX4_spoil 73 = .ok (.invokevirtual 32, 3) := by decide +kernel
theorem dX4_spoil_76 : decode cX4_spoil 76 = .ok (.aload_n 0, 1) := by decide +kernel
theorem dX4_spoil_77 : decode cX4_spoil 77 = .ok (.getfield 21, 3) := by decide +kernel
theorem dX4_spoil_80 : decode cX4_spoil 80 = .ok (.iload 7, 2) := by decide +kernel
theorem dX4_spoil_82 : decode cX4_spoil 82 = .ok (.iload 8, 2) := by decide +kernel
theorem dX4_spoil_84 : decode cX4_spoil 84 = .ok (.invokevirtual 62, 3) := by decide +kernel
theorem dX4_spoil_87 : decode cX4_spoil 87 = .ok (.aload_n 0, 1) := by decide +kernel
theorem dX4_spoil_88 : decode cX4_spoil 88 = .ok (.aload_n 0, 1) := by decide +kernel
theorem dX4_spoil_89 : decode cX4_spoil 89 = .ok (.getfield 21, 3) := by decide +kernel
theorem dX4_spoil_92 : decode cX4_spoil 92 = .ok (.iload 4, 2) := by decide +kernel
theorem dX4_spoil_94 : decode cX4_spoil 94 = .ok (.invokevirtual 55, 3) := by decide +kernel
theorem dX4_spoil_97 : decode cX4_spoil 97 = .ok (.istore 9, 2) := by decide +kernel
theorem dX4_spoil_99 : decode cX4_spoil 99 = .ok (.aload_n 0, 1) := by decide +kernel
theorem dX4_spoil_100 : decode cX4_spoil 100 = .ok (.iload 7, 2) := by decide +kernel
theorem dX4_spoil_102 : decode cX4_spoil 102 = .ok (.iload 8, 2) := by decide +kernel
theorem dX4_spoil_104 : decode cX4_spoil 104 = .ok (.aload_n 0, 1) := by decide +kernel
theorem dX4_spoil_105 : decode cX4_spoil 105 = .ok (.iload 7, 2) := by decide +kernel
theorem dX4_spoil_107 : decode cX4_spoil 107 = .ok (.iload 9, 2) := by decide +kernel
theorem dX4_spoil_109 : decode cX4_spoil 109 = .ok (.iload 6, 2) := by decide +kernel
theorem dX4_spoil_111 : decode cX4_spoil 111 = .ok (.invokevirtual 66, 3) := by decide +kernel
theorem dX4_spoil_114 : decode cX4_spoil 114 = .ok (.invokevirtual 70, 3) := by decide +kernel
theorem dX4_spoil_117 : decode cX4_spoil 117 = .ok (.iinc 8 1, 3) := by decide +kernel
theorem dX4_spoil_120 : decode cX4_spoil 120 = .ok (.goto (-70), 3) := by decide +kernel
theorem dX4_spoil_123 : decode cX4_spoil 123 = .ok (.iinc 7 1, 3) := by decide +kernel
theorem dX4_spoil_126 : decode cX4_spoil 126 = .ok (.goto (-89), 3) := by decide +kernel
theorem dX4_spoil_129 : decode cX4_spoil 129 = .ok (.aload_n 0, 1) := by decide +kernel
theorem dX4_spoil_130 : decode cX4_spoil 130 = .ok (.iload 5, 2) := by decide +kernel
theorem dX4_spoil_132 : decode cX4_spoil 132 = .ok (.invokevirtual 74, 3) := by decide +kernel
theorem dX4_spoil_135 : decode cX4_spoil 135 = .ok (.ireturn, 1) := by decide +kernel
theorem dX4_runToFault_0 : decode cX4_runToFault 0 = .ok (.iconst 0, 1) := by decide +kernel
theorem dX4_runToFault_1 : decode cX4_runToFault 1 = .ok (.istore_n 3, 1) := by decide +kernel
theorem dX4_runToFault_2 : decode cX4_runToFault 2 = .ok (.iconst 0, 1) := by decide +kernel
theorem dX4_runToFault_3 : decode cX4_runToFault 3 = .ok (.istore 4, 2) := by decide +kernel
theorem dX4_runToFault_5 : decode cX4_runToFault 5 = .ok (.iload 4, 2) := by decide +kernel
theorem dX4_runToFault_7 : decode cX4_runToFault 7 = .ok (.iload_n 2, 1) := by decide +kernel
theorem dX4_runToFault_8 : decode cX4_runToFault 8 = .ok (.if_icmp .ge 29, 3) := by decide +kernel
theorem dX4_runToFault_11 : decode cX4_runToFault 11 = .ok (.aload_n 1, 1) := by decide +kernel
theorem dX4_runToFault_12 : decode cX4_runToFault 12 = .ok (.invokevirtual 36, 3) := by decide +kernel
theorem dX4_runToFault_15 : decode cX4_runToFault 15 = .ok (.ifCond .eq 22, 3) := by decide +kernel
theorem dX4_runToFault_18 : decode cX4_runToFault 18 = .ok (.iload_n 3, 1) := by decide +kernel
theorem dX4_runToFault_19 : decode cX4_runToFault 19 = .ok (.ifCond .ne 18, 3) := by decide +kernel
theorem dX4_runToFault_22 : decode cX4_runToFault 22 = .ok (.aload_n 0, 1) := by decide +kernel
theorem dX4_runToFault_23 : decode cX4_runToFault 23 = .ok (.getfield 12, 3) := by decide +kernel
theorem dX4_runToFault_26 : decode cX4_runToFault 26 = .ok (.aload_n 1, 1) := by decide +kernel
theorem dX4_runToFault_27 : decode cX4_runToFault 27 = .ok (.invokevirtual 40, 3) := by decide +kernel
theorem dX4_runToFault_30 : decode cX4_runToFault 30 = .ok (.istore_n 3, 1) := by decide +kernel
theorem dX4_runToFault_31 : decode cX4_runToFault 31 = .ok (.iinc 4 1, 3) := by decide +kernel
theorem dX4_runToFault_34 : decode cX4_runToFault 34 = .ok (.goto (-29), 3) := by decide +kernel
theorem dX4_runToFault_37 : decode cX4_runToFault 37 = .ok (.iload_n 3, 1) := by decide +kernel
theorem dX4_runToFault_38 : decode cX4_runToFault 38 = .ok (.ireturn, 1) := by decide +kernel
theorem dX4_verdict_0 : decode cX4_verdict 0 = .ok (.iload_n 2, 1) := by decide +kernel
theorem dX4_verdict_1 : decode cX4_verdict 1 = .ok (.iconst 4, 1) := by decide +kernel
theorem dX4_verdict_2 : decode cX4_verdict 2 = .ok (.if_icmp .eq 8, 3) := by decide +kernel
theorem dX4_verdict_5 : decode cX4_verdict 5 = .ok (.iload_n 2, 1) := by decide +kernel
theorem dX4_verdict_6 : decode cX4_verdict 6 = .ok (.iconst 5, 1) := by decide +kernel
theorem dX4_verdict_7 : decode cX4_verdict 7 = .ok (.if_icmp .ne 7, 3) := by decide +kernel
theorem dX4_verdict_10 : decode cX4_verdict 10 = .ok (.iconst 1, 1) := by decide +kernel
theorem dX4_verdict_11 : decode cX4_verdict 11 = .ok (.goto 4, 3) := by decide +kernel
theorem dX4_verdict_14 : decode cX4_verdict 14 = .ok (.iconst 0, 1) := by decide +kernel
theorem dX4_verdict_15 : decode cX4_verdict 15 = .ok (.istore 4, 2) := by decide +kernel
theorem dX4_verdict_17 : decode cX4_verdict 17 = .ok (.iload 4, 2) := by decide +kernel
theorem dX4_verdict_19 : decode cX4_verdict 19 = .ok (.ifCond .eq 37, 3) := by decide +kernel
theorem dX4_verdict_22 : decode cX4_verdict 22 = .ok (.aload_n 0, 1) := by decide +kernel
theorem dX4_verdict_23 : decode cX4_verdict 23 = .ok (.getfield 21, 3) := by decide +kernel
theorem dX4_verdict_26 : decode cX4_verdict 26 = .ok (.sipush 284, 3) := by decide +kernel
theorem dX4_verdict_29 : decode cX4_verdict 29 = .ok (.invokevirtual 44, 3) := by decide +kernel
theorem dX4_verdict_32 : decode cX4_verdict 32 = .ok (.iload_n 1, 1) := by decide +kernel
theorem dX4_verdict_33 : decode cX4_verdict 33 = .ok (.iconst 1, 1) := by decide +kernel
theorem dX4_verdict_34 : decode cX4_verdict 34 = .ok (.ishr, 1) := by decide +kernel
theorem dX4_verdict_35 : decode cX4_verdict 35 = .ok (.if_icmp .ne 21, 3) := by decide +kernel
theorem dX4_verdict_38 : decode cX4_verdict 38 = .ok (.aload_n 0, 1) := by decide +kernel
theorem dX4_verdict_39 : decode cX4_verdict 39 = .ok (.getfield 21, 3) := by decide +kernel
theorem dX4_verdict_42 : decode cX4_verdict 42 = .ok (.sipush 285, 3) := by decide +kernel
theorem dX4_verdict_45 : decode cX4_verdict 45 = .ok (.invokevirtual 44, 3) := by decide +kernel
theorem dX4_verdict_48 : decode cX4_verdict 48 = .ok (.iload_n 1, 1) := by decide +kernel
theorem dX4_verdict_49 : decode cX4_verdict 49 = .ok (.iconst 1, 1) := by decide +kernel
theorem dX4_verdict_50 : decode cX4_verdict 50 = .ok (.iand, 1) := by decide +kernel
theorem dX4_verdict_51 : decode cX4_verdict 51 = .ok (.if_icmp .ne 5, 3) := by decide +kernel
theorem dX4_verdict_54 : decode cX4_verdict 54 = .ok (.iconst 0, 1) := by decide +kernel
theorem dX4_verdict_55 : decode cX4_verdict 55 = .ok (.ireturn, 1) := by decide +kernel
theorem dX4_verdict_56 : decode cX4_verdict 56 = .ok (.iload_n 2, 1) := by decide +kernel
theorem dX4_verdict_57 : decode cX4_verdict 57 = .ok (.ifCond .ne 31, 3) := by decide +kernel
theorem dX4_verdict_60 : decode cX4_verdict 60 = .ok (.iload_n 3, 1) := by decide +kernel
theorem dX4_verdict_61 : decode cX4_verdict 61 = .ok (.ifCond .eq 27, 3) := by decide +kernel
theorem dX4_verdict_64 : decode cX4_verdict 64 = .ok (.aload_n 0, 1) := by decide +kernel
theorem dX4_verdict_65 : decode cX4_verdict 65 = .ok (.getfield 21, 3) := by decide +kernel
theorem dX4_verdict_68 : decode cX4_verdict 68 = .ok (.aload_n 0, 1) := by decide +kernel
theorem dX4_verdict_69 : decode cX4_verdict 69 = .ok (.getfield 25, 3) := by decide +kernel
theorem dX4_verdict_72 : decode cX4_verdict 72 = .ok (.sipush 266, 3) := by decide +kernel
theorem dX4_verdict_75 : decode cX4_verdict 75 = .ok (.iload_n 1, 1) := by decide +kernel
theorem dX4_verdict_76 : decode cX4_verdict 76 = .ok (.iconst 1, 1) := by decide +kernel
theorem dX4_verdict_77 : decode cX4_verdict 77 = .ok (.ishr, 1) := by decide +kernel
theorem dX4_verdict_78 : decode cX4_verdict 78 = .ok (.invokevirtual 48, 3) := by decide +kernel
theorem dX4_verdict_81 : decode cX4_verdict 81 = .ok (.ifCond .eq 7, 3) := by decide +kernel
theorem dX4_verdict_84 : decode cX4_verdict 84 = .ok (.iconst 1, 1) := by decide +kernel
theorem dX4_verdict_85 : decode cX4_verdict 85 = .ok (.goto 4, 3) := by decide +kernel
theorem dX4_verdict_88 : decode cX4_verdict 88 = .ok (.iconst 2, 1) := by decide +kernel
theorem dX4_verdict_89 : decode cX4_verdict 89 = .ok (.ireturn, 1) := by decide +kernel
theorem dX4_judge_0 : decode cX4_judge 0 = .ok (.aload_n 0, 1) := by decide +kernel
theorem dX4_judge_1 : decode cX4_judge 1 = .ok (.getfield 28, 3) := by decide +kernel
theorem dX4_judge_4 : decode cX4_judge 4 = .ok (.iload_n 3, 1) := by decide +kernel
theorem dX4_judge_5 : decode cX4_judge 5 = .ok (.dup2, 1) := by decide +kernel
theorem dX4_judge_6 : decode cX4_judge 6 = .ok (.iaload, 1) := by decide +kernel
theorem dX4_judge_7 : decode cX4_judge 7 = .ok (.iconst 1, 1) := by decide +kernel
theorem dX4_judge_8 : decode cX4_judge 8 = .ok (.iadd, 1) := by decide +kernel
theorem dX4_judge_9 : decode cX4_judge 9 = .ok (.iastore, 1) := by decide +kernel
theorem dX4_judge_10 : decode cX4_judge 10 = .ok (.iload_n 3, 1) := by decide +kernel
theorem dX4_judge_11 : decode cX4_judge 11 = .ok (.iconst 2, 1) := by decide +kernel
theorem dX4_judge_12 : decode cX4_judge 12 = .ok (.if_icmp .ne 25, 3) := by decide +kernel
theorem dX4_judge_15 : decode cX4_judge 15 = .ok (.aload_n 0, 1) := by decide +kernel
theorem dX4_judge_16 : decode cX4_judge 16 = .ok (.getfield 28, 3) := by decide +kernel
theorem dX4_judge_19 : decode cX4_judge 19 = .ok (.iconst 3, 1) := by decide +kernel
theorem dX4_judge_20 : decode cX4_judge 20 = .ok (.iaload, 1) := by decide +kernel
theorem dX4_judge_21 : decode cX4_judge 21 = .ok (.iconst (-1), 1) := by decide +kernel
theorem dX4_judge_22 : decode cX4_judge 22 = .ok (.if_icmp .ne 15, 3) := by decide +kernel
theorem dX4_judge_25 : decode cX4_judge 25 = .ok (.aload_n 0, 1) := by decide +kernel
theorem dX4_judge_26 : decode cX4_judge 26 = .ok (.getfield 28, 3) := by decide +kernel
theorem dX4_judge_29 : decode cX4_judge 29 = .ok (.iconst 3, 1) := by decide +kernel
theorem dX4_judge_30 : decode cX4_judge 30 = .ok (.bipush 100, 2) := by decide +kernel
theorem dX4_judge_32 : decode cX4_judge 32 = .ok (.iload_n 1, 1) := by decide +kernel
theorem dX4_judge_33 : decode cX4_judge 33 = .ok (.imul, 1) := by decide +kernel
theorem dX4_judge_34 : decode cX4_judge 34 = .ok (.iload_n 2, 1) := by decide +kernel
theorem dX4_judge_35 : decode cX4_judge 35 = .ok (.iadd, 1) := by decide +kernel
theorem dX4_judge_36 : decode cX4_judge 36 = .ok (.iastore, 1) := by decide +kernel
theorem dX4_judge_37 : decode cX4_judge 37 = .ok (.return_, 1) := by decide +kernel
theorem dX4_blame_0 : decode cX4_blame 0 = .ok (.aload_n 0, 1) := by decide +kernel
theorem dX4_blame_1 : decode cX4_blame 1 = .ok (.invokevirtual 52, 3) := by decide +kernel
theorem dX4_blame_4 : decode cX4_blame 4 = .ok (.aload_n 0, 1) := by decide +kernel
theorem dX4_blame_5 : decode cX4_blame 5 = .ok (.getfield 28, 3) := by decide +kernel
theorem dX4_blame_8 : decode cX4_blame 8 = .ok (.iconst 1, 1) := by decide +kernel
theorem dX4_blame_9 : decode cX4_blame 9 = .ok (.iconst (-1), 1) := by decide +kernel
theorem dX4_blame_10 : decode cX4_blame 10 = .ok (.iastore, 1) := by decide +kernel
theorem dX4_blame_11 : decode cX4_blame 11 = .ok (.aload_n 1, 1) := by decide +kernel
theorem dX4_blame_12 : decode cX4_blame 12 = .ok (.getfield 76, 3) := by decide +kernel
theorem dX4_blame_15 : decode cX4_blame 15 = .ok (.astore 5, 2) := by decide +kernel
theorem dX4_blame_17 : decode cX4_blame 17 = .ok (.iconst 2, 1) := by decide +kernel
theorem dX4_blame_18 : decode cX4_blame 18 = .ok (.iload_n 2, 1) := by decide +kernel
theorem dX4_blame_19 : decode cX4_blame 19 = .ok (.imul, 1) := by decide +kernel
theorem dX4_blame_20 : decode cX4_blame 20 = .ok (.istore 6, 2) := by decide +kernel
theorem dX4_blame_22 : decode cX4_blame 22 = .ok (.iload 6, 2) := by decide +kernel
theorem dX4_blame_24 : decode cX4_blame 24 = .ok (.iconst 2, 1) := by decide +kernel
theorem dX4_blame_25 : decode cX4_blame 25 = .ok (.iload_n 2, 1) := by decide +kernel
theorem dX4_blame_26 : decode cX4_blame 26 = .ok (.iload_n 3, 1) := by decide +kernel
theorem dX4_blame_27 : decode cX4_blame 27 = .ok (.iadd, 1) := by decide +kernel
theorem dX4_blame_28 : decode cX4_blame 28 = .ok (.imul, 1) := by decide +kernel
theorem dX4_blame_29 : decode cX4_blame 29 = .ok (.if_icmp .ge 108, 3) := by decide +kernel
theorem dX4_blame_32 : decode cX4_blame 32 = .ok (.iconst 0, 1) := by decide +kernel
theorem dX4_blame_33 : decode cX4_blame 33 = .ok (.istore 7, 2) := by decide +kernel
theorem dX4_blame_35 : decode cX4_blame 35 = .ok (.iload 7, 2) := by decide +kernel
theorem dX4_blame_37 : decode cX4_blame 37 = .ok (.bipush 16, 2) := by decide +kernel
theorem dX4_blame_39 : decode cX4_blame 39 = .ok (.if_icmp .ge 92, 3) := by decide +kernel
theorem dX4_blame_42 : decode cX4_blame 42 = .ok (.aload_n 0, 1) := by decide +kernel
theorem dX4_blame_43 : decode cX4_blame 43 = .ok (.getfield 21, 3) := by decide +kernel
theorem dX4_blame_46 : decode cX4_blame 46 = .ok (.aload 5, 2) := by decide +kernel
theorem dX4_blame_48 : decode cX4_blame 48 = .ok (.invokevirtual 32, 3) := by decide +kernel
theorem dX4_blame_51 : decode cX4_blame 51 = .ok (.aload_n 0, 1) := by decide +kernel
theorem dX4_blame_52 : decode cX4_blame 52 = .ok (.getfield 21, 3) := by decide +kernel
theorem dX4_blame_55 : decode cX4_blame 55 = .ok (.iload 6, 2) := by decide +kernel
theorem dX4_blame_57 : decode cX4_blame 57 = .ok (.iload 7, 2) := by decide +kernel
theorem dX4_blame_59 : decode cX4_blame 59 = .ok (.invokevirtual 62, 3) := by decide +kernel
theorem dX4_blame_62 : decode cX4_blame 62 = .ok (.iload 7, 2) := by decide +kernel
theorem dX4_blame_64 : decode cX4_blame 64 = .ok (.aload 5, 2) := by decide +kernel
theorem dX4_blame_66 : decode cX4_blame 66 = .ok (.iload 6, 2) := by decide +kernel
theorem dX4_blame_68 : decode cX4_blame 68 = .ok (.invokevirtual 59, 3) := by decide +kernel
theorem dX4_blame_71 : decode cX4_blame 71 = .ok (.if_icmp .eq 54, 3) := by decide +kernel
theorem dX4_blame_74 : decode cX4_blame 74 = .ok (.aload_n 0, 1) := by decide +kernel
theorem dX4_blame_75 : decode cX4_blame 75 = .ok (.aload_n 1, 1) := by decide +kernel
theorem dX4_blame_76 : decode cX4_blame 76 = .ok (.invokevirtual 81, 3) := by decide +kernel
theorem dX4_blame_79 : decode cX4_blame 79 = .ok (.ifCond .eq 46, 3) := by decide +kernel
theorem dX4_blame_82 : decode cX4_blame 82 = .ok (.aload_n 0, 1) := by decide +kernel
theorem dX4_blame_83 : decode cX4_blame 83 = .ok (.getfield 28, 3) := by decide +kernel
theorem dX4_blame_86 : decode cX4_blame 86 = .ok (.iconst 0, 1) := by decide +kernel
theorem dX4_blame_87 : decode cX4_blame 87 = .ok (.dup2, 1) := by decide +kernel
theorem dX4_blame_88 : decode cX4_blame 88 = .ok (.iaload, 1) := by decide +kernel
theorem dX4_blame_89 : decode cX4_blame 89 = .ok (.iconst 1, 1) := by decide +kernel
theorem dX4_blame_90 : decode cX4_blame 90 = .ok (.iadd, 1) := by decide +kernel
theorem dX4_blame_91 : decode cX4_blame 91 = .ok (.iastore, 1) := by decide +kernel
theorem dX4_blame_92 : decode cX4_blame 92 = .ok (.aload_n 0, 1) := by decide +kernel
theorem dX4_blame_93 : decode cX4_blame 93 = .ok (.getfield 28, 3) := by decide +kernel
theorem dX4_blame_96 : decode cX4_blame 96 = .ok (.iconst 1, 1) := by decide +kernel
theorem dX4_blame_97 : decode cX4_blame 97 = .ok (.aload_n 0, 1) := by decide +kernel
theorem dX4_blame_98 : decode cX4_blame 98 = .ok (.getfield 28, 3) := by decide +kernel
theorem dX4_blame_101 : decode cX4_blame 101 = .ok (.iconst 1, 1) := by decide +kernel
theorem dX4_blame_102 : decode cX4_blame 102 = .ok (.iaload, 1) := by decide +kernel
theorem dX4_blame_103 : decode cX4_blame 103 = .ok (.iconst (-1), 1) := by decide +kernel
theorem dX4_blame_104 : decode cX4_blame 104 = .ok (.if_icmp .ne 14, 3) := by decide +kernel
theorem dX4_blame_107 : decode cX4_blame 107 = .ok (.bipush 100, 2) := by decide +kernel
theorem dX4_blame_109 : decode cX4_blame 109 = .ok (.iload 6, 2) := by decide +kernel
theorem dX4_blame_111 : decode cX4_blame 111 = .ok (.imul, 1) := by decide +kernel
theorem dX4_blame_112 : decode cX4_blame 112 = .ok (.iload 7, 2) := by decide +kernel
theorem dX4_blame_114 : decode cX4_blame 114 = .ok (.iadd, 1) := by decide +kernel
theorem dX4_blame_115 : decode cX4_blame 115 = .ok (.goto 9, 3) := by decide +kernel
theorem dX4_blame_118 : decode cX4_blame 118 = .ok (.aload_n 0, 1) := by decide +kernel
theorem dX4_blame_119 : decode cX4_blame 119 = .ok (.getfield 28, 3) := by decide +kernel
theorem dX4_blame_122 : decode cX4_blame 122 = .ok (.iconst 1, 1) := by decide +kernel
theorem dX4_blame_123 : decode cX4_blame 123 = .ok (.iaload, 1) := by decide +kernel
theorem dX4_blame_124 : decode cX4_blame 124 = .ok (.iastore, 1) := by decide +kernel
theorem dX4_blame_125 : decode cX4_blame 125 = .ok (.iinc 7 1, 3) := by decide +kernel
theorem dX4_blame_128 : decode cX4_blame 128 = .ok (.goto (-93), 3) := by decide +kernel
theorem dX4_blame_131 : decode cX4_blame 131 = .ok (.iinc 6 1, 3) := by decide +kernel
theorem dX4_blame_134 : decode cX4_blame 134 = .ok (.goto (-112), 3) := by decide +kernel
theorem dX4_blame_137 : decode cX4_blame 137 = .ok (.aload_n 0, 1) := by decide +kernel
theorem dX4_blame_138 : decode cX4_blame 138 = .ok (.getfield 21, 3) := by decide +kernel
theorem dX4_blame_141 : decode cX4_blame 141 = .ok (.aload 5, 2) := by decide +kernel
theorem dX4_blame_143 : decode cX4_blame 143 = .ok (.invokevirtual 32, 3) := by decide +kernel
theorem dX4_blame_146 : decode cX4_blame 146 = .ok (.aload_n 0, 1) := by decide +kernel
theorem dX4_blame_147 : decode cX4_blame 147 = .ok (.getfield 28, 3) := by decide +kernel
theorem dX4_blame_150 : decode cX4_blame 150 = .ok (.iconst 2, 1) := by decide +kernel
theorem dX4_blame_151 : decode cX4_blame 151 = .ok (.aload_n 0, 1) := by decide +kernel
theorem dX4_blame_152 : decode cX4_blame 152 = .ok (.aload_n 1, 1) := by decide +kernel
theorem dX4_blame_153 : decode cX4_blame 153 = .ok (.invokevirtual 81, 3) := by decide +kernel
theorem dX4_blame_156 : decode cX4_blame 156 = .ok (.ifCond .eq 7, 3) := by decide +kernel
theorem dX4_blame_159 : decode cX4_blame 159 = .ok (.iconst 1, 1) := by decide +kernel
theorem dX4_blame_160 : decode cX4_blame 160 = .ok (.goto 4, 3) := by decide +kernel
theorem dX4_blame_163 : decode cX4_blame 163 = .ok (.iconst 0, 1) := by decide +kernel
theorem dX4_blame_164 : decode cX4_blame 164 = .ok (.iastore, 1) := by decide +kernel
theorem dX4_blame_165 : decode cX4_blame 165 = .ok (.aload_n 0, 1) := by decide +kernel
theorem dX4_blame_166 : decode cX4_blame 166 = .ok (.iload 4, 2) := by decide +kernel
theorem dX4_blame_168 : decode cX4_blame 168 = .ok (.invokevirtual 74, 3) := by decide +kernel
theorem dX4_blame_171 : decode cX4_blame 171 = .ok (.ireturn, 1) := by decide +kernel
theorem dX4_bears_0 : decode cX4_bears 0 = .ok (.iconst 1, 1) := by decide +kernel
theorem dX4_bears_1 : decode cX4_bears 1 = .ok (.istore_n 2, 1) := by decide +kernel
theorem dX4_bears_2 : decode cX4_bears 2 = .ok (.aload_n 1, 1) := by decide +kernel
theorem dX4_bears_3 : decode cX4_bears 3 = .ok (.invokevirtual 85, 3) := by decide +kernel
theorem dX4_bears_6 : decode cX4_bears 6 = .ok (.istore_n 3, 1) := by decide +kernel
theorem dX4_bears_7 : decode cX4_bears 7 = .ok (.iconst 0, 1) := by decide +kernel
theorem dX4_bears_8 : decode cX4_bears 8 = .ok (.istore 4, 2) := by decide +kernel
theorem dX4_bears_10 : decode cX4_bears 10 = .ok (.iload 4, 2) := by decide +kernel
theorem dX4_bears_12 : decode cX4_bears 12 = .ok (.iload_n 3, 1) := by decide +kernel
theorem dX4_bears_13 : decode cX4_bears 13 = .ok (.if_icmp .gt 71, 3) := by decide +kernel
theorem dX4_bears_16 : decode cX4_bears 16 = .ok (.iload 4, 2) := by decide +kernel
theorem dX4_bears_18 : decode cX4_bears 18 = .ok (.bipush 60, 2) := by decide +kernel
theorem dX4_bears_20 : decode cX4_bears 20 = .ok (.if_icmp .gt 64, 3) := by decide +kernel
theorem dX4_bears_23 : decode cX4_bears 23 = .ok (.aload_n 1, 1) := by decide +kernel
theorem dX4_bears_24 : decode cX4_bears 24 = .ok (.aload_n 0, 1) := by decide +kernel
theorem dX4_bears_25 : decode cX4_bears 25 = .ok (.getfield 21, 3) := by decide +kernel
theorem dX4_bears_28 : decode cX4_bears 28 = .ok (.iload 4, 2) := by decide +kernel
theorem dX4_bears_30 : decode cX4_bears 30 = .ok (.invokevirtual 89, 3) := by decide +kernel
theorem dX4_bears_33 : decode cX4_bears 33 = .ok (.ifCond .ne 5, 3) := by decide +kernel
theorem dX4_bears_36 : decode cX4_bears 36 = .ok (.iconst 0, 1) := by decide +kernel
theorem dX4_bears_37 : decode cX4_bears 37 = .ok (.ireturn, 1) := by decide +kernel
theorem dX4_bears_38 : decode cX4_bears 38 = .ok (.iload_n 2, 1) := by decide +kernel
theorem dX4_bears_39 : decode cX4_bears 39 = .ok (.ifCond .eq 39, 3) := by decide +kernel
theorem dX4_bears_42 : decode cX4_bears 42 = .ok (.iload 4, 2) := by decide +kernel
theorem dX4_bears_44 : decode cX4_bears 44 = .ok (.iload_n 3, 1) := by decide +kernel
theorem dX4_bears_45 : decode cX4_bears 45 = .ok (.if_icmp .ge 33, 3) := by decide +kernel
theorem dX4_bears_48 : decode cX4_bears 48 = .ok (.aload_n 0, 1) := by decide +kernel
theorem dX4_bears_49 : decode cX4_bears 49 = .ok (.getfield 21, 3) := by decide +kernel
theorem dX4_bears_52 : decode cX4_bears 52 = .ok (.invokevirtual 36, 3) := by decide +kernel
theorem dX4_bears_55 : decode cX4_bears 55 = .ok (.ifCond .eq 23, 3) := by decide +kernel
theorem dX4_bears_58 : decode cX4_bears 58 = .ok (.aload_n 0, 1) := by decide +kernel
theorem dX4_bears_59 : decode cX4_bears 59 = .ok (.getfield 12, 3) := by decide +kernel
theorem dX4_bears_62 : decode cX4_bears 62 = .ok (.aload_n 0, 1) := by decide +kernel
theorem dX4_bears_63 : decode cX4_bears 63 = .ok (.getfield 21, 3) := by decide +kernel
theorem dX4_bears_66 : decode cX4_bears 66 = .ok (.invokevirtual 40, 3) := by decide +kernel
theorem dX4_bears_69 : decode cX4_bears 69 = .ok (.ifCond .ne 7, 3) := by decide +kernel
theorem dX4_bears_72 : decode cX4_bears 72 = .ok (.iconst 1, 1) := by decide +kernel
theorem dX4_bears_73 : decode cX4_bears 73 = .ok (.goto 4, 3) := by decide +kernel
theorem dX4_bears_76 : decode cX4_bears 76 = .ok (.iconst 0, 1) := by decide +kernel
theorem dX4_bears_77 : decode cX4_bears 77 = .ok (.istore_n 2, 1) := by decide +kernel
theorem dX4_bears_78 : decode cX4_bears 78 = .ok (.iinc 4 1, 3) := by decide +kernel
theorem dX4_bears_81 : decode cX4_bears 81 = .ok (.goto (-71), 3) := by decide +kernel
theorem dX4_bears_84 : decode cX4_bears 84 = .ok (.iconst 1, 1) := by decide +kernel
theorem dX4_bears_85 : decode cX4_bears 85 = .ok (.ireturn, 1) := by decide +kernel
theorem dX4_age_0 : decode cX4_age 0 = .ok (.aload_n 0, 1) := by decide +kernel
theorem dX4_age_1 : decode cX4_age 1 = .ok (.invokevirtual 52, 3) := by decide +kernel
theorem dX4_age_4 : decode cX4_age 4 = .ok (.aload_n 0, 1) := by decide +kernel
theorem dX4_age_5 : decode cX4_age 5 = .ok (.getfield 21, 3) := by decide +kernel
theorem dX4_age_8 : decode cX4_age 8 = .ok (.aload_n 1, 1) := by decide +kernel
theorem dX4_age_9 : decode cX4_age 9 = .ok (.invokevirtual 32, 3) := by decide +kernel
theorem dX4_age_12 : decode cX4_age 12 = .ok (.aload_n 0, 1) := by decide +kernel
theorem dX4_age_13 : decode cX4_age 13 = .ok (.iload_n 2, 1) := by decide +kernel
theorem dX4_age_14 : decode cX4_age 14 = .ok (.putfield 92, 3) := by decide +kernel
theorem dX4_age_17 : decode cX4_age 17 = .ok (.iconst 0, 1) := by decide +kernel
theorem dX4_age_18 : decode cX4_age 18 = .ok (.istore 5, 2) := by decide +kernel
theorem dX4_age_20 : decode cX4_age 20 = .ok (.iload 5, 2) := by decide +kernel
theorem dX4_age_22 : decode cX4_age 22 = .ok (.iload_n 3, 1) := by decide +kernel
theorem dX4_age_23 : decode cX4_age 23 = .ok (.if_icmp .ge 62, 3) := by decide +kernel
theorem dX4_age_26 : decode cX4_age 26 = .ok (.aload_n 0, 1) := by decide +kernel
theorem dX4_age_27 : decode cX4_age 27 = .ok (.invokevirtual 96, 3) := by decide +kernel
theorem dX4_age_30 : decode cX4_age 30 = .ok (.iconst 0, 1) := by decide +kernel
theorem dX4_age_31 : decode cX4_age 31 = .ok (.istore 6, 2) := by decide +kernel
theorem dX4_age_33 : decode cX4_age 33 = .ok (.iload 6, 2) := by decide +kernel
theorem dX4_age_35 : decode cX4_age 35 = .ok (.iconst 5, 1) := by decide +kernel
theorem dX4_age_36 : decode cX4_age 36 = .ok (.if_icmp .ge 43, 3) := by decide +kernel
theorem dX4_age_39 : decode cX4_age 39 = .ok (.aload_n 0, 1) := by decide +kernel
theorem dX4_age_40 : decode cX4_age 40 = .ok (.getfield 21, 3) := by decide +kernel
theorem dX4_age_43 : decode cX4_age 43 = .ok (.invokevirtual 36, 3) := by decide +kernel
theorem dX4_age_46 : decode cX4_age 46 = .ok (.ifCond .eq 33, 3) := by decide +kernel
theorem dX4_age_49 : decode cX4_age 49 = .ok (.aload_n 0, 1) := by decide +kernel
theorem dX4_age_50 : decode cX4_age 50 = .ok (.getfield 12, 3) := by decide +kernel
theorem dX4_age_53 : decode cX4_age 53 = .ok (.aload_n 0, 1) := by decide +kernel
theorem dX4_age_54 : decode cX4_age 54 = .ok (.getfield 21, 3) := by decide +kernel
theorem dX4_age_57 : decode cX4_age 57 = .ok (.invokevirtual 40, 3) := by decide +kernel
theorem dX4_age_60 : decode cX4_age 60 = .ok (.ifCond .eq 13, 3) := by decide +kernel
theorem dX4_age_63 : decode cX4_age 63 = .ok (.aload_n 0, 1) := by decide +kernel
theorem dX4_age_64 : decode cX4_age 64 = .ok (.getfield 28, 3) := by decide +kernel
theorem dX4_age_67 : decode cX4_age 67 = .ok (.iconst 0, 1) := by decide +kernel
theorem dX4_age_68 : decode cX4_age 68 = .ok (.dup2, 1) := by decide +kernel
theorem dX4_age_69 : decode cX4_age 69 = .ok (.iaload, 1) := by decide +kernel
theorem dX4_age_70 : decode cX4_age 70 = .ok (.iconst 1, 1) := by decide +kernel
theorem dX4_age_71 : decode cX4_age 71 = .ok (.iadd, 1) := by decide +kernel
theorem dX4_age_72 : decode cX4_age 72 = .ok (.iastore, 1) := by decide +kernel
theorem dX4_age_73 : decode cX4_age 73 = .ok (.iinc 6 1, 3) := by decide +kernel
theorem dX4_age_76 : decode cX4_age 76 = .ok (.goto (-43), 3) := by decide +kernel
theorem dX4_age_79 : decode cX4_age 79 = .ok (.iinc 5 1, 3) := by decide +kernel
theorem dX4_age_82 : decode cX4_age 82 = .ok (.goto (-62), 3) := by decide +kernel
theorem dX4_age_85 : decode cX4_age 85 = .ok (.aload_n 0, 1) := by decide +kernel
theorem dX4_age_86 : decode cX4_age 86 = .ok (.getfield 28, 3) := by decide +kernel
theorem dX4_age_89 : decode cX4_age 89 = .ok (.iconst 2, 1) := by decide +kernel
theorem dX4_age_90 : decode cX4_age 90 = .ok (.aload_n 0, 1) := by decide +kernel
theorem dX4_age_91 : decode cX4_age 91 = .ok (.getfield 21, 3) := by decide +kernel
theorem dX4_age_94 : decode cX4_age 94 = .ok (.aload_n 1, 1) := by decide +kernel
theorem dX4_age_95 : decode cX4_age 95 = .ok (.invokevirtual 99, 3) := by decide +kernel
theorem dX4_age_98 : decode cX4_age 98 = .ok (.iastore, 1) := by decide +kernel
theorem dX4_age_99 : decode cX4_age 99 = .ok (.aload_n 0, 1) := by decide +kernel
theorem dX4_age_100 : decode cX4_age 100 = .ok (.iload 4, 2) := by decide +kernel
theorem dX4_age_102 : decode cX4_age 102 = .ok (.invokevirtual 74, 3) := by decide +kernel
theorem dX4_age_105 : decode cX4_age 105 = .ok (.ireturn, 1) := by decide +kernel
theorem dX4_happen_0 : decode cX4_happen 0 = .ok (.aload_n 0, 1) := by decide +kernel
theorem dX4_happen_1 : decode cX4_happen 1 = .ok (.iconst 3, 1) := by decide +kernel
theorem dX4_happen_2 : decode cX4_happen 2 = .ok (.invokevirtual 102, 3) := by decide +kernel
theorem dX4_happen_5 : decode cX4_happen 5 = .ok (.istore_n 1, 1) := by decide +kernel
theorem dX4_happen_6 : decode cX4_happen 6 = .ok (.iload_n 1, 1) := by decide +kernel
theorem dX4_happen_7 : decode cX4_happen 7 = .ok (.ifCond .ne 31, 3) := by decide +kernel
theorem dX4_happen_10 : decode cX4_happen 10 = .ok (.aload_n 0, 1) := by decide +kernel
theorem dX4_happen_11 : decode cX4_happen 11 = .ok (.sipush 256, 3) := by decide +kernel
theorem dX4_happen_14 : decode cX4_happen 14 = .ok (.invokevirtual 102, 3) := by decide +kernel
theorem dX4_happen_17 : decode cX4_happen 17 = .ok (.istore_n 2, 1) := by decide +kernel
theorem dX4_happen_18 : decode cX4_happen 18 = .ok (.aload_n 0, 1) := by decide +kernel
theorem dX4_happen_19 : decode cX4_happen 19 = .ok (.sipush 256, 3) := by decide +kernel
theorem dX4_happen_22 : decode cX4_happen 22 = .ok (.invokevirtual 102, 3) := by decide +kernel
theorem dX4_happen_25 : decode cX4_happen 25 = .ok (.istore_n 3, 1) := by decide +kernel
theorem dX4_happen_26 : decode cX4_happen 26 = .ok (.aload_n 0, 1) := by decide +kernel
theorem dX4_happen_27 : decode cX4_happen 27 = .ok (.getfield 21, 3) := by decide +kernel
theorem dX4_happen_30 : decode cX4_happen 30 = .ok (.iload_n 2, 1) := by decide +kernel
theorem dX4_happen_31 : decode cX4_happen 31 = .ok (.iload_n 3, 1) := by decide +kernel
theorem dX4_happen_32 : decode cX4_happen 32 = .ok (.invokevirtual 105, 3) := by decide +kernel
theorem dX4_happen_35 : decode cX4_happen 35 = .ok (.goto 39, 3) := by decide +kernel
theorem dX4_happen_38 : decode cX4_happen 38 = .ok (.iload_n 1, 1) := by decide +kernel
theorem dX4_happen_39 : decode cX4_happen 39 = .ok (.iconst 1, 1) := by decide +kernel
theorem dX4_happen_40 : decode cX4_happen 40 = .ok (.if_icmp .ne 34, 3) := by decide +kernel
theorem dX4_happen_43 : decode cX4_happen 43 = .ok (.aload_n 0, 1) := by decide +kernel
theorem dX4_happen_44 : decode cX4_happen 44 = .ok (.getfield 21, 3) := by decide +kernel
theorem dX4_happen_47 : decode cX4_happen 47 = .ok (.invokevirtual 36, 3) := by decide +kernel
theorem dX4_happen_50 : decode cX4_happen 50 = .ok (.ifCond .ne 24, 3) := by decide +kernel
theorem dX4_happen_53 : decode cX4_happen 53 = .ok (.aload_n 0, 1) := by decide +kernel
theorem dX4_happen_54 : decode cX4_happen 54 = .ok (.getfield 12, 3) := by decide +kernel
theorem dX4_happen_57 : decode cX4_happen 57 = .ok (.aload_n 0, 1) := by decide +kernel
theorem dX4_happen_58 : decode cX4_happen 58 = .ok (.getfield 21, 3) := by decide +kernel
theorem dX4_happen_61 : decode cX4_happen 61 = .ok (.invokevirtual 108, 3) := by decide +kernel
theorem dX4_happen_64 : decode cX4_happen 64 = .ok (.aload_n 0, 1) := by decide +kernel
theorem dX4_happen_65 : decode cX4_happen 65 = .ok (.getfield 28, 3) := by decide +kernel
theorem dX4_happen_68 : decode cX4_happen 68 = .ok (.iconst 1, 1) := by decide +kernel
theorem dX4_happen_69 : decode cX4_happen 69 = .ok (.dup2, 1) := by decide +kernel
theorem dX4_happen_70 : decode cX4_happen 70 = .ok (.iaload, 1) := by decide +kernel
theorem dX4_happen_71 : decode cX4_happen 71 = .ok (.iconst 1, 1) := by decide +kernel
theorem dX4_happen_72 : decode cX4_happen 72 = .ok (.iadd, 1) := by decide +kernel
theorem dX4_happen_73 : decode cX4_happen 73 = .ok (.iastore, 1) := by decide +kernel
theorem dX4_happen_74 : decode cX4_happen 74 = .ok (.return_, 1) := by decide +kernel
theorem dX4_draw_0 : decode cX4_draw 0 = .ok (.aload_n 0, 1) := by decide +kernel
theorem dX4_draw_1 : decode cX4_draw 1 = .ok (.aload_n 0, 1) := by decide +kernel
theorem dX4_draw_2 : decode cX4_draw 2 = .ok (.getfield 92, 3) := by decide +kernel
theorem dX4_draw_5 : decode cX4_draw 5 = .ok (.ldc 111, 2) := by decide +kernel
theorem dX4_draw_7 : decode cX4_draw 7 = .ok (.imul, 1) := by decide +kernel
theorem dX4_draw_8 : decode cX4_draw 8 = .ok (.sipush 12345, 3) := by decide +kernel
theorem dX4_draw_11 : decode cX4_draw 11 = .ok (.iadd, 1) := by decide +kernel
theorem dX4_draw_12 : decode cX4_draw 12 = .ok (.putfield 92, 3) := by decide +kernel
theorem dX4_draw_15 : decode cX4_draw 15 = .ok (.iload_n 1, 1) := by decide +kernel
theorem dX4_draw_16 : decode cX4_draw 16 = .ok (.ifCond .le 19, 3) := by decide +kernel
theorem dX4_draw_19 : decode cX4_draw 19 = .ok (.aload_n 0, 1) := by decide +kernel
theorem dX4_draw_20 : decode cX4_draw 20 = .ok (.getfield 92, 3) := by decide +kernel
theorem dX4_draw_23 : decode cX4_draw 23 = .ok (.bipush 16, 2) := by decide +kernel
theorem dX4_draw_25 : decode cX4_draw 25 = .ok (.iushr, 1) := by decide +kernel
theorem dX4_draw_26 : decode cX4_draw 26 = .ok (.sipush 32767, 3) := by decide +kernel
theorem dX4_draw_29 : decode cX4_draw 29 = .ok (.iand, 1) := by decide +kernel
theorem dX4_draw_30 : decode cX4_draw 30 = .ok (.iload_n 1, 1) := by decide +kernel
theorem dX4_draw_31 : decode cX4_draw 31 = .ok (.irem, 1) := by decide +kernel
theorem dX4_draw_32 : decode cX4_draw 32 = .ok (.goto 4, 3) := by decide +kernel
theorem dX4_draw_35 : decode cX4_draw 35 = .ok (.iconst 0, 1) := by decide +kernel
theorem dX4_draw_36 : decode cX4_draw 36 = .ok (.ireturn, 1) := by decide +kernel
theorem dX4_clearTold_0 : decode cX4_clearTold 0 = .ok (.aload_n 0, 1) := by decide +kernel
theorem dX4_clearTold_1 : decode cX4_clearTold 1 = .ok (.getfield 28, 3) := by decide +kernel
theorem dX4_clearTold_4 : decode cX4_clearTold 4 = .ok (.iconst 0, 1) := by decide +kernel
theorem dX4_clearTold_5 : decode cX4_clearTold 5 = .ok (.iconst 0, 1) := by decide +kernel
theorem dX4_clearTold_6 : decode cX4_clearTold 6 = .ok (.iastore, 1) := by decide +kernel
theorem dX4_clearTold_7 : decode cX4_clearTold 7 = .ok (.aload_n 0, 1) := by decide +kernel
theorem dX4_clearTold_8 : decode cX4_clearTold 8 = .ok (.getfield 28, 3) := by decide +kernel
theorem dX4_clearTold_11 : decode cX4_clearTold 11 = .ok (.iconst 1, 1) := by decide +kernel
theorem dX4_clearTold_12 : decode cX4_clearTold 12 = .ok (.iconst 0, 1) := by decide +kernel
theorem dX4_clearTold_13 : decode cX4_clearTold 13 = .ok (.iastore, 1) := by decide +kernel
theorem dX4_clearTold_14 : decode cX4_clearTold 14 = .ok (.aload_n 0, 1) := by decide +kernel
theorem dX4_clearTold_15 : decode cX4_clearTold 15 = .ok (.getfield 28, 3) := by decide +kernel
theorem dX4_clearTold_18 : decode cX4_clearTold 18 = .ok (.iconst 2, 1) := by decide +kernel
theorem dX4_clearTold_19 : decode cX4_clearTold 19 = .ok (.iconst 0, 1) := by decide +kernel
theorem dX4_clearTold_20 : decode cX4_clearTold 20 = .ok (.iastore, 1) := by decide +kernel
theorem dX4_clearTold_21 : decode cX4_clearTold 21 = .ok (.aload_n 0, 1) := by decide +kernel
theorem dX4_clearTold_22 : decode cX4_clearTold 22 = .ok (.getfield 28, 3) := by decide +kernel
theorem dX4_clearTold_25 : decode cX4_clearTold 25 = .ok (.iconst 3, 1) := by decide +kernel
theorem dX4_clearTold_26 : decode cX4_clearTold 26 = .ok (.iconst (-1), 1) := by decide +kernel
theorem dX4_clearTold_27 : decode cX4_clearTold 27 = .ok (.iastore, 1) := by decide +kernel
theorem dX4_clearTold_28 : decode cX4_clearTold 28 = .ok (.return_, 1) := by decide +kernel
theorem dX4_told_0 : decode cX4_told 0 = .ok (.iload_n 1, 1) := by decide +kernel
theorem dX4_told_1 : decode cX4_told 1 = .ok (.ifCond .lt 21, 3) := by decide +kernel
theorem dX4_told_4 : decode cX4_told 4 = .ok (.iload_n 1, 1) := by decide +kernel
theorem dX4_told_5 : decode cX4_told 5 = .ok (.aload_n 0, 1) := by decide +kernel
theorem dX4_told_6 : decode cX4_told 6 = .ok (.getfield 28, 3) := by decide +kernel
theorem dX4_told_9 : decode cX4_told 9 = .ok (.arraylength, 1) := by decide +kernel
theorem dX4_told_10 : decode cX4_told 10 = .ok (.if_icmp .ge 12, 3) := by decide +kernel
theorem dX4_told_13 : decode cX4_told 13 = .ok (.aload_n 0, 1) := by decide +kernel
theorem dX4_told_14 : decode cX4_told 14 = .ok (.getfield 28, 3) := by decide +kernel
theorem dX4_told_17 : decode cX4_told 17 = .ok (.iload_n 1, 1) := by decide +kernel
theorem dX4_told_18 : decode cX4_told 18 = .ok (.iaload, 1) := by decide +kernel
theorem dX4_told_19 : decode cX4_told 19 = .ok (.goto 4, 3) := by decide +kernel
theorem dX4_told_22 : decode cX4_told 22 = .ok (.iconst (-1), 1) := by decide +kernel
theorem dX4_told_23 : decode cX4_told 23 = .ok (.ireturn, 1) := by decide +kernel
theorem dX5_init_0 : decode cX5_init 0 = .ok (.aload_n 0, 1) := by decide +kernel
theorem dX5_init_1 : decode cX5_init 1 = .ok (.invokespecial 3, 3) := by decide +kernel
theorem dX5_init_4 : decode cX5_init 4 = .ok (.aload_n 0, 1) := by decide +kernel
theorem dX5_init_5 : decode cX5_init 5 = .ok (.getstatic 9, 3) := by decide +kernel
theorem dX5_init_8 : decode cX5_init 8 = .ok (.putfield 15, 3) := by decide +kernel
theorem dX5_init_11 : decode cX5_init 11 = .ok (.return_, 1) := by decide +kernel
theorem dX5_renew_0 : decode cX5_renew 0 = .ok (.aload_n 0, 1) := by decide +kernel
theorem dX5_renew_1 : decode cX5_renew 1 = .ok (.aload_n 1, 1) := by decide +kernel
theorem dX5_renew_2 : decode cX5_renew 2 = .ok (.putfield 15, 3) := by decide +kernel
theorem dX5_renew_5 : decode cX5_renew 5 = .ok (.aload_n 0, 1) := by decide +kernel
theorem dX5_renew_6 : decode cX5_renew 6 = .ok (.iconst 0, 1) := by decide +kernel
theorem dX5_renew_7 : decode cX5_renew 7 = .ok (.putfield 20, 3) := by decide +kernel
theorem dX5_renew_10 : decode cX5_renew 10 = .ok (.aload_n 0, 1) := by decide +kernel
theorem dX5_renew_11 : decode cX5_renew 11 = .ok (.iconst (-1), 1) := by decide +kernel
theorem dX5_renew_12 : decode cX5_renew 12 = .ok (.putfield 24, 3) := by decide +kernel
theorem dX5_renew_15 : decode cX5_renew 15 = .ok (.aload_n 0, 1) := by decide +kernel
theorem dX5_renew_16 : decode cX5_renew 16 = .ok (.iconst 0, 1) := by decide +kernel
theorem dX5_renew_17 : decode cX5_renew 17 = .ok (.putfield 27, 3) := by decide +kernel
theorem dX5_renew_20 : decode cX5_renew 20 = .ok (.aload_n 0, 1) := by decide +kernel
theorem dX5_renew_21 : decode cX5_renew 21 = .ok (.iconst 0, 1) := by decide +kernel
theorem dX5_renew_22 : decode cX5_renew 22 = .ok (.putfield 30, 3) := by decide +kernel
theorem dX5_renew_25 : decode cX5_renew 25 = .ok (.aload_n 0, 1) := by decide +kernel
theorem dX5_renew_26 : decode cX5_renew 26 = .ok (.iconst (-1), 1) := by decide +kernel
theorem dX5_renew_27 : decode cX5_renew 27 = .ok (.putfield 33, 3) := by decide +kernel
theorem dX5_renew_30 : decode cX5_renew 30 = .ok (.aload_n 0, 1) := by decide +kernel
theorem dX5_renew_31 : decode cX5_renew 31 = .ok (.iconst 0, 1) := by decide +kernel
theorem dX5_renew_32 : decode cX5_renew 32 = .ok (.putfield 36, 3) := by decide +kernel
theorem dX5_renew_35 : decode cX5_renew 35 = .ok (.aload_n 0, 1) := by decide +kernel
theorem dX5_renew_36 : decode cX5_renew 36 = .ok (.iconst 0, 1) := by decide +kernel
theorem dX5_renew_37 : decode cX5_renew 37 = .ok (.putfield 39, 3) := by decide +kernel
theorem dX5_renew_40 : decode cX5_renew 40 = .ok (.aload_n 0, 1) := by decide +kernel
theorem dX5_renew_41 : decode cX5_renew 41 = .ok (.iconst 0, 1) := by decide +kernel
theorem dX5_renew_42 : decode cX5_renew 42 = .ok (.putfield 42, 3) := by decide +kernel
theorem dX5_renew_45 : decode cX5_renew 45 = .ok (.aload_n 0, 1) := by decide +kernel
theorem dX5_renew_46 : decode cX5_renew 46 = .ok (.iconst 0, 1) := by decide +kernel
theorem dX5_renew_47 : decode cX5_renew 47 = .ok (.putfield 45, 3) := by decide +kernel
theorem dX5_renew_50 : decode cX5_renew 50 = .ok (.aload_n 0, 1) := by decide +kernel
theorem dX5_renew_51 : decode cX5_renew 51 = .ok (.iconst (-1), 1) := by decide +kernel
theorem dX5_renew_52 : decode cX5_renew 52 = .ok (.putfield 48, 3) := by decide +kernel
theorem dX5_renew_55 : decode cX5_renew 55 = .ok (.return_, 1) := by decide +kernel
theorem dX6_init_0 : decode cX6_init 0 = .ok (.aload_n 0, 1) := by decide +kernel
theorem dX6_init_1 : decode cX6_init 1 = .ok (.invokespecial 1, 3) := by decide +kernel
theorem dX6_init_4 : decode cX6_init 4 = .ok (.aload_n 0, 1) := by decide +kernel
theorem dX6_init_5 : decode cX6_init 5 = .ok (.bipush 60, 2) := by decide +kernel
theorem dX6_init_7 : decode cX6_init 7 = .ok (.anewarray 9, 3) := by decide +kernel
theorem dX6_init_10 : decode cX6_init 10 = .ok (.putfield 11, 3) := by decide +kernel
theorem dX6_init_13 : decode cX6_init 13 = .ok (.aload_n 0, 1) := by decide +kernel
theorem dX6_init_14 : decode cX6_init 14 = .ok (.sipush 256, 3) := by decide +kernel
theorem dX6_init_17 : decode cX6_init 17 = .ok (.newarray .int, 2) := by decide +kernel
theorem dX6_init_19 : decode cX6_init 19 = .ok (.putfield 17, 3) := by decide +kernel
theorem dX6_init_22 : decode cX6_init 22 = .ok (.return_, 1) := by decide +kernel
theorem dX6_size_0 : decode cX6_size 0 = .ok (.aload_n 0, 1) := by decide +kernel
theorem dX6_size_1 : decode cX6_size 1 = .ok (.getfield 21, 3) := by decide +kernel
theorem dX6_size_4 : decode cX6_size 4 = .ok (.ireturn, 1) := by decide +kernel
theorem dX6_clear_0 : decode cX6_clear 0 = .ok (.aload_n 0, 1) := by decide +kernel
theorem dX6_clear_1 : decode cX6_clear 1 = .ok (.iconst 0, 1) := by decide +kernel
theorem dX6_clear_2 : decode cX6_clear 2 = .ok (.putfield 21, 3) := by decide +kernel
theorem dX6_clear_5 : decode cX6_clear 5 = .ok (.iconst 0, 1) := by decide +kernel
theorem dX6_clear_6 : decode cX6_clear 6 = .ok (.istore_n 1, 1) := by decide +kernel
theorem dX6_clear_7 : decode cX6_clear 7 = .ok (.iload_n 1, 1) := by decide +kernel
theorem dX6_clear_8 : decode cX6_clear 8 = .ok (.aload_n 0, 1) := by decide +kernel
theorem dX6_clear_9 : decode cX6_clear 9 = .ok (.getfield 17, 3) := by decide +kernel
theorem dX6_clear_12 : decode cX6_clear 12 = .ok (.arraylength, 1) := by decide +kernel
theorem dX6_clear_13 : decode cX6_clear 13 = .ok (.if_icmp .ge 16, 3) := by decide +kernel
theorem dX6_clear_16 : decode cX6_clear 16 = .ok (.aload_n 0, 1) := by decide +kernel
theorem dX6_clear_17 : decode cX6_clear 17 = .ok (.getfield 17, 3) := by decide +kernel
theorem dX6_clear_20 : decode cX6_clear 20 = .ok (.iload_n 1, 1) := by decide +kernel
theorem dX6_clear_21 : decode cX6_clear 21 = .ok (.iconst 0, 1) := by decide +kernel
theorem dX6_clear_22 : decode cX6_clear 22 = .ok (.iastore, 1) := by decide +kernel
theorem dX6_clear_23 : decode cX6_clear 23 = .ok (.iinc 1 1, 3) := by decide +kernel
theorem dX6_clear_26 : decode cX6_clear 26 = .ok (.goto (-19), 3) := by decide +kernel
theorem dX6_clear_29 : decode cX6_clear 29 = .ok (.return_, 1) := by decide +kernel
theorem dX6_opened_0 : decode cX6_opened 0 = .ok (.aload_n 0, 1) := by decide +kernel
theorem dX6_opened_1 : decode cX6_opened 1 = .ok (.getfield 21, 3) := by decide +kernel
theorem dX6_opened_4 : decode cX6_opened 4 = .ok (.bipush 60, 2) := by decide +kernel
theorem dX6_opened_6 : decode cX6_opened 6 = .ok (.if_icmp .lt 5, 3) := by decide +kernel
theorem dX6_opened_9 : decode cX6_opened 9 = .ok (.aconst_null, 1) := by decide +kernel
theorem dX6_opened_10 : decode cX6_opened 10 = .ok (.areturn, 1) := by decide +kernel
theorem dX6_opened_11 : decode cX6_opened 11 = .ok (.aload_n 0, 1) := by decide +kernel
theorem dX6_opened_12 : decode cX6_opened 12 = .ok (.getfield 11, 3) := by decide +kernel
theorem dX6_opened_15 : decode cX6_opened 15 = .ok (.aload_n 0, 1) := by decide +kernel
theorem dX6_opened_16 : decode cX6_opened 16 = .ok (.getfield 21, 3) := by decide +kernel
theorem dX6_opened_19 : decode cX6_opened 19 = .ok (.aaload, 1) := by decide +kernel
theorem dX6_opened_20 : decode cX6_opened 20 = .ok (.ifnonnull 19, 3) := by decide +kernel
theorem dX6_opened_23 : decode cX6_opened 23 = .ok (.aload_n 0, 1) := by decide +kernel
theorem dX6_opened_24 : decode cX6_opened 24 = .ok (.getfield 11, 3) := by decide +kernel
theorem dX6_opened_27 : decode cX6_opened 27 = .ok (.aload_n 0, 1) := by decide +kernel
theorem dX6_opened_28 : decode cX6_opened 28 = .ok (.getfield 21, 3) := by decide +kernel
theorem dX6_opened_31 : decode cX6_opened 31 = .ok (.new 9, 3) := by decide +kernel
theorem dX6_opened_34 : decode cX6_opened 34 = .ok (.dup, 1) := by decide +kernel
theorem dX6_opened_35 : decode cX6_opened 35 = .ok (.invokespecial 25, 3) := by decide +kernel
theorem dX6_opened_38 : decode cX6_opened 38 = .ok (.aastore, 1) := by decide +kernel
theorem dX6_opened_39 : decode cX6_opened 39 = .ok (.aload_n 0, 1) := by decide +kernel
theorem dX6_opened_40 : decode cX6_opened 40 = .ok (.getfield 11, 3) := by decide +kernel
theorem dX6_opened_43 : decode cX6_opened 43 = .ok (.aload_n 0, 1) := by decide +kernel
theorem dX6_opened_44 : decode cX6_opened 44 = .ok (.getfield 21, 3) := by decide +kernel
theorem dX6_opened_47 : decode cX6_opened 47 = .ok (.aaload, 1) := by decide +kernel
theorem dX6_opened_48 : decode cX6_opened 48 = .ok (.astore_n 2, 1) := by decide +kernel
theorem dX6_opened_49 : decode cX6_opened 49 = .ok (.aload_n 2, 1) := by decide +kernel
theorem dX6_opened_50 : decode cX6_opened 50 = .ok (.aload_n 1, 1) := by decide +kernel
theorem dX6_opened_51 : decode cX6_opened 51 = .ok (.invokevirtual 26, 3) := by decide +kernel
theorem dX6_opened_54 : decode cX6_opened 54 = .ok (.aload_n 0, 1) := by decide +kernel
theorem dX6_opened_55 : decode cX6_opened 55 = .ok (.dup, 1) := by decide +kernel
theorem dX6_opened_56 : decode cX6_opened 56 = .ok (.getfield 21, 3) := by decide +kernel
theorem dX6_opened_59 : decode cX6_opened 59 = .ok (.iconst 1, 1) := by decide +kernel
theorem dX6_opened_60 : decode cX6_opened 60 = .ok (.iadd, 1) := by decide +kernel
theorem dX6_opened_61 : decode cX6_opened 61 = .ok (.putfield 21, 3) := by decide +kernel
theorem dX6_opened_64 : decode cX6_opened 64 = .ok (.aload_n 2, 1) := by decide +kernel
theorem dX6_opened_65 : decode cX6_opened 65 = .ok (.areturn, 1) := by decide +kernel
theorem dX6_told_0 : decode cX6_told 0 = .ok (.iload_n 1, 1) := by decide +kernel
theorem dX6_told_1 : decode cX6_told 1 = .ok (.ifCond .lt 20, 3) := by decide +kernel
theorem dX6_told_4 : decode cX6_told 4 = .ok (.iload_n 1, 1) := by decide +kernel
theorem dX6_told_5 : decode cX6_told 5 = .ok (.aload_n 0, 1) := by decide +kernel
theorem dX6_told_6 : decode cX6_told 6 = .ok (.getfield 21, 3) := by decide +kernel
theorem dX6_told_9 : decode cX6_told 9 = .ok (.if_icmp .ge 12, 3) := by decide +kernel
theorem dX6_told_12 : decode cX6_told 12 = .ok (.aload_n 0, 1) := by decide +kernel
theorem dX6_told_13 : decode cX6_told 13 = .ok (.getfield 11, 3) := by decide +kernel
theorem dX6_told_16 : decode cX6_told 16 = .ok (.iload_n 1, 1) := by decide +kernel
theorem dX6_told_17 : decode cX6_told 17 = .ok (.aaload, 1) := by decide +kernel
theorem dX6_told_18 : decode cX6_told 18 = .ok (.goto 4, 3) := by decide +kernel
theorem dX6_told_21 : decode cX6_told 21 = .ok (.aconst_null, 1) := by decide +kernel
theorem dX6_told_22 : decode cX6_told 22 = .ok (.areturn, 1) := by decide +kernel
theorem dX6_laidAt_0 : decode cX6_laidAt 0 = .ok (.iload_n 1, 1) := by decide +kernel
theorem dX6_laidAt_1 : decode cX6_laidAt 1 = .ok (.invokestatic 30, 3) := by decide +kernel
theorem dX6_laidAt_4 : decode cX6_laidAt 4 = .ok (.ifCond .eq 12, 3) := by decide +kernel
theorem dX6_laidAt_7 : decode cX6_laidAt 7 = .ok (.aload_n 0, 1) := by decide +kernel
theorem dX6_laidAt_8 : decode cX6_laidAt 8 = .ok (.getfield 17, 3) := by decide +kernel
theorem dX6_laidAt_11 : decode cX6_laidAt 11 = .ok (.iload_n 1, 1) := by decide +kernel
theorem dX6_laidAt_12 : decode cX6_laidAt 12 = .ok (.iaload, 1) := by decide +kernel
theorem dX6_laidAt_13 : decode cX6_laidAt 13 = .ok (.goto 4, 3) := by decide +kernel
theorem dX6_laidAt_16 : decode cX6_laidAt 16 = .ok (.iconst 0, 1) := by decide +kernel
theorem dX6_laidAt_17 : decode cX6_laidAt 17 = .ok (.ireturn, 1) := by decide +kernel
theorem dX6_layHalf_0 : decode cX6_layHalf 0 = .ok (.iload_n 1, 1) := by decide +kernel
theorem dX6_layHalf_1 : decode cX6_layHalf 1 = .ok (.iconst 1, 1) := by decide +kernel
theorem dX6_layHalf_2 : decode cX6_layHalf 2 = .ok (.ishr, 1) := by decide +kernel
theorem dX6_layHalf_3 : decode cX6_layHalf 3 = .ok (.istore_n 3, 1) := by decide +kernel
theorem dX6_layHalf_4 : decode cX6_layHalf 4 = .ok (.iload_n 3, 1) := by decide +kernel
theorem dX6_layHalf_5 : decode cX6_layHalf 5 = .ok (.invokestatic 30, 3) := by decide +kernel
theorem dX6_layHalf_8 : decode cX6_layHalf 8 = .ok (.ifCond .eq 22, 3) := by decide +kernel
theorem dX6_layHalf_11 : decode cX6_layHalf 11 = .ok (.aload_n 0, 1) := by decide +kernel
theorem dX6_layHalf_12 : decode cX6_layHalf 12 = .ok (.getfield 17, 3) := by decide +kernel
theorem dX6_layHalf_15 : decode cX6_layHalf 15 = .ok (.iload_n 3, 1) := by decide +kernel
theorem dX6_layHalf_16 : decode cX6_layHalf 16 = .ok (.aload_n 0, 1) := by decide +kernel
theorem dX6_layHalf_17 : decode cX6_layHalf 17 = .ok (.getfield 17, 3) := by decide +kernel
theorem dX6_layHalf_20 : decode cX6_layHalf 20 = .ok (.iload_n 3, 1) := by decide +kernel
theorem dX6_layHalf_21 : decode cX6_layHalf 21 = .ok (.iaload, 1) := by decide +kernel
theorem dX6_layHalf_22 : decode cX6_layHalf 22 = .ok (.iload_n 1, 1) := by decide +kernel
theorem dX6_layHalf_23 : decode cX6_layHalf 23 = .ok (.iconst 1, 1) := by decide +kernel
theorem dX6_layHalf_24 : decode cX6_layHalf 24 = .ok (.iand, 1) := by decide +kernel
theorem dX6_layHalf_25 : decode cX6_layHalf 25 = .ok (.iload_n 2, 1) := by decide +kernel
theorem dX6_layHalf_26 : decode cX6_layHalf 26 = .ok (.invokestatic 34, 3) := by decide +kernel
theorem dX6_layHalf_29 : decode cX6_layHalf 29 = .ok (.iastore, 1) := by decide +kernel
theorem dX6_layHalf_30 : decode cX6_layHalf 30 = .ok (.return_, 1) := by decide +kernel
theorem dX7_packBytes_0 : decode cX7_packBytes 0 = .ok (.iload_n 3, 1) := by decide +kernel
theorem dX7_packBytes_1 : decode cX7_packBytes 1 = .ok (.iload 4, 2) := by decide +kernel
theorem dX7_packBytes_3 : decode cX7_packBytes 3 = .ok (.iadd, 1) := by decide +kernel
theorem dX7_packBytes_4 : decode cX7_packBytes 4 = .ok (.iconst 1, 1) := by decide +kernel
theorem dX7_packBytes_5 : decode cX7_packBytes 5 = .ok (.isub, 1) := by decide +kernel
theorem dX7_packBytes_6 : decode cX7_packBytes 6 = .ok (.istore 5, 2) := by decide +kernel
theorem dX7_packBytes_8 : decode cX7_packBytes 8 = .ok (.aload_n 0, 1) := by decide +kernel
theorem dX7_packBytes_9 : decode cX7_packBytes 9 = .ok (.iload_n 1, 1) := by decide +kernel
theorem dX7_packBytes_10 : decode cX7_packBytes 10 = .ok (.iload_n 2, 1) := by decide +kernel
theorem dX7_packBytes_11 : decode cX7_packBytes 11 = .ok (.iadd, 1) := by decide +kernel
theorem dX7_packBytes_12 : decode cX7_packBytes 12 = .ok (.iconst 1, 1) := by decide +kernel
theorem dX7_packBytes_13 : decode cX7_packBytes 13 = .ok (.isub, 1) := by decide +kernel
theorem dX7_packBytes_14 : decode cX7_packBytes 14 = .ok (.aload_n 0, 1) := by decide +kernel
theorem dX7_packBytes_15 : decode cX7_packBytes 15 = .ok (.iload 5, 2) := by decide +kernel
theorem dX7_packBytes_17 : decode cX7_packBytes 17 = .ok (.invokevirtual 7, 3) := by decide +kernel
theorem dX7_packBytes_20 : decode cX7_packBytes 20 = .ok (.invokestatic 13, 3) := by decide +kernel
theorem dX7_packBytes_23 : decode cX7_packBytes 23 = .ok (.invokevirtual 18, 3) := by decide +kernel
theorem dX7_packBytes_26 : decode cX7_packBytes 26 = .ok (.iinc 5 (-1), 3) := by decide +kernel
theorem dX7_packBytes_29 : decode cX7_packBytes 29 = .ok (.iload_n 1, 1) := by decide +kernel
theorem dX7_packBytes_30 : decode cX7_packBytes 30 = .ok (.iload_n 2, 1) := by decide +kernel
theorem dX7_packBytes_31 : decode cX7_packBytes 31 = .ok (.iadd, 1) := by decide +kernel
theorem dX7_packBytes_32 : decode cX7_packBytes 32 = .ok (.iconst 2, 1) := by decide +kernel
theorem dX7_packBytes_33 : decode cX7_packBytes 33 = .ok (.isub, 1) := by decide +kernel
theorem dX7_packBytes_34 : decode cX7_packBytes 34 = .ok (.istore 6, 2) := by decide +kernel
theorem dX7_packBytes_36 : decode cX7_packBytes 36 = .ok (.iload 6, 2) := by decide +kernel
theorem dX7_packBytes_38 : decode cX7_packBytes 38 = .ok (.iload_n 1, 1) := by decide +kernel
theorem dX7_packBytes_39 : decode cX7_packBytes 39 = .ok (.if_icmp .lt 71, 3) := by decide +kernel
theorem dX7_packBytes_42 : decode cX7_packBytes 42 = .ok (.iload 5, 2) := by decide +kernel
theorem dX7_packBytes_44 : decode cX7_packBytes 44 = .ok (.iload_n 3, 1) := by decide +kernel
theorem dX7_packBytes_45 : decode cX7_packBytes 45 = .ok (.if_icmp .lt 16, 3) := by decide +kernel
theorem dX7_packBytes_48 : decode cX7_packBytes 48 = .ok (.aload_n 0, 1) := by decide +kernel
theorem dX7_packBytes_49 : decode cX7_packBytes 49 = .ok (.iconst 2, 1) := by decide +kernel
theorem dX7_packBytes_50 : decode cX7_packBytes 50 = .ok (.iload 5, 2) := by decide +kernel
theorem dX7_packBytes_52 : decode cX7_packBytes 52 = .ok (.imul, 1) := by decide +kernel
theorem dX7_packBytes_53 : decode cX7_packBytes 53 = .ok (.iconst 1, 1) := by decide +kernel
theorem dX7_packBytes_54 : decode cX7_packBytes 54 = .ok (.iadd, 1) := by decide +kernel
theorem dX7_packBytes_55 : decode cX7_packBytes 55 = .ok (.invokevirtual 22, 3) := by decide +kernel
theorem dX7_packBytes_58 : decode cX7_packBytes 58 = .ok (.goto 4, 3) := by decide +kernel
theorem dX7_packBytes_61 : decode cX7_packBytes 61 = .ok (.iconst 0, 1) := by decide +kernel
theorem dX7_packBytes_62 : decode cX7_packBytes 62 = .ok (.istore 7, 2) := by decide +kernel
theorem dX7_packBytes_64 : decode cX7_packBytes 64 = .ok (.iload 5, 2) := by decide +kernel
theorem dX7_packBytes_66 : decode cX7_packBytes 66 = .ok (.iconst 1, 1) := by decide +kernel
theorem dX7_packBytes_67 : decode cX7_packBytes 67 = .ok (.isub, 1) := by decide +kernel
theorem dX7_packBytes_68 : decode cX7_packBytes 68 = .ok (.iload_n 3, 1) := by decide +kernel
theorem dX7_packBytes_69 : decode cX7_packBytes 69 = .ok (.if_icmp .lt 16, 3) := by decide +kernel
theorem dX7_packBytes_72 : decode cX7_packBytes 72 = .ok (.aload_n 0, 1) := by decide +kernel
theorem dX7_packBytes_73 : decode cX7_packBytes 73 = .ok (.iconst 2, 1) := by decide +kernel
theorem dX7_packBytes_74 : decode cX7_packBytes 74 = .ok (.iload 5, 2) := by decide +kernel
theorem dX7_packBytes_76 : decode cX7_packBytes 76 = .ok (.imul, 1) := by decide +kernel
theorem dX7_packBytes_77 : decode cX7_packBytes 77 = .ok (.iconst 1, 1) := by decide +kernel
theorem dX7_packBytes_78 : decode cX7_packBytes 78 = .ok (.isub, 1) := by decide +kernel
theorem dX7_packBytes_79 : decode cX7_packBytes 79 = .ok (.invokevirtual 22, 3) := by decide +kernel
theorem dX7_packBytes_82 : decode cX7_packBytes 82 = .ok (.goto 4, 3) := by decide +kernel
theorem dX7_packBytes_85 : decode cX7_packBytes 85 = .ok (.iconst 0, 1) := by decide +kernel
theorem dX7_packBytes_86 : decode cX7_packBytes 86 = .ok (.istore 8, 2) := by decide +kernel
theorem dX7_packBytes_88 : decode cX7_packBytes 88 = .ok (.aload_n 0, 1) := by decide +kernel
theorem dX7_packBytes_89 : decode cX7_packBytes 89 = .ok (.iload 6, 2) := by decide +kernel
theorem dX7_packBytes_91 : decode cX7_packBytes 91 = .ok (.iload 8, 2) := by decide +kernel
theorem dX7_packBytes_93 : decode cX7_packBytes 93 = .ok (.iconst 4, 1) := by decide +kernel
theorem dX7_packBytes_94 : decode cX7_packBytes 94 = .ok (.ishl, 1) := by decide +kernel
theorem dX7_packBytes_95 : decode cX7_packBytes 95 = .ok (.iload 7, 2) := by decide +kernel
theorem dX7_packBytes_97 : decode cX7_packBytes 97 = .ok (.ior, 1) := by decide +kernel
theorem dX7_packBytes_98 : decode cX7_packBytes 98 = .ok (.invokevirtual 18, 3) := by decide +kernel
theorem dX7_packBytes_101 : decode cX7_packBytes 101 = .ok (.iinc 5 (-2), 3) := by decide +kernel
theorem dX7_packBytes_104 : decode cX7_packBytes 104 = .ok (.iinc 6 (-1), 3) := by decide +kernel
theorem dX7_packBytes_107 : decode cX7_packBytes 107 = .ok (.goto (-71), 3) := by decide +kernel
theorem dX7_packBytes_110 : decode cX7_packBytes 110 = .ok (.return_, 1) := by decide +kernel
theorem dX7_unpackBytes_0 : decode cX7_unpackBytes 0 = .ok (.iload_n 3, 1) := by decide +kernel
theorem dX7_unpackBytes_1 : decode cX7_unpackBytes 1 = .ok (.iload 4, 2) := by decide +kernel
theorem dX7_unpackBytes_3 : decode cX7_unpackBytes 3 = .ok (.iadd, 1) := by decide +kernel
theorem dX7_unpackBytes_4 : decode cX7_unpackBytes 4 = .ok (.iconst 1, 1) := by decide +kernel
theorem dX7_unpackBytes_5 : decode cX7_unpackBytes 5 = .ok (.isub, 1) := by decide +kernel
theorem dX7_unpackBytes_6 : decode cX7_unpackBytes 6 = .ok (.istore 5, 2) := by decide +kernel
theorem dX7_unpackBytes_8 : decode cX7_unpackBytes 8 = .ok (.aload_n 0, 1) := by decide +kernel
theorem dX7_unpackBytes_9 : decode cX7_unpackBytes 9 = .ok (.iload_n 1, 1) := by decide +kernel
theorem dX7_unpackBytes_10 : decode cX7_unpackBytes 10 = .ok (.iload_n 2, 1) := by decide +kernel
theorem dX7_unpackBytes_11 : decode cX7_unpackBytes 11 = .ok (.iadd, 1) := by decide +kernel
theorem dX7_unpackBytes_12 : decode cX7_unpackBytes 12 = .ok (.iconst 1, 1) := by decide +kernel
theorem dX7_unpackBytes_13 : decode cX7_unpackBytes 13 = .ok (.isub, 1) := by decide +kernel
theorem dX7_unpackBytes_14 : decode cX7_unpackBytes 14 = .ok (.aload_n 0, 1) := by decide +kernel
theorem dX7_unpackBytes_15 : decode cX7_unpackBytes 15 = .ok (.iload 5, 2) := by decide +kernel
theorem dX7_unpackBytes_17 : decode cX7_unpackBytes 17 = .ok (.invokevirtual 7, 3) := by decide +kernel
theorem dX7_unpackBytes_20 : decode cX7_unpackBytes 20 = .ok (.invokestatic 13, 3) := by decide +kernel
theorem dX7_unpackBytes_23 : decode cX7_unpackBytes 23 = .ok (.invokevirtual 18, 3) := by decide +kernel
theorem dX7_unpackBytes_26 : decode cX7_unpackBytes 26 = .ok (.iconst 0, 1) := by decide +kernel
theorem dX7_unpackBytes_27 : decode cX7_unpackBytes 27 = .ok (.istore 6, 2) := by decide +kernel
theorem dX7_unpackBytes_29 : decode cX7_unpackBytes 29 = .ok (.iconst 1, 1) := by decide +kernel
theorem dX7_unpackBytes_30 : decode cX7_unpackBytes 30 = .ok (.istore 7, 2) := by decide +kernel
theorem dX7_unpackBytes_32 : decode cX7_unpackBytes 32 = .ok (.iload_n 1, 1) := by decide +kernel
theorem dX7_unpackBytes_33 : decode cX7_unpackBytes 33 = .ok (.iload_n 2, 1) := by decide +kernel
theorem dX7_unpackBytes_34 : decode cX7_unpackBytes 34 = .ok (.iadd, 1) := by decide +kernel
theorem dX7_unpackBytes_35 : decode cX7_unpackBytes 35 = .ok (.iconst 2, 1) := by decide +kernel
theorem dX7_unpackBytes_36 : decode cX7_unpackBytes 36 = .ok (.isub, 1) := by decide +kernel
theorem dX7_unpackBytes_37 : decode cX7_unpackBytes 37 = .ok (.istore 8, 2) := by decide +kernel
theorem dX7_unpackBytes_39 : decode cX7_unpackBytes 39 = .ok (.iload 8, 2) := by decide +kernel
theorem dX7_unpackBytes_41 : decode cX7_unpackBytes 41 = .ok (.iload_n 1, 1) := by decide +kernel
theorem dX7_unpackBytes_42 : decode cX7_unpackBytes 42 = .ok (.if_icmp .lt 74, 3) := by decide +kernel
theorem dX7_unpackBytes_45 : decode cX7_unpackBytes 45 = .ok (.iload 7, 2) := by decide +kernel
theorem dX7_unpackBytes_47 : decode cX7_unpackBytes 47 = .ok (.ifCond .eq 24, 3) := by decide +kernel
theorem dX7_unpackBytes_50 : decode cX7_unpackBytes 50 = .ok (.iinc 5 (-1), 3) := by decide +kernel
theorem dX7_unpackBytes_53 : decode cX7_unpackBytes 53 = .ok (.iload 5, 2) := by decide +kernel
theorem dX7_unpackBytes_55 : decode cX7_unpackBytes 55 = .ok (.iload_n 3, 1) := by decide +kernel
theorem dX7_unpackBytes_56 : decode cX7_unpackBytes 56 = .ok (.if_icmp .lt 12, 3) := by decide +kernel
theorem dX7_unpackBytes_59 : decode cX7_unpackBytes 59 = .ok (.aload_n 0, 1) := by decide +kernel
theorem dX7_unpackBytes_60 : decode cX7_unpackBytes 60 = .ok (.iload 5, 2) := by decide +kernel
theorem dX7_unpackBytes_62 : decode cX7_unpackBytes 62 = .ok (.invokevirtual 7, 3) := by decide +kernel
theorem dX7_unpackBytes_65 : decode cX7_unpackBytes 65 = .ok (.goto 4, 3) := by decide +kernel
theorem dX7_unpackBytes_68 : decode cX7_unpackBytes 68 = .ok (.iconst 0, 1) := by decide +kernel
theorem dX7_unpackBytes_69 : decode cX7_unpackBytes 69 = .ok (.istore 6, 2) := by decide +kernel
theorem dX7_unpackBytes_71 : decode cX7_unpackBytes 71 = .ok (.aload_n 0, 1) := by decide +kernel
theorem dX7_unpackBytes_72 : decode cX7_unpackBytes 72 = .ok (.iload 8, 2) := by decide +kernel
theorem dX7_unpackBytes_74 : decode cX7_unpackBytes 74 = .ok (.sipush 240, 3) := by decide +kernel
theorem dX7_unpackBytes_77 : decode cX7_unpackBytes 77 = .ok (.iload 7, 2) := by decide +kernel
theorem dX7_unpackBytes_79 : decode cX7_unpackBytes 79 = .ok (.ifCond .eq 11, 3) := by decide +kernel
theorem dX7_unpackBytes_82 : decode cX7_unpackBytes 82 = .ok (.iload 6, 2) := by decide +kernel
theorem dX7_unpackBytes_84 : decode cX7_unpackBytes 84 = .ok (.bipush 15, 2) := by decide +kernel
theorem dX7_unpackBytes_86 : decode cX7_unpackBytes 86 = .ok (.iand, 1) := by decide +kernel
theorem dX7_unpackBytes_87 : decode cX7_unpackBytes 87 = .ok (.goto 7, 3) := by decide +kernel
theorem dX7_unpackBytes_90 : decode cX7_unpackBytes 90 = .ok (.iload 6, 2) := by decide +kernel
theorem dX7_unpackBytes_92 : decode cX7_unpackBytes 92 = .ok (.iconst 4, 1) := by decide +kernel
theorem dX7_unpackBytes_93 : decode cX7_unpackBytes 93 = .ok (.ishr, 1) := by decide +kernel
theorem dX7_unpackBytes_94 : decode cX7_unpackBytes 94 = .ok (.ior, 1) := by decide +kernel
theorem dX7_unpackBytes_95 : decode cX7_unpackBytes 95 = .ok (.invokevirtual 18, 3) := by decide +kernel
theorem dX7_unpackBytes_98 : decode cX7_unpackBytes 98 = .ok (.iload 7, 2) := by decide +kernel
theorem dX7_unpackBytes_100 : decode cX7_unpackBytes 100 = .ok (.ifCond .ne 7, 3) := by decide +kernel
theorem dX7_unpackBytes_103 : decode cX7_unpackBytes 103 = .ok (.iconst 1, 1) := by decide +kernel
theorem dX7_unpackBytes_104 : decode cX7_unpackBytes 104 = .ok (.goto 4, 3) := by decide +kernel
theorem dX7_unpackBytes_107 : decode cX7_unpackBytes 107 = .ok (.iconst 0, 1) := by decide +kernel
theorem dX7_unpackBytes_108 : decode cX7_unpackBytes 108 = .ok (.istore 7, 2) := by decide +kernel
theorem dX7_unpackBytes_110 : decode cX7_unpackBytes 110 = .ok (.iinc 8 (-1), 3) := by decide +kernel
theorem dX7_unpackBytes_113 : decode cX7_unpackBytes 113 = .ok (.goto (-74), 3) := by decide +kernel
theorem dX7_unpackBytes_116 : decode cX7_unpackBytes 116 = .ok (.return_, 1) := by decide +kernel
theorem dX7_offsetBytes_0 : decode cX7_offsetBytes 0 = .ok (.iload_n 3, 1) := by decide +kernel
theorem dX7_offsetBytes_1 : decode cX7_offsetBytes 1 = .ok (.iload 4, 2) := by decide +kernel
theorem dX7_offsetBytes_3 : decode cX7_offsetBytes 3 = .ok (.iadd, 1) := by decide +kernel
theorem dX7_offsetBytes_4 : decode cX7_offsetBytes 4 = .ok (.iconst 1, 1) := by decide +kernel
theorem dX7_offsetBytes_5 : decode cX7_offsetBytes 5 = .ok (.isub, 1) := by decide +kernel
theorem dX7_offsetBytes_6 : decode cX7_offsetBytes 6 = .ok (.istore 5, 2) := by decide +kernel
theorem dX7_offsetBytes_8 : decode cX7_offsetBytes 8 = .ok (.aload_n 0, 1) := by decide +kernel
theorem dX7_offsetBytes_9 : decode cX7_offsetBytes 9 = .ok (.iconst 2, 1) := by decide +kernel
theorem dX7_offsetBytes_10 : decode cX7_offsetBytes 10 = .ok (.iload_n 1, 1) := by decide +kernel
theorem dX7_offsetBytes_11 : decode cX7_offsetBytes 11 = .ok (.iload_n 2, 1) := by decide +kernel
theorem dX7_offsetBytes_12 : decode cX7_offsetBytes 12 = .ok (.iadd, 1) := by decide +kernel
theorem dX7_offsetBytes_13 : decode cX7_offsetBytes 13 = .ok (.imul, 1) := by decide +kernel
theorem dX7_offsetBytes_14 : decode cX7_offsetBytes 14 = .ok (.iconst 1, 1) := by decide +kernel
theorem dX7_offsetBytes_15 : decode cX7_offsetBytes 15 = .ok (.isub, 1) := by decide +kernel
theorem dX7_offsetBytes_16 : decode cX7_offsetBytes 16 = .ok (.invokevirtual 22, 3) := by decide +kernel
theorem dX7_offsetBytes_19 : decode cX7_offsetBytes 19 = .ok (.istore 6, 2) := by decide +kernel
theorem dX7_offsetBytes_21 : decode cX7_offsetBytes 21 = .ok (.iload_n 1, 1) := by decide +kernel
theorem dX7_offsetBytes_22 : decode cX7_offsetBytes 22 = .ok (.iload_n 2, 1) := by decide +kernel
theorem dX7_offsetBytes_23 : decode cX7_offsetBytes 23 = .ok (.iadd, 1) := by decide +kernel
theorem dX7_offsetBytes_24 : decode cX7_offsetBytes 24 = .ok (.iconst 1, 1) := by decide +kernel
theorem dX7_offsetBytes_25 : decode cX7_offsetBytes 25 = .ok (.isub, 1) := by decide +kernel
theorem dX7_offsetBytes_26 : decode cX7_offsetBytes 26 = .ok (.istore 7, 2) := by decide +kernel
theorem dX7_offsetBytes_28 : decode cX7_offsetBytes 28 = .ok (.iload 7, 2) := by decide +kernel
theorem dX7_offsetBytes_30 : decode cX7_offsetBytes 30 = .ok (.iload_n 1, 1) := by decide +kernel
theorem dX7_offsetBytes_31 : decode cX7_offsetBytes 31 = .ok (.if_icmp .lt 52, 3) := by decide +kernel
theorem dX7_offsetBytes_34 : decode cX7_offsetBytes 34 = .ok (.iload 5, 2) := by decide +kernel
theorem dX7_offsetBytes_36 : decode cX7_offsetBytes 36 = .ok (.iload_n 3, 1) := by decide +kernel
theorem dX7_offsetBytes_37 : decode cX7_offsetBytes 37 = .ok (.if_icmp .lt 12, 3) := by decide +kernel
theorem dX7_offsetBytes_40 : decode cX7_offsetBytes 40 = .ok (.aload_n 0, 1) := by decide +kernel
theorem dX7_offsetBytes_41 : decode cX7_offsetBytes 41 = .ok (.iload 5, 2) := by decide +kernel
theorem dX7_offsetBytes_43 : decode cX7_offsetBytes 43 = .ok (.invokevirtual 7, 3) := by decide +kernel
theorem dX7_offsetBytes_46 : decode cX7_offsetBytes 46 = .ok (.goto 4, 3) := by decide +kernel
theorem dX7_offsetBytes_49 : decode cX7_offsetBytes 49 = .ok (.iconst 0, 1) := by decide +kernel
theorem dX7_offsetBytes_50 : decode cX7_offsetBytes 50 = .ok (.istore 8, 2) := by decide +kernel
theorem dX7_offsetBytes_52 : decode cX7_offsetBytes 52 = .ok (.aload_n 0, 1) := by decide +kernel
theorem dX7_offsetBytes_53 : decode cX7_offsetBytes 53 = .ok (.iload 7, 2) := by decide +kernel
theorem dX7_offsetBytes_55 : decode cX7_offsetBytes 55 = .ok (.iload 8, 2) := by decide +kernel
theorem dX7_offsetBytes_57 : decode cX7_offsetBytes 57 = .ok (.bipush 15, 2) := by decide +kernel
theorem dX7_offsetBytes_59 : decode cX7_offsetBytes 59 = .ok (.iand, 1) := by decide +kernel
theorem dX7_offsetBytes_60 : decode cX7_offsetBytes 60 = .ok (.iconst 4, 1) := by decide +kernel
theorem dX7_offsetBytes_61 : decode cX7_offsetBytes 61 = .ok (.ishl, 1) := by decide +kernel
theorem dX7_offsetBytes_62 : decode cX7_offsetBytes 62 = .ok (.iload 6, 2) := by decide +kernel
theorem dX7_offsetBytes_64 : decode cX7_offsetBytes 64 = .ok (.ior, 1) := by decide +kernel
theorem dX7_offsetBytes_65 : decode cX7_offsetBytes 65 = .ok (.invokevirtual 18, 3) := by decide +kernel
theorem dX7_offsetBytes_68 : decode cX7_offsetBytes 68 = .ok (.iload 8, 2) := by decide +kernel
theorem dX7_offsetBytes_70 : decode cX7_offsetBytes 70 = .ok (.iconst 4, 1) := by decide +kernel
theorem dX7_offsetBytes_71 : decode cX7_offsetBytes 71 = .ok (.ishr, 1) := by decide +kernel
theorem dX7_offsetBytes_72 : decode cX7_offsetBytes 72 = .ok (.istore 6, 2) := by decide +kernel
theorem dX7_offsetBytes_74 : decode cX7_offsetBytes 74 = .ok (.iinc 5 (-1), 3) := by decide +kernel
theorem dX7_offsetBytes_77 : decode cX7_offsetBytes 77 = .ok (.iinc 7 (-1), 3) := by decide +kernel
theorem dX7_offsetBytes_80 : decode cX7_offsetBytes 80 = .ok (.goto (-52), 3) := by decide +kernel
theorem dX7_offsetBytes_83 : decode cX7_offsetBytes 83 = .ok (.return_, 1) := by decide +kernel
theorem dX7_copyBytes_0 : decode cX7_copyBytes 0 = .ok (.iconst 0, 1) := by decide +kernel
theorem dX7_copyBytes_1 : decode cX7_copyBytes 1 = .ok (.istore 5, 2) := by decide +kernel
theorem dX7_copyBytes_3 : decode cX7_copyBytes 3 = .ok (.iload 5, 2) := by decide +kernel
theorem dX7_copyBytes_5 : decode cX7_copyBytes 5 = .ok (.iload_n 2, 1) := by decide +kernel
theorem dX7_copyBytes_6 : decode cX7_copyBytes 6 = .ok (.if_icmp .ge 46, 3) := by decide +kernel
theorem dX7_copyBytes_9 : decode cX7_copyBytes 9 = .ok (.aload_n 0, 1) := by decide +kernel
theorem dX7_copyBytes_10 : decode cX7_copyBytes 10 = .ok (.iload_n 1, 1) := by decide +kernel
theorem dX7_copyBytes_11 : decode cX7_copyBytes 11 = .ok (.iload 5, 2) := by decide +kernel
theorem dX7_copyBytes_13 : decode cX7_copyBytes 13 = .ok (.iadd, 1) := by decide +kernel
theorem dX7_copyBytes_14 : decode cX7_copyBytes 14 = .ok (.invokevirtual 7, 3) := by decide +kernel
theorem dX7_copyBytes_17 : decode cX7_copyBytes 17 = .ok (.iload 4, 2) := by decide +kernel
theorem dX7_copyBytes_19 : decode cX7_copyBytes 19 = .ok (.iconst (-1), 1) := by decide +kernel
theorem dX7_copyBytes_20 : decode cX7_copyBytes 20 = .ok (.ixor, 1) := by decide +kernel
theorem dX7_copyBytes_21 : decode cX7_copyBytes 21 = .ok (.iand, 1) := by decide +kernel
theorem dX7_copyBytes_22 : decode cX7_copyBytes 22 = .ok (.istore 6, 2) := by decide +kernel
theorem dX7_copyBytes_24 : decode cX7_copyBytes 24 = .ok (.aload_n 0, 1) := by decide +kernel
theorem dX7_copyBytes_25 : decode cX7_copyBytes 25 = .ok (.iload_n 1, 1) := by decide +kernel
theorem dX7_copyBytes_26 : decode cX7_copyBytes 26 = .ok (.iload 5, 2) := by decide +kernel
theorem dX7_copyBytes_28 : decode cX7_copyBytes 28 = .ok (.iadd, 1) := by decide +kernel
theorem dX7_copyBytes_29 : decode cX7_copyBytes 29 = .ok (.iload 6, 2) := by decide +kernel
theorem dX7_copyBytes_31 : decode cX7_copyBytes 31 = .ok (.aload_n 0, 1) := by decide +kernel
theorem dX7_copyBytes_32 : decode cX7_copyBytes 32 = .ok (.iload_n 3, 1) := by decide +kernel
theorem dX7_copyBytes_33 : decode cX7_copyBytes 33 = .ok (.iload 5, 2) := by decide +kernel
theorem dX7_copyBytes_35 : decode cX7_copyBytes 35 = .ok (.iadd, 1) := by decide +kernel
theorem dX7_copyBytes_36 : decode cX7_copyBytes 36 = .ok (.invokevirtual 7, 3) := by decide +kernel
theorem dX7_copyBytes_39 : decode cX7_copyBytes 39 = .ok (.iload 4, 2) := by decide +kernel
theorem dX7_copyBytes_41 : decode cX7_copyBytes 41 = .ok (.iand, 1) := by decide +kernel
theorem dX7_copyBytes_42 : decode cX7_copyBytes 42 = .ok (.ior, 1) := by decide +kernel
theorem dX7_copyBytes_43 : decode cX7_copyBytes 43 = .ok (.invokevirtual 18, 3) := by decide +kernel
theorem dX7_copyBytes_46 : decode cX7_copyBytes 46 = .ok (.iinc 5 1, 3) := by decide +kernel
theorem dX7_copyBytes_49 : decode cX7_copyBytes 49 = .ok (.goto (-46), 3) := by decide +kernel
theorem dX7_copyBytes_52 : decode cX7_copyBytes 52 = .ok (.return_, 1) := by decide +kernel
theorem dX7_turned_0 : decode cX7_turned 0 = .ok (.iload_n 0, 1) := by decide +kernel
theorem dX7_turned_1 : decode cX7_turned 1 = .ok (.bipush 15, 2) := by decide +kernel
theorem dX7_turned_3 : decode cX7_turned 3 = .ok (.iand, 1) := by decide +kernel
theorem dX7_turned_4 : decode cX7_turned 4 = .ok (.iconst 4, 1) := by decide +kernel
theorem dX7_turned_5 : decode cX7_turned 5 = .ok (.ishl, 1) := by decide +kernel
theorem dX7_turned_6 : decode cX7_turned 6 = .ok (.iload_n 0, 1) := by decide +kernel
theorem dX7_turned_7 : decode cX7_turned 7 = .ok (.iconst 4, 1) := by decide +kernel
theorem dX7_turned_8 : decode cX7_turned 8 = .ok (.ishr, 1) := by decide +kernel
theorem dX7_turned_9 : decode cX7_turned 9 = .ok (.ior, 1) := by decide +kernel
theorem dX7_turned_10 : decode cX7_turned 10 = .ok (.ireturn, 1) := by decide +kernel
theorem dX8_init_0 : decode cX8_init 0 = .ok (.aload_n 0, 1) := by decide +kernel
theorem dX8_init_1 : decode cX8_init 1 = .ok (.invokespecial 3, 3) := by decide +kernel
theorem dX8_init_4 : decode cX8_init 4 = .ok (.aload_n 0, 1) := by decide +kernel
theorem dX8_init_5 : decode cX8_init 5 = .ok (.bipush 60, 2) := by decide +kernel
theorem dX8_init_7 : decode cX8_init 7 = .ok (.newarray .long, 2) := by decide +kernel
theorem dX8_init_9 : decode cX8_init 9 = .ok (.putfield 11, 3) := by decide +kernel
theorem dX8_init_12 : decode cX8_init 12 = .ok (.aload_n 0, 1) := by decide +kernel
theorem dX8_init_13 : decode cX8_init 13 = .ok (.bipush 60, 2) := by decide +kernel
theorem dX8_init_15 : decode cX8_init 15 = .ok (.newarray .long, 2) := by decide +kernel
theorem dX8_init_17 : decode cX8_init 17 = .ok (.putfield 17, 3) := by decide +kernel
theorem dX8_init_20 : decode cX8_init 20 = .ok (.aload_n 0, 1) := by decide +kernel
theorem dX8_init_21 : decode cX8_init 21 = .ok (.bipush 60, 2) := by decide +kernel
theorem dX8_init_23 : decode cX8_init 23 = .ok (.newarray .int, 2) := by decide +kernel
theorem dX8_init_25 : decode cX8_init 25 = .ok (.putfield 20, 3) := by decide +kernel
theorem dX8_init_28 : decode cX8_init 28 = .ok (.aload_n 0, 1) := by decide +kernel
theorem dX8_init_29 : decode cX8_init 29 = .ok (.iconst 0, 1) := by decide +kernel
theorem dX8_init_30 : decode cX8_init 30 = .ok (.newarray .int, 2) := by decide +kernel
theorem dX8_init_32 : decode cX8_init 32 = .ok (.putfield 24, 3) := by decide +kernel
theorem dX8_init_35 : decode cX8_init 35 = .ok (.aload_n 0, 1) := by decide +kernel
theorem dX8_init_36 : decode cX8_init 36 = .ok (.new 9, 3) := by decide +kernel
theorem dX8_init_39 : decode cX8_init 39 = .ok (.dup, 1) := by decide +kernel
theorem dX8_init_40 : decode cX8_init 40 = .ok (.invokespecial 27, 3) := by decide +kernel
theorem dX8_init_43 : decode cX8_init 43 = .ok (.putfield 28, 3) := by decide +kernel
theorem dX8_init_46 : decode cX8_init 46 = .ok (.return_, 1) := by decide +kernel
theorem dX8_parse_0 : decode cX8_parse 0 = .ok (.aload_n 0, 1) := by decide +kernel
theorem dX8_parse_1 : decode cX8_parse 1 = .ok (.aload_n 1, 1) := by decide +kernel
theorem dX8_parse_2 : decode cX8_parse 2 = .ok (.putfield 24, 3) := by decide +kernel
theorem dX8_parse_5 : decode cX8_parse 5 = .ok (.aload_n 0, 1) := by decide +kernel
theorem dX8_parse_6 : decode cX8_parse 6 = .ok (.iload_n 2, 1) := by decide +kernel
theorem dX8_parse_7 : decode cX8_parse 7 = .ok (.aload_n 0, 1) := by decide +kernel
theorem dX8_parse_8 : decode cX8_parse 8 = .ok (.getfield 24, 3) := by decide +kernel
theorem dX8_parse_11 : decode cX8_parse 11 = .ok (.arraylength, 1) := by decide +kernel
theorem dX8_parse_12 : decode cX8_parse 12 = .ok (.invokestatic 32, 3) := by decide +kernel
theorem dX8_parse_15 : decode cX8_parse 15 = .ok (.putfield 38, 3) := by decide +kernel
theorem dX8_parse_18 : decode cX8_parse 18 = .ok (.aload_n 0, 1) := by decide +kernel
theorem dX8_parse_19 : decode cX8_parse 19 = .ok (.aload_n 3, 1) := by decide +kernel
theorem dX8_parse_20 : decode cX8_parse 20 = .ok (.putfield 28, 3) := by decide +kernel
theorem dX8_parse_23 : decode cX8_parse 23 = .ok (.aload_n 0, 1) := by decide +kernel
theorem dX8_parse_24 : decode cX8_parse 24 = .ok (.getfield 28, 3) := by decide +kernel
theorem dX8_parse_27 : decode cX8_parse 27 = .ok (.invokevirtual 42, 3) := by decide +kernel
theorem dX8_parse_30 : decode cX8_parse 30 = .ok (.aload_n 0, 1) := by decide +kernel
theorem dX8_parse_31 : decode cX8_parse 31 = .ok (.iconst 0, 1) := by decide +kernel
theorem dX8_parse_32 : decode cX8_parse 32 = .ok (.putfield 45, 3) := by decide +kernel
theorem dX8_parse_35 : decode cX8_parse 35 = .ok (.aload_n 0, 1) := by decide +kernel
theorem dX8_parse_36 : decode cX8_parse 36 = .ok (.iconst 0, 1) := by decide +kernel
theorem dX8_parse_37 : decode cX8_parse 37 = .ok (.putfield 48, 3) := by decide +kernel
theorem dX8_parse_40 : decode cX8_parse 40 = .ok (.aload_n 0, 1) := by decide +kernel
theorem dX8_parse_41 : decode cX8_parse 41 = .ok (.invokevirtual 51, 3) := by decide +kernel
theorem dX8_parse_44 : decode cX8_parse 44 = .ok (.iconst 0, 1) := by decide +kernel
theorem dX8_parse_45 : decode cX8_parse 45 = .ok (.istore 4, 2) := by decide +kernel
theorem dX8_parse_47 : decode cX8_parse 47 = .ok (.iload 4, 2) := by decide +kernel
theorem dX8_parse_49 : decode cX8_parse 49 = .ok (.aload_n 0, 1) := by decide +kernel
theorem dX8_parse_50 : decode cX8_parse 50 = .ok (.getfield 38, 3) := by decide +kernel
theorem dX8_parse_53 : decode cX8_parse 53 = .ok (.if_icmp .gt 28, 3) := by decide +kernel
theorem dX8_parse_56 : decode cX8_parse 56 = .ok (.aload_n 0, 1) := by decide +kernel
theorem dX8_parse_57 : decode cX8_parse 57 = .ok (.getfield 45, 3) := by decide +kernel
theorem dX8_parse_60 : decode cX8_parse 60 = .ok (.ifCond .ne 21, 3) := by decide +kernel
theorem dX8_parse_63 : decode cX8_parse 63 = .ok (.aload_n 0, 1) := by decide +kernel
theorem dX8_parse_64 : decode cX8_parse 64 = .ok (.getfield 54, 3) := by decide +kernel
theorem dX8_parse_67 : decode cX8_parse 67 = .ok (.iconst 5, 1) := by decide +kernel
theorem dX8_parse_68 : decode cX8_parse 68 = .ok (.if_icmp .eq 13, 3) := by decide +kernel
theorem dX8_parse_71 : decode cX8_parse 71 = .ok (.aload_n 0, 1) := by decide +kernel
theorem dX8_parse_72 : decode cX8_parse 72 = .ok (.invokevirtual 57, 3) := by decide +kernel
theorem dX8_parse_75 : decode cX8_parse 75 = .ok (.iinc 4 1, 3) := by decide +kernel
theorem dX8_parse_78 : decode cX8_parse 78 = .ok (.goto (-31), 3) := by decide +kernel
theorem dX8_parse_81 : decode cX8_parse 81 = .ok (.aload_n 0, 1) := by decide +kernel
theorem dX8_parse_82 : decode cX8_parse 82 = .ok (.getfield 45, 3) := by decide +kernel
theorem dX8_parse_85 : decode cX8_parse 85 = .ok (.ifCond .ne 7, 3) := by decide +kernel
theorem dX8_parse_88 : decode cX8_parse 88 = .ok (.aload_n 0, 1) := by decide +kernel
theorem dX8_parse_89 : decode cX8_parse 89 = .ok (.invokevirtual 60, 3) := by decide +kernel
theorem dX8_parse_92 : decode cX8_parse 92 = .ok (.aload_n 0, 1) := by decide +kernel
theorem dX8_parse_93 : decode cX8_parse 93 = .ok (.getfield 45, 3) := by decide +kernel
theorem dX8_parse_96 : decode cX8_parse 96 = .ok (.ireturn, 1) := by decide +kernel
theorem dX8_faultPlace_0 : decode cX8_faultPlace 0 = .ok (.aload_n 0, 1) := by decide +kernel
theorem dX8_faultPlace_1 : decode cX8_faultPlace 1 = .ok (.getfield 63, 3) := by decide +kernel
theorem dX8_faultPlace_4 : decode cX8_faultPlace 4 = .ok (.ireturn, 1) := by decide +kernel
theorem dX8_readLine_0 : decode cX8_readLine 0 = .ok (.aload_n 0, 1) := by decide +kernel
theorem dX8_readLine_1 : decode cX8_readLine 1 = .ok (.getfield 66, 3) := by decide +kernel
theorem dX8_readLine_4 : decode cX8_readLine 4 = .ok (.getstatic 70, 3) := by decide +kernel
theorem dX8_readLine_7 : decode cX8_readLine 7 = .ok (.if_acmp .ne 14, 3) := by decide +kernel
theorem dX8_readLine_10 : decode cX8_readLine 10 = .ok (.aload_n 0, 1) := by decide +kernel
theorem dX8_readLine_11 : decode cX8_readLine 11 = .ok (.invokevirtual 51, 3) := by decide +kernel
theorem dX8_readLine_14 : decode cX8_readLine 14 = .ok (.aload_n 0, 1) := by decide +kernel
theorem dX8_readLine_15 : decode cX8_readLine 15 = .ok (.invokevirtual 75, 3) := by decide +kernel
theorem dX8_readLine_18 : decode cX8_readLine 18 = .ok (.goto 13, 3) := by decide +kernel
theorem dX8_readLine_21 : decode cX8_readLine 21 = .ok (.aload_n 0, 1) := by decide +kernel
theorem dX8_readLine_22 : decode cX8_readLine 22 = .ok (.invokevirtual 78, 3) := by decide +kernel
theorem dX8_readLine_25 : decode cX8_readLine 25 = .ok (.lstore_n 1, 1) := by decide +kernel
theorem dX8_readLine_26 : decode cX8_readLine 26 = .ok (.aload_n 0, 1) := by decide +kernel
theorem dX8_readLine_27 : decode cX8_readLine 27 = .ok (.lload_n 1, 1) := by decide +kernel
theorem dX8_readLine_28 : decode cX8_readLine 28 = .ok (.invokevirtual 82, 3) := by decide +kernel
theorem dX8_readLine_31 : decode cX8_readLine 31 = .ok (.aload_n 0, 1) := by decide +kernel
theorem dX8_readLine_32 : decode cX8_readLine 32 = .ok (.bipush 59, 2) := by decide +kernel
theorem dX8_readLine_34 : decode cX8_readLine 34 = .ok (.invokevirtual 86, 3) := by decide +kernel
theorem dX8_readLine_37 : decode cX8_readLine 37 = .ok (.return_, 1) := by decide +kernel
theorem dX8_readLaying_0 : decode cX8_readLaying 0 = .ok (.aload_n 0, 1) := by decide +kernel
theorem dX8_readLaying_1 : decode cX8_readLaying 1 = .ok (.iconst 0, 1) := by decide +kernel
theorem dX8_readLaying_2 : decode cX8_readLaying 2 = .ok (.sipush 255, 3) := by decide +kernel
theorem dX8_readLaying_5 : decode cX8_readLaying 5 = .ok (.invokevirtual 92, 3) := by decide +kernel
theorem dX8_readLaying_8 : decode cX8_readLaying 8 = .ok (.istore_n 1, 1) := by decide +kernel
theorem dX8_readLaying_9 : decode cX8_readLaying 9 = .ok (.aload_n 0, 1) := by decide +kernel
theorem dX8_readLaying_10 : decode cX8_readLaying 10 = .ok (.getfield 45, 3) := by decide +kernel
theorem dX8_readLaying_13 : decode cX8_readLaying 13 = .ok (.ifCond .eq 4, 3) := by decide +kernel
theorem dX8_readLaying_16 : decode cX8_readLaying 16 = .ok (.return_, 1) := by decide +kernel
theorem dX8_readLaying_17 : decode cX8_readLaying 17 = .ok (.aload_n 0, 1) := by decide +kernel
theorem dX8_readLaying_18 : decode cX8_readLaying 18 = .ok (.getfield 54, 3) := by decide +kernel
theorem dX8_readLaying_21 : decode cX8_readLaying 21 = .ok (.iconst 3, 1) := by decide +kernel
theorem dX8_readLaying_22 : decode cX8_readLaying 22 = .ok (.if_icmp .ne 11, 3) := by decide +kernel
theorem dX8_readLaying_25 : decode cX8_readLaying 25 = .ok (.aload_n 0, 1) := by decide +kernel
theorem dX8_readLaying_26 : decode cX8_readLaying 26 = .ok (.iload_n 1, 1) := by decide +kernel
theorem dX8_readLaying_27 : decode cX8_readLaying 27 = .ok (.invokevirtual 95, 3) := by decide +kernel
theorem dX8_readLaying_30 : decode cX8_readLaying 30 = .ok (.goto 8, 3) := by decide +kernel
theorem dX8_readLaying_33 : decode cX8_readLaying 33 = .ok (.aload_n 0, 1) := by decide +kernel
theorem dX8_readLaying_34 : decode cX8_readLaying 34 = .ok (.iload_n 1, 1) := by decide +kernel
theorem dX8_readLaying_35 : decode cX8_readLaying 35 = .ok (.invokevirtual 98, 3) := by decide +kernel
theorem dX8_readLaying_38 : decode cX8_readLaying 38 = .ok (.return_, 1) := by decide +kernel
theorem dX8_layHex_0 : decode cX8_layHex 0 = .ok (.aload_n 0, 1) := by decide +kernel
theorem dX8_layHex_1 : decode cX8_layHex 1 = .ok (.getfield 48, 3) := by decide +kernel
theorem dX8_layHex_4 : decode cX8_layHex 4 = .ok (.aload_n 0, 1) := by decide +kernel
theorem dX8_layHex_5 : decode cX8_layHex 5 = .ok (.getfield 101, 3) := by decide +kernel
theorem dX8_layHex_8 : decode cX8_layHex 8 = .ok (.isub, 1) := by decide +kernel
theorem dX8_layHex_9 : decode cX8_layHex 9 = .ok (.iconst 1, 1) := by decide +kernel
theorem dX8_layHex_10 : decode cX8_layHex 10 = .ok (.isub, 1) := by decide +kernel
theorem dX8_layHex_11 : decode cX8_layHex 11 = .ok (.istore_n 2, 1) := by decide +kernel
theorem dX8_layHex_12 : decode cX8_layHex 12 = .ok (.iload_n 2, 1) := by decide +kernel
theorem dX8_layHex_13 : decode cX8_layHex 13 = .ok (.iconst 2, 1) := by decide +kernel
theorem dX8_layHex_14 : decode cX8_layHex 14 = .ok (.irem, 1) := by decide +kernel
theorem dX8_layHex_15 : decode cX8_layHex 15 = .ok (.ifCond .ne 14, 3) := by decide +kernel
theorem dX8_layHex_18 : decode cX8_layHex 18 = .ok (.iload_n 1, 1) := by decide +kernel
theorem dX8_layHex_19 : decode cX8_layHex 19 = .ok (.iload_n 2, 1) := by decide +kernel
theorem dX8_layHex_20 : decode cX8_layHex 20 = .ok (.iconst 2, 1) := by decide +kernel
theorem dX8_layHex_21 : decode cX8_layHex 21 = .ok (.idiv, 1) := by decide +kernel
theorem dX8_layHex_22 : decode cX8_layHex 22 = .ok (.iadd, 1) := by decide +kernel
theorem dX8_layHex_23 : decode cX8_layHex 23 = .ok (.sipush 256, 3) := by decide +kernel
theorem dX8_layHex_26 : decode cX8_layHex 26 = .ok (.if_icmp .le 9, 3) := by decide +kernel
theorem dX8_layHex_29 : decode cX8_layHex 29 = .ok (.aload_n 0, 1) := by decide +kernel
theorem dX8_layHex_30 : decode cX8_layHex 30 = .ok (.iconst 2, 1) := by decide +kernel
theorem dX8_layHex_31 : decode cX8_layHex 31 = .ok (.invokevirtual 104, 3) := by decide +kernel
theorem dX8_layHex_34 : decode cX8_layHex 34 = .ok (.return_, 1) := by decide +kernel
theorem dX8_layHex_35 : decode cX8_layHex 35 = .ok (.iconst 0, 1) := by decide +kernel
theorem dX8_layHex_36 : decode cX8_layHex 36 = .ok (.istore_n 3, 1) := by decide +kernel
theorem dX8_layHex_37 : decode cX8_layHex 37 = .ok (.iload_n 3, 1) := by decide +kernel
theorem dX8_layHex_38 : decode cX8_layHex 38 = .ok (.iload_n 2, 1) := by decide +kernel
theorem dX8_layHex_39 : decode cX8_layHex 39 = .ok (.if_icmp .ge 36, 3) := by decide +kernel
theorem dX8_layHex_42 : decode cX8_layHex 42 = .ok (.aload_n 0, 1) := by decide +kernel
theorem dX8_layHex_43 : decode cX8_layHex 43 = .ok (.getfield 28, 3) := by decide +kernel
theorem dX8_layHex_46 : decode cX8_layHex 46 = .ok (.iconst 2, 1) := by decide +kernel
theorem dX8_layHex_47 : decode cX8_layHex 47 = .ok (.iload_n 1, 1) := by decide +kernel
theorem dX8_layHex_48 : decode cX8_layHex 48 = .ok (.imul, 1) := by decide +kernel
theorem dX8_layHex_49 : decode cX8_layHex 49 = .ok (.iload_n 3, 1) := by decide +kernel
theorem dX8_layHex_50 : decode cX8_layHex 50 = .ok (.iadd, 1) := by decide +kernel
theorem dX8_layHex_51 : decode cX8_layHex 51 = .ok (.aload_n 0, 1) := by decide +kernel
theorem dX8_layHex_52 : decode cX8_layHex 52 = .ok (.aload_n 0, 1) := by decide +kernel
theorem dX8_layHex_53 : decode cX8_layHex 53 = .ok (.getfield 101, 3) := by decide +kernel
theorem dX8_layHex_56 : decode cX8_layHex 56 = .ok (.iconst 1, 1) := by decide +kernel
theorem dX8_layHex_57 : decode cX8_layHex 57 = .ok (.iadd, 1) := by decide +kernel
theorem dX8_layHex_58 : decode cX8_layHex 58 = .ok (.iload_n 3, 1) := by decide +kernel
theorem dX8_layHex_59 : decode cX8_layHex 59 = .ok (.iadd, 1) := by decide +kernel
theorem dX8_layHex_60 : decode cX8_layHex 60 = .ok (.invokevirtual 107, 3) := by decide +kernel
theorem dX8_layHex_63 : decode cX8_layHex 63 = .ok (.invokestatic 111, 3) := by decide +kernel
theorem dX8_layHex_66 : decode cX8_layHex 66 = .ok (.invokevirtual 114, 3) := by decide +kernel
theorem dX8_layHex_69 : decode cX8_layHex 69 = .ok (.iinc 3 1, 3) := by decide +kernel
theorem dX8_layHex_72 : decode cX8_layHex 72 = .ok (.goto (-35), 3) := by decide +kernel
theorem dX8_layHex_75 : decode cX8_layHex 75 = .ok (.aload_n 0, 1) := by decide +kernel
theorem dX8_layHex_76 : decode cX8_layHex 76 = .ok (.invokevirtual 51, 3) := by decide +kernel
theorem dX8_layHex_79 : decode cX8_layHex 79 = .ok (.return_, 1) := by decide +kernel
theorem dX8_readDigits_0 : decode cX8_readDigits 0 = .ok (.aload_n 0, 1) := by decide +kernel
theorem dX8_readDigits_1 : decode cX8_readDigits 1 = .ok (.getfield 66, 3) := by decide +kernel
theorem dX8_readDigits_4 : decode cX8_readDigits 4 = .ok (.getstatic 118, 3) := by decide +kernel
theorem dX8_readDigits_7 : decode cX8_readDigits 7 = .ok (.if_acmp .ne 7, 3) := by decide +kernel
theorem dX8_readDigits_10 : decode cX8_readDigits 10 = .ok (.iconst 1, 1) := by decide +kernel
theorem dX8_readDigits_11 : decode cX8_readDigits 11 = .ok (.goto 4, 3) := by decide +kernel
theorem dX8_readDigits_14 : decode cX8_readDigits 14 = .ok (.iconst 0, 1) := by decide +kernel
theorem dX8_readDigits_15 : decode cX8_readDigits 15 = .ok (.istore_n 2, 1) := by decide +kernel
theorem dX8_readDigits_16 : decode cX8_readDigits 16 = .ok (.iload_n 2, 1) := by decide +kernel
theorem dX8_readDigits_17 : decode cX8_readDigits 17 = .ok (.ifCond .ne 19, 3) := by decide +kernel
theorem dX8_readDigits_20 : decode cX8_readDigits 20 = .ok (.aload_n 0, 1) := by decide +kernel
theorem dX8_readDigits_21 : decode cX8_readDigits 21 = .ok (.getfield 66, 3) := by decide +kernel
theorem dX8_readDigits_24 : decode cX8_readDigits 24 = .ok (.getstatic 121, 3) := by decide +kernel
theorem dX8_readDigits_27 : decode cX8_readDigits 27 = .ok (.if_acmp .eq 9, 3) := by decide +kernel
theorem dX8_readDigits_30 : decode cX8_readDigits 30 = .ok (.aload_n 0, 1) := by decide +kernel
theorem dX8_readDigits_31 : decode cX8_readDigits 31 = .ok (.iconst 1, 1) := by decide +kernel
theorem dX8_readDigits_32 : decode cX8_readDigits 32 = .ok (.invokevirtual 104, 3) := by decide +kernel
theorem dX8_readDigits_35 : decode cX8_readDigits 35 = .ok (.return_, 1) := by decide +kernel
theorem dX8_readDigits_36 : decode cX8_readDigits 36 = .ok (.aload_n 0, 1) := by decide +kernel
theorem dX8_readDigits_37 : decode cX8_readDigits 37 = .ok (.invokevirtual 51, 3) := by decide +kernel
theorem dX8_readDigits_40 : decode cX8_readDigits 40 = .ok (.aload_n 0, 1) := by decide +kernel
theorem dX8_readDigits_41 : decode cX8_readDigits 41 = .ok (.bipush 45, 2) := by decide +kernel
theorem dX8_readDigits_43 : decode cX8_readDigits 43 = .ok (.invokevirtual 124, 3) := by decide +kernel
theorem dX8_readDigits_46 : decode cX8_readDigits 46 = .ok (.ifCond .eq 8, 3) := by decide +kernel
theorem dX8_readDigits_49 : decode cX8_readDigits 49 = .ok (.bipush 13, 2) := by decide +kernel
theorem dX8_readDigits_51 : decode cX8_readDigits 51 = .ok (.goto 5, 3) := by decide +kernel
theorem dX8_readDigits_54 : decode cX8_readDigits 54 = .ok (.bipush 12, 2) := by decide +kernel
theorem dX8_readDigits_56 : decode cX8_readDigits 56 = .ok (.istore_n 3, 1) := by decide +kernel
theorem dX8_readDigits_57 : decode cX8_readDigits 57 = .ok (.aload_n 0, 1) := by decide +kernel
theorem dX8_readDigits_58 : decode cX8_readDigits 58 = .ok (.getfield 101, 3) := by decide +kernel
theorem dX8_readDigits_61 : decode cX8_readDigits 61 = .ok (.istore 4, 2) := by decide +kernel
theorem dX8_readDigits_63 : decode cX8_readDigits 63 = .ok (.aload_n 0, 1) := by decide +kernel
theorem dX8_readDigits_64 : decode cX8_readDigits 64 = .ok (.getfield 48, 3) := by decide +kernel
theorem dX8_readDigits_67 : decode cX8_readDigits 67 = .ok (.istore 5, 2) := by decide +kernel
theorem dX8_readDigits_69 : decode cX8_readDigits 69 = .ok (.aload_n 0, 1) := by decide +kernel
theorem dX8_readDigits_70 : decode cX8_readDigits 70 = .ok (.getfield 54, 3) := by decide +kernel
theorem dX8_readDigits_73 : decode cX8_readDigits 73 = .ok (.iconst 2, 1) := by decide +kernel
theorem dX8_readDigits_74 : decode cX8_readDigits 74 = .ok (.if_icmp .eq 9, 3) := by decide +kernel
theorem dX8_readDigits_77 : decode cX8_readDigits 77 = .ok (.aload_n 0, 1) := by decide +kernel
theorem dX8_readDigits_78 : decode cX8_readDigits 78 = .ok (.iconst 1, 1) := by decide +kernel
theorem dX8_readDigits_79 : decode cX8_readDigits 79 = .ok (.invokevirtual 104, 3) := by decide +kernel
theorem dX8_readDigits_82 : decode cX8_readDigits 82 = .ok (.return_, 1) := by decide +kernel
theorem dX8_readDigits_83 : decode cX8_readDigits 83 = .ok (.aload_n 0, 1) := by decide +kernel
theorem dX8_readDigits_84 : decode cX8_readDigits 84 = .ok (.invokevirtual 51, 3) := by decide +kernel
theorem dX8_readDigits_87 : decode cX8_readDigits 87 = .ok (.aload_n 0, 1) := by decide +kernel
theorem dX8_readDigits_88 : decode cX8_readDigits 88 = .ok (.getfield 66, 3) := by decide +kernel
theorem dX8_readDigits_91 : decode cX8_readDigits 91 = .ok (.getstatic 128, 3) := by decide +kernel
theorem dX8_readDigits_94 : decode cX8_readDigits 94 = .ok (.if_acmp .eq 9, 3) := by decide +kernel
theorem dX8_readDigits_97 : decode cX8_readDigits 97 = .ok (.aload_n 0, 1) := by decide +kernel
theorem dX8_readDigits_98 : decode cX8_readDigits 98 = .ok (.iconst 1, 1) := by decide +kernel
theorem dX8_readDigits_99 : decode cX8_readDigits 99 = .ok (.invokevirtual 104, 3) := by decide +kernel
theorem dX8_readDigits_102 : decode cX8_readDigits 102 = .ok (.return_, 1) := by decide +kernel
theorem dX8_readDigits_103 : decode cX8_readDigits 103 = .ok (.aload_n 0, 1) := by decide +kernel
theorem dX8_readDigits_104 : decode cX8_readDigits 104 = .ok (.invokevirtual 51, 3) := by decide +kernel
theorem dX8_readDigits_107 : decode cX8_readDigits 107 = .ok (.iload_n 2, 1) := by decide +kernel
theorem dX8_readDigits_108 : decode cX8_readDigits 108 = .ok (.ifCond .eq 11, 3) := by decide +kernel
theorem dX8_readDigits_111 : decode cX8_readDigits 111 = .ok (.iload 5, 2) := by decide +kernel
theorem dX8_readDigits_113 : decode cX8_readDigits 113 = .ok (.iload 4, 2) := by decide +kernel
theorem dX8_readDigits_115 : decode cX8_readDigits 115 = .ok (.isub, 1) := by decide +kernel
theorem dX8_readDigits_116 : decode cX8_readDigits 116 = .ok (.goto 12, 3) := by decide +kernel
theorem dX8_readDigits_119 : decode cX8_readDigits 119 = .ok (.iload 5, 2) := by decide +kernel
theorem dX8_readDigits_121 : decode cX8_readDigits 121 = .ok (.iload 4, 2) := by decide +kernel
theorem dX8_readDigits_123 : decode cX8_readDigits 123 = .ok (.isub, 1) := by decide +kernel
theorem dX8_readDigits_124 : decode cX8_readDigits 124 = .ok (.iconst 2, 1) := by decide +kernel
theorem dX8_readDigits_125 : decode cX8_readDigits 125 = .ok (.idiv, 1) := by decide +kernel
theorem dX8_readDigits_126 : decode cX8_readDigits 126 = .ok (.iconst 1, 1) := by decide +kernel
theorem dX8_readDigits_127 : decode cX8_readDigits 127 = .ok (.iadd, 1) := by decide +kernel
theorem dX8_readDigits_128 : decode cX8_readDigits 128 = .ok (.istore 6, 2) := by decide +kernel
theorem dX8_readDigits_130 : decode cX8_readDigits 130 = .ok (.aload_n 0, 1) := by decide +kernel
theorem dX8_readDigits_131 : decode cX8_readDigits 131 = .ok (.iload 6, 2) := by decide +kernel
theorem dX8_readDigits_133 : decode cX8_readDigits 133 = .ok (.bipush 16, 2) := by decide +kernel
theorem dX8_readDigits_135 : decode cX8_readDigits 135 = .ok (.sipush 256, 3) := by decide +kernel
theorem dX8_readDigits_138 : decode cX8_readDigits 138 = .ok (.iload_n 1, 1) := by decide +kernel
theorem dX8_readDigits_139 : decode cX8_readDigits 139 = .ok (.isub, 1) := by decide +kernel
theorem dX8_readDigits_140 : decode cX8_readDigits 140 = .ok (.invokestatic 32, 3) := by decide +kernel
theorem dX8_readDigits_143 : decode cX8_readDigits 143 = .ok (.invokevirtual 92, 3) := by decide +kernel
theorem dX8_readDigits_146 : decode cX8_readDigits 146 = .ok (.istore 7, 2) := by decide +kernel
theorem dX8_readDigits_148 : decode cX8_readDigits 148 = .ok (.aload_n 0, 1) := by decide +kernel
theorem dX8_readDigits_149 : decode cX8_readDigits 149 = .ok (.getfield 45, 3) := by decide +kernel
theorem dX8_readDigits_152 : decode cX8_readDigits 152 = .ok (.ifCond .eq 4, 3) := by decide +kernel
theorem dX8_readDigits_155 : decode cX8_readDigits 155 = .ok (.return_, 1) := by decide +kernel
theorem dX8_readDigits_156 : decode cX8_readDigits 156 = .ok (.iload_n 2, 1) := by decide +kernel
theorem dX8_readDigits_157 : decode cX8_readDigits 157 = .ok (.ifCond .eq 21, 3) := by decide +kernel
theorem dX8_readDigits_160 : decode cX8_readDigits 160 = .ok (.aload_n 0, 1) := by decide +kernel
theorem dX8_readDigits_161 : decode cX8_readDigits 161 = .ok (.iload_n 1, 1) := by decide +kernel
theorem dX8_readDigits_162 : decode cX8_readDigits 162 = .ok (.iload 7, 2) := by decide +kernel
theorem dX8_readDigits_164 : decode cX8_readDigits 164 = .ok (.iadd, 1) := by decide +kernel
theorem dX8_readDigits_165 : decode cX8_readDigits 165 = .ok (.iload 7, 2) := by decide +kernel
theorem dX8_readDigits_167 : decode cX8_readDigits 167 = .ok (.iload 4, 2) := by decide +kernel
theorem dX8_readDigits_169 : decode cX8_readDigits 169 = .ok (.iload 5, 2) := by decide +kernel
theorem dX8_readDigits_171 : decode cX8_readDigits 171 = .ok (.iload_n 3, 1) := by decide +kernel
theorem dX8_readDigits_172 : decode cX8_readDigits 172 = .ok (.invokevirtual 131, 3) := by decide +kernel
theorem dX8_readDigits_175 : decode cX8_readDigits 175 = .ok (.goto 18, 3) := by decide +kernel
theorem dX8_readDigits_178 : decode cX8_readDigits 178 = .ok (.aload_n 0, 1) := by decide +kernel
theorem dX8_readDigits_179 : decode cX8_readDigits 179 = .ok (.iload_n 1, 1) := by decide +kernel
theorem dX8_readDigits_180 : decode cX8_readDigits 180 = .ok (.iload 7, 2) := by decide +kernel
theorem dX8_readDigits_182 : decode cX8_readDigits 182 = .ok (.iadd, 1) := by decide +kernel
theorem dX8_readDigits_183 : decode cX8_readDigits 183 = .ok (.iload 7, 2) := by decide +kernel
theorem dX8_readDigits_185 : decode cX8_readDigits 185 = .ok (.iload 4, 2) := by decide +kernel
theorem dX8_readDigits_187 : decode cX8_readDigits 187 = .ok (.iload 5, 2) := by decide +kernel
theorem dX8_readDigits_189 : decode cX8_readDigits 189 = .ok (.iload_n 3, 1) := by decide +kernel
theorem dX8_readDigits_190 : decode cX8_readDigits 190 = .ok (.invokevirtual 135, 3) := by decide +kernel
theorem dX8_readDigits_193 : decode cX8_readDigits 193 = .ok (.return_, 1) := by decide +kernel
theorem dX8_layPacked_0 : decode cX8_layPacked 0 = .ok (.aload_n 0, 1) := by decide +kernel
theorem dX8_layPacked_1 : decode cX8_layPacked 1 = .ok (.getfield 28, 3) := by decide +kernel
theorem dX8_layPacked_4 : decode cX8_layPacked 4 = .ok (.iconst 2, 1) := by decide +kernel
theorem dX8_layPacked_5 : decode cX8_layPacked 5 = .ok (.iload_n 1, 1) := by decide +kernel
theorem dX8_layPacked_6 : decode cX8_layPacked 6 = .ok (.imul, 1) := by decide +kernel
theorem dX8_layPacked_7 : decode cX8_layPacked 7 = .ok (.iconst 1, 1) := by decide +kernel
theorem dX8_layPacked_8 : decode cX8_layPacked 8 = .ok (.isub, 1) := by decide +kernel
theorem dX8_layPacked_9 : decode cX8_layPacked 9 = .ok (.iload 5, 2) := by decide +kernel
theorem dX8_layPacked_11 : decode cX8_layPacked 11 = .ok (.invokevirtual 114, 3) := by decide +kernel
theorem dX8_layPacked_14 : decode cX8_layPacked 14 = .ok (.iconst 1, 1) := by decide +kernel
theorem dX8_layPacked_15 : decode cX8_layPacked 15 = .ok (.istore 6, 2) := by decide +kernel
theorem dX8_layPacked_17 : decode cX8_layPacked 17 = .ok (.iload 6, 2) := by decide +kernel
theorem dX8_layPacked_19 : decode cX8_layPacked 19 = .ok (.iconst 2, 1) := by decide +kernel
theorem dX8_layPacked_20 : decode cX8_layPacked 20 = .ok (.iload_n 2, 1) := by decide +kernel
theorem dX8_layPacked_21 : decode cX8_layPacked 21 = .ok (.imul, 1) := by decide +kernel
theorem dX8_layPacked_22 : decode cX8_layPacked 22 = .ok (.if_icmp .ge 33, 3) := by decide +kernel
theorem dX8_layPacked_25 : decode cX8_layPacked 25 = .ok (.aload_n 0, 1) := by decide +kernel
theorem dX8_layPacked_26 : decode cX8_layPacked 26 = .ok (.getfield 28, 3) := by decide +kernel
theorem dX8_layPacked_29 : decode cX8_layPacked 29 = .ok (.iconst 2, 1) := by decide +kernel
theorem dX8_layPacked_30 : decode cX8_layPacked 30 = .ok (.iload_n 1, 1) := by decide +kernel
theorem dX8_layPacked_31 : decode cX8_layPacked 31 = .ok (.imul, 1) := by decide +kernel
theorem dX8_layPacked_32 : decode cX8_layPacked 32 = .ok (.iconst 1, 1) := by decide +kernel
theorem dX8_layPacked_33 : decode cX8_layPacked 33 = .ok (.isub, 1) := by decide +kernel
theorem dX8_layPacked_34 : decode cX8_layPacked 34 = .ok (.iload 6, 2) := by decide +kernel
theorem dX8_layPacked_36 : decode cX8_layPacked 36 = .ok (.isub, 1) := by decide +kernel
theorem dX8_layPacked_37 : decode cX8_layPacked 37 = .ok (.aload_n 0, 1) := by decide +kernel
theorem dX8_layPacked_38 : decode cX8_layPacked 38 = .ok (.iload_n 3, 1) := by decide +kernel
theorem dX8_layPacked_39 : decode cX8_layPacked 39 = .ok (.iload 4, 2) := by decide +kernel
theorem dX8_layPacked_41 : decode cX8_layPacked 41 = .ok (.iload 6, 2) := by decide +kernel
theorem dX8_layPacked_43 : decode cX8_layPacked 43 = .ok (.invokevirtual 138, 3) := by decide +kernel
theorem dX8_layPacked_46 : decode cX8_layPacked 46 = .ok (.invokevirtual 114, 3) := by decide +kernel
theorem dX8_layPacked_49 : decode cX8_layPacked 49 = .ok (.iinc 6 1, 3) := by decide +kernel
theorem dX8_layPacked_52 : decode cX8_layPacked 52 = .ok (.goto (-35), 3) := by decide +kernel
theorem dX8_layPacked_55 : decode cX8_layPacked 55 = .ok (.return_, 1) := by decide +kernel
theorem dX8_layZoned_0 : decode cX8_layZoned 0 = .ok (.iconst 1, 1) := by decide +kernel
theorem dX8_layZoned_1 : decode cX8_layZoned 1 = .ok (.istore 6, 2) := by decide +kernel
theorem dX8_layZoned_3 : decode cX8_layZoned 3 = .ok (.iload 6, 2) := by decide +kernel
theorem dX8_layZoned_5 : decode cX8_layZoned 5 = .ok (.iload_n 2, 1) := by decide +kernel
theorem dX8_layZoned_6 : decode cX8_layZoned 6 = .ok (.if_icmp .gt 59, 3) := by decide +kernel
theorem dX8_layZoned_9 : decode cX8_layZoned 9 = .ok (.aload_n 0, 1) := by decide +kernel
theorem dX8_layZoned_10 : decode cX8_layZoned 10 = .ok (.getfield 28, 3) := by decide +kernel
theorem dX8_layZoned_13 : decode cX8_layZoned 13 = .ok (.iconst 2, 1) := by decide +kernel
theorem dX8_layZoned_14 : decode cX8_layZoned 14 = .ok (.iload_n 1, 1) := by decide +kernel
theorem dX8_layZoned_15 : decode cX8_layZoned 15 = .ok (.iload 6, 2) := by decide +kernel
theorem dX8_layZoned_17 : decode cX8_layZoned 17 = .ok (.isub, 1) := by decide +kernel
theorem dX8_layZoned_18 : decode cX8_layZoned 18 = .ok (.imul, 1) := by decide +kernel
theorem dX8_layZoned_19 : decode cX8_layZoned 19 = .ok (.iload 6, 2) := by decide +kernel
theorem dX8_layZoned_21 : decode cX8_layZoned 21 = .ok (.iconst 1, 1) := by decide +kernel
theorem dX8_layZoned_22 : decode cX8_layZoned 22 = .ok (.if_icmp .ne 8, 3) := by decide +kernel
theorem dX8_layZoned_25 : decode cX8_layZoned 25 = .ok (.iload 5, 2) := by decide +kernel
theorem dX8_layZoned_27 : decode cX8_layZoned 27 = .ok (.goto 5, 3) := by decide +kernel
theorem dX8_layZoned_30 : decode cX8_layZoned 30 = .ok (.bipush 15, 2) := by decide +kernel
theorem dX8_layZoned_32 : decode cX8_layZoned 32 = .ok (.invokevirtual 114, 3) := by decide +kernel
theorem dX8_layZoned_35 : decode cX8_layZoned 35 = .ok (.aload_n 0, 1) := by decide +kernel
theorem dX8_layZoned_36 : decode cX8_layZoned 36 = .ok (.getfield 28, 3) := by decide +kernel
theorem dX8_layZoned_39 : decode cX8_layZoned 39 = .ok (.iconst 2, 1) := by decide +kernel
theorem dX8_layZoned_40 : decode cX8_layZoned 40 = .ok (.iload_n 1, 1) := by decide +kernel
theorem dX8_layZoned_41 : decode cX8_layZoned 41 = .ok (.iload 6, 2) := by decide +kernel
theorem dX8_layZoned_43 : decode cX8_layZoned 43 = .ok (.isub, 1) := by decide +kernel
theorem dX8_layZoned_44 : decode cX8_layZoned 44 = .ok (.imul, 1) := by decide +kernel
theorem dX8_layZoned_45 : decode cX8_layZoned 45 = .ok (.iconst 1, 1) := by decide +kernel
theorem dX8_layZoned_46 : decode cX8_layZoned 46 = .ok (.iadd, 1) := by decide +kernel
theorem dX8_layZoned_47 : decode cX8_layZoned 47 = .ok (.aload_n 0, 1) := by decide +kernel
theorem dX8_layZoned_48 : decode cX8_layZoned 48 = .ok (.iload_n 3, 1) := by decide +kernel
theorem dX8_layZoned_49 : decode cX8_layZoned 49 = .ok (.iload 4, 2) := by decide +kernel
theorem dX8_layZoned_51 : decode cX8_layZoned 51 = .ok (.iload 6, 2) := by decide +kernel
theorem dX8_layZoned_53 : decode cX8_layZoned 53 = .ok (.invokevirtual 138, 3) := by decide +kernel
theorem dX8_layZoned_56 : decode cX8_layZoned 56 = .ok (.invokevirtual 114, 3) := by decide +kernel
theorem dX8_layZoned_59 : decode cX8_layZoned 59 = .ok (.iinc 6 1, 3) := by decide +kernel
theorem dX8_layZoned_62 : decode cX8_layZoned 62 = .ok (.goto (-59), 3) := by decide +kernel
theorem dX8_layZoned_65 : decode cX8_layZoned 65 = .ok (.return_, 1) := by decide +kernel
theorem dX8_digitBack_0 : decode cX8_digitBack 0 = .ok (.iload_n 2, 1) := by decide +kernel
theorem dX8_digitBack_1 : decode cX8_digitBack 1 = .ok (.iload_n 3, 1) := by decide +kernel
theorem dX8_digitBack_2 : decode cX8_digitBack 2 = .ok (.isub, 1) := by decide +kernel
theorem dX8_digitBack_3 : decode cX8_digitBack 3 = .ok (.iload_n 1, 1) := by decide +kernel
theorem dX8_digitBack_4 : decode cX8_digitBack 4 = .ok (.if_icmp .ge 7, 3) := by decide +kernel
theorem dX8_digitBack_7 : decode cX8_digitBack 7 = .ok (.iconst 0, 1) := by decide +kernel
theorem dX8_digitBack_8 : decode cX8_digitBack 8 = .ok (.goto 13, 3) := by decide +kernel
theorem dX8_digitBack_11 : decode cX8_digitBack 11 = .ok (.aload_n 0, 1) := by decide +kernel
theorem dX8_digitBack_12 : decode cX8_digitBack 12 = .ok (.iload_n 2, 1) := by decide +kernel
theorem dX8_digitBack_13 : decode cX8_digitBack 13 = .ok (.iload_n 3, 1) := by decide +kernel
theorem dX8_digitBack_14 : decode cX8_digitBack 14 = .ok (.isub, 1) := by decide +kernel
theorem dX8_digitBack_15 : decode cX8_digitBack 15 = .ok (.invokevirtual 107, 3) := by decide +kernel
theorem dX8_digitBack_18 : decode cX8_digitBack 18 = .ok (.bipush 48, 2) := by decide +kernel
theorem dX8_digitBack_20 : decode cX8_digitBack 20 = .ok (.isub, 1) := by decide +kernel
theorem dX8_digitBack_21 : decode cX8_digitBack 21 = .ok (.ireturn, 1) := by decide +kernel
theorem dX8_readLabel_0 : decode cX8_readLabel 0 = .ok (.aload_n 0, 1) := by decide +kernel
theorem dX8_readLabel_1 : decode cX8_readLabel 1 = .ok (.getfield 54, 3) := by decide +kernel
theorem dX8_readLabel_4 : decode cX8_readLabel 4 = .ok (.iconst 1, 1) := by decide +kernel
theorem dX8_readLabel_5 : decode cX8_readLabel 5 = .ok (.if_icmp .ne 10, 3) := by decide +kernel
theorem dX8_readLabel_8 : decode cX8_readLabel 8 = .ok (.aload_n 0, 1) := by decide +kernel
theorem dX8_readLabel_9 : decode cX8_readLabel 9 = .ok (.getfield 66, 3) := by decide +kernel
theorem dX8_readLabel_12 : decode cX8_readLabel 12 = .ok (.ifnull 5, 3) := by decide +kernel
theorem dX8_readLabel_15 : decode cX8_readLabel 15 = .ok (.lconst 0, 1) := by decide +kernel
theorem dX8_readLabel_16 : decode cX8_readLabel 16 = .ok (.lreturn, 1) := by decide +kernel
theorem dX8_readLabel_17 : decode cX8_readLabel 17 = .ok (.aload_n 0, 1) := by decide +kernel
theorem dX8_readLabel_18 : decode cX8_readLabel 18 = .ok (.invokevirtual 142, 3) := by decide +kernel
theorem dX8_readLabel_21 : decode cX8_readLabel 21 = .ok (.lstore_n 1, 1) := by decide +kernel
theorem dX8_readLabel_22 : decode cX8_readLabel 22 = .ok (.aload_n 0, 1) := by decide +kernel
theorem dX8_readLabel_23 : decode cX8_readLabel 23 = .ok (.getfield 45, 3) := by decide +kernel
theorem dX8_readLabel_26 : decode cX8_readLabel 26 = .ok (.ifCond .ne 17, 3) := by decide +kernel
theorem dX8_readLabel_29 : decode cX8_readLabel 29 = .ok (.aload_n 0, 1) := by decide +kernel
theorem dX8_readLabel_30 : decode cX8_readLabel 30 = .ok (.lload_n 1, 1) := by decide +kernel
theorem dX8_readLabel_31 : decode cX8_readLabel 31 = .ok (.invokevirtual 145, 3) := by decide +kernel
theorem dX8_readLabel_34 : decode cX8_readLabel 34 = .ok (.iconst (-1), 1) := by decide +kernel
theorem dX8_readLabel_35 : decode cX8_readLabel 35 = .ok (.if_icmp .eq 8, 3) := by decide +kernel
theorem dX8_readLabel_38 : decode cX8_readLabel 38 = .ok (.aload_n 0, 1) := by decide +kernel
theorem dX8_readLabel_39 : decode cX8_readLabel 39 = .ok (.iconst 4, 1) := by decide +kernel
theorem dX8_readLabel_40 : decode cX8_readLabel 40 = .ok (.invokevirtual 104, 3) := by decide +kernel
theorem dX8_readLabel_43 : decode cX8_readLabel 43 = .ok (.aload_n 0, 1) := by decide +kernel
theorem dX8_readLabel_44 : decode cX8_readLabel 44 = .ok (.getfield 45, 3) := by decide +kernel
theorem dX8_readLabel_47 : decode cX8_readLabel 47 = .ok (.ifCond .ne 13, 3) := by decide +kernel
theorem dX8_readLabel_50 : decode cX8_readLabel 50 = .ok (.aload_n 0, 1) := by decide +kernel
theorem dX8_readLabel_51 : decode cX8_readLabel 51 = .ok (.invokevirtual 51, 3) := by decide +kernel
theorem dX8_readLabel_54 : decode cX8_readLabel 54 = .ok (.aload_n 0, 1) := by decide +kernel
theorem dX8_readLabel_55 : decode cX8_readLabel 55 = .ok (.bipush 58, 2) := by decide +kernel
theorem dX8_readLabel_57 : decode cX8_readLabel 57 = .ok (.invokevirtual 86, 3) := by decide +kernel
theorem dX8_readLabel_60 : decode cX8_readLabel 60 = .ok (.lload_n 1, 1) := by decide +kernel
theorem dX8_readLabel_61 : decode cX8_readLabel 61 = .ok (.lreturn, 1) := by decide +kernel
theorem dX8_readInstruction_0 : decode cX8_readInstruction 0 = .ok (.aload_n 0, 1) := by decide +kernel
theorem dX8_readInstruction_1 : decode cX8_readInstruction 1 = .ok (.getfield 45, 3) := by decide +kernel
theorem dX8_readInstruction_4 : decode cX8_readInstruction 4 = .ok (.ifCond .eq 4, 3) := by decide +kernel
theorem dX8_readInstruction_7 : decode cX8_readInstruction 7 = .ok (.return_, 1) := by decide +kernel
theorem dX8_readInstruction_8 : decode cX8_readInstruction 8 = .ok (.aload_n 0, 1) := by decide +kernel
theorem dX8_readInstruction_9 : decode cX8_readInstruction 9 = .ok (.getfield 66, 3) := by decide +kernel
theorem dX8_readInstruction_12 : decode cX8_readInstruction 12 = .ok (.ifnull 13, 3) := by decide +kernel
theorem dX8_readInstruction_15 : decode cX8_readInstruction 15 = .ok (.aload_n 0, 1) := by decide +kernel
