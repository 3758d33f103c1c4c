theorem dX5_spread_45 : decode cX5_spread 45 = .ok (.invokestatic 173, 3) := by decide +kernel
theorem dX5_spread_48 : decode cX5_spread 48 = .ok (.aload_n 0, 1) := by decide +kernel
theorem dX5_spread_49 : decode cX5_spread 49 = .ok (.iload_n 1, 1) := by decide +kernel
theorem dX5_spread_50 : decode cX5_spread 50 = .ok (.iload_n 2, 1) := by decide +kernel
theorem dX5_spread_51 : decode cX5_spread 51 = .ok (.invokevirtual 104, 3) := by decide +kernel
theorem dX5_spread_54 : decode cX5_spread 54 = .ok (.iinc 2 1, 3) := by decide +kernel
theorem dX5_spread_57 : decode cX5_spread 57 = .ok (.goto (-39), 3) := by decide +kernel
theorem dX5_spread_60 : decode cX5_spread 60 = .ok (.return_, 1) := by decide +kernel
theorem dX5_mark_0 : decode cX5_mark 0 = .ok (.iconst 0, 1) := by decide +kernel
theorem dX5_mark_1 : decode cX5_mark 1 = .ok (.istore_n 1, 1) := by decide +kernel
theorem dX5_mark_2 : decode cX5_mark 2 = .ok (.aload_n 0, 1) := by decide +kernel
theorem dX5_mark_3 : decode cX5_mark 3 = .ok (.getfield 32, 3) := by decide +kernel
theorem dX5_mark_6 : decode cX5_mark 6 = .ok (.astore_n 2, 1) := by decide +kernel
theorem dX5_mark_7 : decode cX5_mark 7 = .ok (.aload_n 2, 1) := by decide +kernel
theorem dX5_mark_8 : decode cX5_mark 8 = .ok (.arraylength, 1) := by decide +kernel
theorem dX5_mark_9 : decode cX5_mark 9 = .ok (.istore_n 3, 1) := by decide +kernel
theorem dX5_mark_10 : decode cX5_mark 10 = .ok (.iconst 0, 1) := by decide +kernel
theorem dX5_mark_11 : decode cX5_mark 11 = .ok (.istore 4, 2) := by decide +kernel
theorem dX5_mark_13 : decode cX5_mark 13 = .ok (.iload 4, 2) := by decide +kernel
theorem dX5_mark_15 : decode cX5_mark 15 = .ok (.iload_n 3, 1) := by decide +kernel
theorem dX5_mark_16 : decode cX5_mark 16 = .ok (.if_icmp .ge 27, 3) := by decide +kernel
theorem dX5_mark_19 : decode cX5_mark 19 = .ok (.aload_n 2, 1) := by decide +kernel
theorem dX5_mark_20 : decode cX5_mark 20 = .ok (.iload 4, 2) := by decide +kernel
theorem dX5_mark_22 : decode cX5_mark 22 = .ok (.iaload, 1) := by decide +kernel
theorem dX5_mark_23 : decode cX5_mark 23 = .ok (.istore 5, 2) := by decide +kernel
theorem dX5_mark_25 : decode cX5_mark 25 = .ok (.iload_n 1, 1) := by decide +kernel
theorem dX5_mark_26 : decode cX5_mark 26 = .ok (.aload_n 0, 1) := by decide +kernel
theorem dX5_mark_27 : decode cX5_mark 27 = .ok (.getfield 21, 3) := by decide +kernel
theorem dX5_mark_30 : decode cX5_mark 30 = .ok (.iload 5, 2) := by decide +kernel
theorem dX5_mark_32 : decode cX5_mark 32 = .ok (.invokevirtual 136, 3) := by decide +kernel
theorem dX5_mark_35 : decode cX5_mark 35 = .ok (.ior, 1) := by decide +kernel
theorem dX5_mark_36 : decode cX5_mark 36 = .ok (.istore_n 1, 1) := by decide +kernel
theorem dX5_mark_37 : decode cX5_mark 37 = .ok (.iinc 4 1, 3) := by decide +kernel
theorem dX5_mark_40 : decode cX5_mark 40 = .ok (.goto (-27), 3) := by decide +kernel
theorem dX5_mark_43 : decode cX5_mark 43 = .ok (.iload_n 1, 1) := by decide +kernel
theorem dX5_mark_44 : decode cX5_mark 44 = .ok (.ifCond .lt 22, 3) := by decide +kernel
theorem dX5_mark_47 : decode cX5_mark 47 = .ok (.iload_n 1, 1) := by decide +kernel
theorem dX5_mark_48 : decode cX5_mark 48 = .ok (.aload_n 0, 1) := by decide +kernel
theorem dX5_mark_49 : decode cX5_mark 49 = .ok (.getfield 42, 3) := by decide +kernel
theorem dX5_mark_52 : decode cX5_mark 52 = .ok (.arraylength, 1) := by decide +kernel
theorem dX5_mark_53 : decode cX5_mark 53 = .ok (.if_icmp .ge 13, 3) := by decide +kernel
theorem dX5_mark_56 : decode cX5_mark 56 = .ok (.aload_n 0, 1) := by decide +kernel
theorem dX5_mark_57 : decode cX5_mark 57 = .ok (.getfield 42, 3) := by decide +kernel
theorem dX5_mark_60 : decode cX5_mark 60 = .ok (.iload_n 1, 1) := by decide +kernel
theorem dX5_mark_61 : decode cX5_mark 61 = .ok (.dup2, 1) := by decide +kernel
theorem dX5_mark_62 : decode cX5_mark 62 = .ok (.iaload, 1) := by decide +kernel
theorem dX5_mark_63 : decode cX5_mark 63 = .ok (.iconst 1, 1) := by decide +kernel
theorem dX5_mark_64 : decode cX5_mark 64 = .ok (.iadd, 1) := by decide +kernel
theorem dX5_mark_65 : decode cX5_mark 65 = .ok (.iastore, 1) := by decide +kernel
theorem dX5_mark_66 : decode cX5_mark 66 = .ok (.return_, 1) := by decide +kernel
theorem dX5_heeding_0 : decode cX5_heeding 0 = .ok (.iconst 0, 1) := by decide +kernel
theorem dX5_heeding_1 : decode cX5_heeding 1 = .ok (.istore_n 2, 1) := by decide +kernel
theorem dX5_heeding_2 : decode cX5_heeding 2 = .ok (.iconst 0, 1) := by decide +kernel
theorem dX5_heeding_3 : decode cX5_heeding 3 = .ok (.istore_n 3, 1) := by decide +kernel
theorem dX5_heeding_4 : decode cX5_heeding 4 = .ok (.iload_n 3, 1) := by decide +kernel
theorem dX5_heeding_5 : decode cX5_heeding 5 = .ok (.aload_n 0, 1) := by decide +kernel
theorem dX5_heeding_6 : decode cX5_heeding 6 = .ok (.getfield 42, 3) := by decide +kernel
theorem dX5_heeding_9 : decode cX5_heeding 9 = .ok (.arraylength, 1) := by decide +kernel
theorem dX5_heeding_10 : decode cX5_heeding 10 = .ok (.if_icmp .ge 24, 3) := by decide +kernel
theorem dX5_heeding_13 : decode cX5_heeding 13 = .ok (.iload_n 3, 1) := by decide +kernel
theorem dX5_heeding_14 : decode cX5_heeding 14 = .ok (.iload_n 1, 1) := by decide +kernel
theorem dX5_heeding_15 : decode cX5_heeding 15 = .ok (.iand, 1) := by decide +kernel
theorem dX5_heeding_16 : decode cX5_heeding 16 = .ok (.ifCond .ne 12, 3) := by decide +kernel
theorem dX5_heeding_19 : decode cX5_heeding 19 = .ok (.iload_n 2, 1) := by decide +kernel
theorem dX5_heeding_20 : decode cX5_heeding 20 = .ok (.aload_n 0, 1) := by decide +kernel
theorem dX5_heeding_21 : decode cX5_heeding 21 = .ok (.getfield 42, 3) := by decide +kernel
theorem dX5_heeding_24 : decode cX5_heeding 24 = .ok (.iload_n 3, 1) := by decide +kernel
theorem dX5_heeding_25 : decode cX5_heeding 25 = .ok (.iaload, 1) := by decide +kernel
theorem dX5_heeding_26 : decode cX5_heeding 26 = .ok (.iadd, 1) := by decide +kernel
theorem dX5_heeding_27 : decode cX5_heeding 27 = .ok (.istore_n 2, 1) := by decide +kernel
theorem dX5_heeding_28 : decode cX5_heeding 28 = .ok (.iinc 3 1, 3) := by decide +kernel
theorem dX5_heeding_31 : decode cX5_heeding 31 = .ok (.goto (-27), 3) := by decide +kernel
theorem dX5_heeding_34 : decode cX5_heeding 34 = .ok (.iload_n 2, 1) := by decide +kernel
theorem dX5_heeding_35 : decode cX5_heeding 35 = .ok (.ireturn, 1) := by decide +kernel
theorem dX6_init_0 : decode cX6_init 0 = .ok (.aload_n 0, 1) := by decide +kernel
theorem dX6_init_1 : decode cX6_init 1 = .ok (.invokespecial 1, 3) := by decide +kernel
theorem dX6_init_4 : decode cX6_init 4 = .ok (.aload_n 0, 1) := by decide +kernel
theorem dX6_init_5 : decode cX6_init 5 = .ok (.new 7, 3) := by decide +kernel
theorem dX6_init_8 : decode cX6_init 8 = .ok (.dup, 1) := by decide +kernel
theorem dX6_init_9 : decode cX6_init 9 = .ok (.invokespecial 9, 3) := by decide +kernel
theorem dX6_init_12 : decode cX6_init 12 = .ok (.putfield 10, 3) := by decide +kernel
theorem dX6_init_15 : decode cX6_init 15 = .ok (.aload_n 0, 1) := by decide +kernel
theorem dX6_init_16 : decode cX6_init 16 = .ok (.new 16, 3) := by decide +kernel
theorem dX6_init_19 : decode cX6_init 19 = .ok (.dup, 1) := by decide +kernel
theorem dX6_init_20 : decode cX6_init 20 = .ok (.invokespecial 18, 3) := by decide +kernel
theorem dX6_init_23 : decode cX6_init 23 = .ok (.putfield 19, 3) := by decide +kernel
theorem dX6_init_26 : decode cX6_init 26 = .ok (.aload_n 0, 1) := by decide +kernel
theorem dX6_init_27 : decode cX6_init 27 = .ok (.new 16, 3) := by decide +kernel
theorem dX6_init_30 : decode cX6_init 30 = .ok (.dup, 1) := by decide +kernel
theorem dX6_init_31 : decode cX6_init 31 = .ok (.invokespecial 18, 3) := by decide +kernel
theorem dX6_init_34 : decode cX6_init 34 = .ok (.putfield 23, 3) := by decide +kernel
theorem dX6_init_37 : decode cX6_init 37 = .ok (.aload_n 0, 1) := by decide +kernel
theorem dX6_init_38 : decode cX6_init 38 = .ok (.new 16, 3) := by decide +kernel
theorem dX6_init_41 : decode cX6_init 41 = .ok (.dup, 1) := by decide +kernel
theorem dX6_init_42 : decode cX6_init 42 = .ok (.invokespecial 18, 3) := by decide +kernel
theorem dX6_init_45 : decode cX6_init 45 = .ok (.putfield 26, 3) := by decide +kernel
theorem dX6_init_48 : decode cX6_init 48 = .ok (.aload_n 0, 1) := by decide +kernel
theorem dX6_init_49 : decode cX6_init 49 = .ok (.new 16, 3) := by decide +kernel
theorem dX6_init_52 : decode cX6_init 52 = .ok (.dup, 1) := by decide +kernel
theorem dX6_init_53 : decode cX6_init 53 = .ok (.invokespecial 18, 3) := by decide +kernel
theorem dX6_init_56 : decode cX6_init 56 = .ok (.putfield 29, 3) := by decide +kernel
theorem dX6_init_59 : decode cX6_init 59 = .ok (.aload_n 0, 1) := by decide +kernel
theorem dX6_init_60 : decode cX6_init 60 = .ok (.iconst 2, 1) := by decide +kernel
theorem dX6_init_61 : decode cX6_init 61 = .ok (.anewarray 16, 3) := by decide +kernel
theorem dX6_init_64 : decode cX6_init 64 = .ok (.dup, 1) := by decide +kernel
theorem dX6_init_65 : decode cX6_init 65 = .ok (.iconst 0, 1) := by decide +kernel
theorem dX6_init_66 : decode cX6_init 66 = .ok (.new 16, 3) := by decide +kernel
theorem dX6_init_69 : decode cX6_init 69 = .ok (.dup, 1) := by decide +kernel
theorem dX6_init_70 : decode cX6_init 70 = .ok (.invokespecial 18, 3) := by decide +kernel
theorem dX6_init_73 : decode cX6_init 73 = .ok (.aastore, 1) := by decide +kernel
theorem dX6_init_74 : decode cX6_init 74 = .ok (.dup, 1) := by decide +kernel
theorem dX6_init_75 : decode cX6_init 75 = .ok (.iconst 1, 1) := by decide +kernel
theorem dX6_init_76 : decode cX6_init 76 = .ok (.new 16, 3) := by decide +kernel
theorem dX6_init_79 : decode cX6_init 79 = .ok (.dup, 1) := by decide +kernel
theorem dX6_init_80 : decode cX6_init 80 = .ok (.invokespecial 18, 3) := by decide +kernel
theorem dX6_init_83 : decode cX6_init 83 = .ok (.aastore, 1) := by decide +kernel
theorem dX6_init_84 : decode cX6_init 84 = .ok (.putfield 32, 3) := by decide +kernel
theorem dX6_init_87 : decode cX6_init 87 = .ok (.aload_n 0, 1) := by decide +kernel
theorem dX6_init_88 : decode cX6_init 88 = .ok (.new 36, 3) := by decide +kernel
theorem dX6_init_91 : decode cX6_init 91 = .ok (.dup, 1) := by decide +kernel
theorem dX6_init_92 : decode cX6_init 92 = .ok (.invokespecial 38, 3) := by decide +kernel
theorem dX6_init_95 : decode cX6_init 95 = .ok (.putfield 39, 3) := by decide +kernel
theorem dX6_init_98 : decode cX6_init 98 = .ok (.aload_n 0, 1) := by decide +kernel
theorem dX6_init_99 : decode cX6_init 99 = .ok (.new 43, 3) := by decide +kernel
theorem dX6_init_102 : decode cX6_init 102 = .ok (.dup, 1) := by decide +kernel
theorem dX6_init_103 : decode cX6_init 103 = .ok (.invokespecial 45, 3) := by decide +kernel
theorem dX6_init_106 : decode cX6_init 106 = .ok (.putfield 46, 3) := by decide +kernel
theorem dX6_init_109 : decode cX6_init 109 = .ok (.aload_n 0, 1) := by decide +kernel
theorem dX6_init_110 : decode cX6_init 110 = .ok (.getfield 19, 3) := by decide +kernel
theorem dX6_init_113 : decode cX6_init 113 = .ok (.iconst 1, 1) := by decide +kernel
theorem dX6_init_114 : decode cX6_init 114 = .ok (.iconst 2, 1) := by decide +kernel
theorem dX6_init_115 : decode cX6_init 115 = .ok (.invokevirtual 50, 3) := by decide +kernel
theorem dX6_init_118 : decode cX6_init 118 = .ok (.aload_n 0, 1) := by decide +kernel
theorem dX6_init_119 : decode cX6_init 119 = .ok (.aload_n 0, 1) := by decide +kernel
theorem dX6_init_120 : decode cX6_init 120 = .ok (.getfield 19, 3) := by decide +kernel
theorem dX6_init_123 : decode cX6_init 123 = .ok (.invokevirtual 54, 3) := by decide +kernel
theorem dX6_init_126 : decode cX6_init 126 = .ok (.pop, 1) := by decide +kernel
theorem dX6_init_127 : decode cX6_init 127 = .ok (.return_, 1) := by decide +kernel
theorem dX6_write_0 : decode cX6_write 0 = .ok (.iload_n 1, 1) := by decide +kernel
theorem dX6_write_1 : decode cX6_write 1 = .ok (.ifCond .lt 10, 3) := by decide +kernel
theorem dX6_write_4 : decode cX6_write 4 = .ok (.iload_n 1, 1) := by decide +kernel
theorem dX6_write_5 : decode cX6_write 5 = .ok (.sipush 255, 3) := by decide +kernel
theorem dX6_write_8 : decode cX6_write 8 = .ok (.if_icmp .le 6, 3) := by decide +kernel
theorem dX6_write_11 : decode cX6_write 11 = .ok (.bipush (-2), 2) := by decide +kernel
theorem dX6_write_13 : decode cX6_write 13 = .ok (.ireturn, 1) := by decide +kernel
theorem dX6_write_14 : decode cX6_write 14 = .ok (.aload_n 0, 1) := by decide +kernel
theorem dX6_write_15 : decode cX6_write 15 = .ok (.getfield 10, 3) := by decide +kernel
theorem dX6_write_18 : decode cX6_write 18 = .ok (.iload_n 1, 1) := by decide +kernel
theorem dX6_write_19 : decode cX6_write 19 = .ok (.invokevirtual 58, 3) := by decide +kernel
theorem dX6_write_22 : decode cX6_write 22 = .ok (.ifCond .eq 13, 3) := by decide +kernel
theorem dX6_write_25 : decode cX6_write 25 = .ok (.aload_n 0, 1) := by decide +kernel
theorem dX6_write_26 : decode cX6_write 26 = .ok (.getfield 10, 3) := by decide +kernel
theorem dX6_write_29 : decode cX6_write 29 = .ok (.getfield 62, 3) := by decide +kernel
theorem dX6_write_32 : decode cX6_write 32 = .ok (.goto 5, 3) := by decide +kernel
theorem dX6_write_35 : decode cX6_write 35 = .ok (.bipush (-4), 2) := by decide +kernel
theorem dX6_write_37 : decode cX6_write 37 = .ok (.ireturn, 1) := by decide +kernel
theorem dX6_wipe_0 : decode cX6_wipe 0 = .ok (.aload_n 0, 1) := by decide +kernel
theorem dX6_wipe_1 : decode cX6_wipe 1 = .ok (.getfield 10, 3) := by decide +kernel
theorem dX6_wipe_4 : decode cX6_wipe 4 = .ok (.getfield 62, 3) := by decide +kernel
theorem dX6_wipe_7 : decode cX6_wipe 7 = .ok (.istore_n 1, 1) := by decide +kernel
theorem dX6_wipe_8 : decode cX6_wipe 8 = .ok (.aload_n 0, 1) := by decide +kernel
theorem dX6_wipe_9 : decode cX6_wipe 9 = .ok (.getfield 10, 3) := by decide +kernel
theorem dX6_wipe_12 : decode cX6_wipe 12 = .ok (.iconst 0, 1) := by decide +kernel
theorem dX6_wipe_13 : decode cX6_wipe 13 = .ok (.putfield 62, 3) := by decide +kernel
theorem dX6_wipe_16 : decode cX6_wipe 16 = .ok (.iload_n 1, 1) := by decide +kernel
theorem dX6_wipe_17 : decode cX6_wipe 17 = .ok (.ireturn, 1) := by decide +kernel
theorem dX6_fault_0 : decode cX6_fault 0 = .ok (.aload_n 0, 1) := by decide +kernel
theorem dX6_fault_1 : decode cX6_fault 1 = .ok (.getfield 10, 3) := by decide +kernel
theorem dX6_fault_4 : decode cX6_fault 4 = .ok (.aload_n 0, 1) := by decide +kernel
theorem dX6_fault_5 : decode cX6_fault 5 = .ok (.getfield 23, 3) := by decide +kernel
theorem dX6_fault_8 : decode cX6_fault 8 = .ok (.invokevirtual 66, 3) := by decide +kernel
theorem dX6_fault_11 : decode cX6_fault 11 = .ok (.ireturn, 1) := by decide +kernel
theorem dX6_task_0 : decode cX6_task 0 = .ok (.aload_n 0, 1) := by decide +kernel
theorem dX6_task_1 : decode cX6_task 1 = .ok (.getfield 10, 3) := by decide +kernel
theorem dX6_task_4 : decode cX6_task 4 = .ok (.aload_n 0, 1) := by decide +kernel
theorem dX6_task_5 : decode cX6_task 5 = .ok (.getfield 23, 3) := by decide +kernel
theorem dX6_task_8 : decode cX6_task 8 = .ok (.invokevirtual 66, 3) := by decide +kernel
theorem dX6_task_11 : decode cX6_task 11 = .ok (.bipush (-9), 2) := by decide +kernel
theorem dX6_task_13 : decode cX6_task 13 = .ok (.if_icmp .eq 6, 3) := by decide +kernel
theorem dX6_task_16 : decode cX6_task 16 = .ok (.bipush (-3), 2) := by decide +kernel
theorem dX6_task_18 : decode cX6_task 18 = .ok (.ireturn, 1) := by decide +kernel
theorem dX6_task_19 : decode cX6_task 19 = .ok (.aload_n 0, 1) := by decide +kernel
theorem dX6_task_20 : decode cX6_task 20 = .ok (.getfield 19, 3) := by decide +kernel
theorem dX6_task_23 : decode cX6_task 23 = .ok (.aload_n 0, 1) := by decide +kernel
theorem dX6_task_24 : decode cX6_task 24 = .ok (.getfield 23, 3) := by decide +kernel
theorem dX6_task_27 : decode cX6_task 27 = .ok (.invokevirtual 69, 3) := by decide +kernel
theorem dX6_task_30 : decode cX6_task 30 = .ok (.aload_n 0, 1) := by decide +kernel
theorem dX6_task_31 : decode cX6_task 31 = .ok (.getfield 39, 3) := by decide +kernel
theorem dX6_task_34 : decode cX6_task 34 = .ok (.invokevirtual 73, 3) := by decide +kernel
theorem dX6_task_37 : decode cX6_task 37 = .ok (.iconst 0, 1) := by decide +kernel
theorem dX6_task_38 : decode cX6_task 38 = .ok (.istore_n 1, 1) := by decide +kernel
theorem dX6_task_39 : decode cX6_task 39 = .ok (.iload_n 1, 1) := by decide +kernel
theorem dX6_task_40 : decode cX6_task 40 = .ok (.aload_n 0, 1) := by decide +kernel
theorem dX6_task_41 : decode cX6_task 41 = .ok (.getfield 32, 3) := by decide +kernel
theorem dX6_task_44 : decode cX6_task 44 = .ok (.arraylength, 1) := by decide +kernel
theorem dX6_task_45 : decode cX6_task 45 = .ok (.if_icmp .ge 17, 3) := by decide +kernel
theorem dX6_task_48 : decode cX6_task 48 = .ok (.aload_n 0, 1) := by decide +kernel
theorem dX6_task_49 : decode cX6_task 49 = .ok (.iload_n 1, 1) := by decide +kernel
theorem dX6_task_50 : decode cX6_task 50 = .ok (.invokevirtual 76, 3) := by decide +kernel
theorem dX6_task_53 : decode cX6_task 53 = .ok (.invokestatic 80, 3) := by decide +kernel
theorem dX6_task_56 : decode cX6_task 56 = .ok (.iinc 1 1, 3) := by decide +kernel
theorem dX6_task_59 : decode cX6_task 59 = .ok (.goto (-20), 3) := by decide +kernel
theorem dX6_task_62 : decode cX6_task 62 = .ok (.aload_n 0, 1) := by decide +kernel
theorem dX6_task_63 : decode cX6_task 63 = .ok (.aload_n 0, 1) := by decide +kernel
theorem dX6_task_64 : decode cX6_task 64 = .ok (.getfield 19, 3) := by decide +kernel
theorem dX6_task_67 : decode cX6_task 67 = .ok (.invokevirtual 54, 3) := by decide +kernel
theorem dX6_task_70 : decode cX6_task 70 = .ok (.ireturn, 1) := by decide +kernel
theorem dX6_equation_0 : decode cX6_equation 0 = .ok (.aload_n 0, 1) := by decide +kernel
theorem dX6_equation_1 : decode cX6_equation 1 = .ok (.getfield 19, 3) := by decide +kernel
theorem dX6_equation_4 : decode cX6_equation 4 = .ok (.iload_n 1, 1) := by decide +kernel
theorem dX6_equation_5 : decode cX6_equation 5 = .ok (.invokevirtual 83, 3) := by decide +kernel
theorem dX6_equation_8 : decode cX6_equation 8 = .ok (.ifCond .ne 5, 3) := by decide +kernel
theorem dX6_equation_11 : decode cX6_equation 11 = .ok (.iconst (-1), 1) := by decide +kernel
theorem dX6_equation_12 : decode cX6_equation 12 = .ok (.ireturn, 1) := by decide +kernel
theorem dX6_equation_13 : decode cX6_equation 13 = .ok (.iload_n 2, 1) := by decide +kernel
theorem dX6_equation_14 : decode cX6_equation 14 = .ok (.tableswitch 87 0 5 #[38, 38, 38, 51, 61, 78], 38) := by decide +kernel
theorem dX6_equation_52 : decode cX6_equation 52 = .ok (.aload_n 0, 1) := by decide +kernel
theorem dX6_equation_53 : decode cX6_equation 53 = .ok (.getfield 19, 3) := by decide +kernel
theorem dX6_equation_56 : decode cX6_equation 56 = .ok (.iload_n 1, 1) := by decide +kernel
theorem dX6_equation_57 : decode cX6_equation 57 = .ok (.iload_n 2, 1) := by decide +kernel
theorem dX6_equation_58 : decode cX6_equation 58 = .ok (.invokevirtual 86, 3) := by decide +kernel
theorem dX6_equation_61 : decode cX6_equation 61 = .ok (.bipush 10, 2) := by decide +kernel
theorem dX6_equation_63 : decode cX6_equation 63 = .ok (.iadd, 1) := by decide +kernel
theorem dX6_equation_64 : decode cX6_equation 64 = .ok (.ireturn, 1) := by decide +kernel
theorem dX6_equation_65 : decode cX6_equation 65 = .ok (.aload_n 0, 1) := by decide +kernel
theorem dX6_equation_66 : decode cX6_equation 66 = .ok (.getfield 19, 3) := by decide +kernel
theorem dX6_equation_69 : decode cX6_equation 69 = .ok (.iload_n 1, 1) := by decide +kernel
theorem dX6_equation_70 : decode cX6_equation 70 = .ok (.iconst 3, 1) := by decide +kernel
theorem dX6_equation_71 : decode cX6_equation 71 = .ok (.invokevirtual 86, 3) := by decide +kernel
theorem dX6_equation_74 : decode cX6_equation 74 = .ok (.ireturn, 1) := by decide +kernel
theorem dX6_equation_75 : decode cX6_equation 75 = .ok (.aload_n 0, 1) := by decide +kernel
theorem dX6_equation_76 : decode cX6_equation 76 = .ok (.getfield 19, 3) := by decide +kernel
theorem dX6_equation_79 : decode cX6_equation 79 = .ok (.iload_n 1, 1) := by decide +kernel
theorem dX6_equation_80 : decode cX6_equation 80 = .ok (.invokevirtual 90, 3) := by decide +kernel
theorem dX6_equation_83 : decode cX6_equation 83 = .ok (.ifCond .eq 7, 3) := by decide +kernel
theorem dX6_equation_86 : decode cX6_equation 86 = .ok (.iconst 1, 1) := by decide +kernel
theorem dX6_equation_87 : decode cX6_equation 87 = .ok (.goto 4, 3) := by decide +kernel
theorem dX6_equation_90 : decode cX6_equation 90 = .ok (.iconst 0, 1) := by decide +kernel
theorem dX6_equation_91 : decode cX6_equation 91 = .ok (.ireturn, 1) := by decide +kernel
theorem dX6_equation_92 : decode cX6_equation 92 = .ok (.aload_n 0, 1) := by decide +kernel
theorem dX6_equation_93 : decode cX6_equation 93 = .ok (.getfield 19, 3) := by decide +kernel
theorem dX6_equation_96 : decode cX6_equation 96 = .ok (.iload_n 1, 1) := by decide +kernel
theorem dX6_equation_97 : decode cX6_equation 97 = .ok (.invokevirtual 93, 3) := by decide +kernel
theorem dX6_equation_100 : decode cX6_equation 100 = .ok (.ireturn, 1) := by decide +kernel
theorem dX6_equation_101 : decode cX6_equation 101 = .ok (.bipush (-2), 2) := by decide +kernel
theorem dX6_equation_103 : decode cX6_equation 103 = .ok (.ireturn, 1) := by decide +kernel
theorem dX6_solution_0 : decode cX6_solution 0 = .ok (.aload_n 0, 1) := by decide +kernel
theorem dX6_solution_1 : decode cX6_solution 1 = .ok (.getfield 19, 3) := by decide +kernel
theorem dX6_solution_4 : decode cX6_solution 4 = .ok (.iload_n 1, 1) := by decide +kernel
theorem dX6_solution_5 : decode cX6_solution 5 = .ok (.invokevirtual 83, 3) := by decide +kernel
theorem dX6_solution_8 : decode cX6_solution 8 = .ok (.ifCond .ne 5, 3) := by decide +kernel
theorem dX6_solution_11 : decode cX6_solution 11 = .ok (.iconst (-1), 1) := by decide +kernel
theorem dX6_solution_12 : decode cX6_solution 12 = .ok (.ireturn, 1) := by decide +kernel
theorem dX6_solution_13 : decode cX6_solution 13 = .ok (.aload_n 0, 1) := by decide +kernel
theorem dX6_solution_14 : decode cX6_solution 14 = .ok (.getfield 19, 3) := by decide +kernel
theorem dX6_solution_17 : decode cX6_solution 17 = .ok (.iload_n 1, 1) := by decide +kernel
theorem dX6_solution_18 : decode cX6_solution 18 = .ok (.iload_n 2, 1) := by decide +kernel
theorem dX6_solution_19 : decode cX6_solution 19 = .ok (.invokevirtual 97, 3) := by decide +kernel
theorem dX6_solution_22 : decode cX6_solution 22 = .ok (.ireturn, 1) := by decide +kernel
theorem dX6_number_0 : decode cX6_number 0 = .ok (.aload_n 0, 1) := by decide +kernel
theorem dX6_number_1 : decode cX6_number 1 = .ok (.getfield 19, 3) := by decide +kernel
theorem dX6_number_4 : decode cX6_number 4 = .ok (.iload_n 1, 1) := by decide +kernel
theorem dX6_number_5 : decode cX6_number 5 = .ok (.invokevirtual 100, 3) := by decide +kernel
theorem dX6_number_8 : decode cX6_number 8 = .ok (.ifCond .ne 5, 3) := by decide +kernel
theorem dX6_number_11 : decode cX6_number 11 = .ok (.iconst (-1), 1) := by decide +kernel
theorem dX6_number_12 : decode cX6_number 12 = .ok (.ireturn, 1) := by decide +kernel
theorem dX6_number_13 : decode cX6_number 13 = .ok (.iload_n 2, 1) := by decide +kernel
theorem dX6_number_14 : decode cX6_number 14 = .ok (.tableswitch 130 0 3 #[30, 54, 80, 101], 30) := by decide +kernel
theorem dX6_number_44 : decode cX6_number 44 = .ok (.aload_n 0, 1) := by decide +kernel
theorem dX6_number_45 : decode cX6_number 45 = .ok (.getfield 19, 3) := by decide +kernel
theorem dX6_number_48 : decode cX6_number 48 = .ok (.getfield 103, 3) := by decide +kernel
theorem dX6_number_51 : decode cX6_number 51 = .ok (.ifCond .eq 14, 3) := by decide +kernel
theorem dX6_number_54 : decode cX6_number 54 = .ok (.aload_n 0, 1) := by decide +kernel
theorem dX6_number_55 : decode cX6_number 55 = .ok (.getfield 19, 3) := by decide +kernel
theorem dX6_number_58 : decode cX6_number 58 = .ok (.iload_n 1, 1) := by decide +kernel
theorem dX6_number_59 : decode cX6_number 59 = .ok (.invokevirtual 107, 3) := by decide +kernel
theorem dX6_number_62 : decode cX6_number 62 = .ok (.goto 5, 3) := by decide +kernel
theorem dX6_number_65 : decode cX6_number 65 = .ok (.bipush (-9), 2) := by decide +kernel
theorem dX6_number_67 : decode cX6_number 67 = .ok (.ireturn, 1) := by decide +kernel
theorem dX6_number_68 : decode cX6_number 68 = .ok (.aload_n 0, 1) := by decide +kernel
theorem dX6_number_69 : decode cX6_number 69 = .ok (.getfield 19, 3) := by decide +kernel
theorem dX6_number_72 : decode cX6_number 72 = .ok (.iload_n 1, 1) := by decide +kernel
theorem dX6_number_73 : decode cX6_number 73 = .ok (.invokevirtual 110, 3) := by decide +kernel
theorem dX6_number_76 : decode cX6_number 76 = .ok (.iconst (-1), 1) := by decide +kernel
theorem dX6_number_77 : decode cX6_number 77 = .ok (.if_icmp .ne 8, 3) := by decide +kernel
theorem dX6_number_80 : decode cX6_number 80 = .ok (.bipush (-9), 2) := by decide +kernel
theorem dX6_number_82 : decode cX6_number 82 = .ok (.goto 11, 3) := by decide +kernel
theorem dX6_number_85 : decode cX6_number 85 = .ok (.aload_n 0, 1) := by decide +kernel
theorem dX6_number_86 : decode cX6_number 86 = .ok (.getfield 19, 3) := by decide +kernel
theorem dX6_number_89 : decode cX6_number 89 = .ok (.iload_n 1, 1) := by decide +kernel
theorem dX6_number_90 : decode cX6_number 90 = .ok (.invokevirtual 110, 3) := by decide +kernel
theorem dX6_number_93 : decode cX6_number 93 = .ok (.ireturn, 1) := by decide +kernel
theorem dX6_number_94 : decode cX6_number 94 = .ok (.aload_n 0, 1) := by decide +kernel
theorem dX6_number_95 : decode cX6_number 95 = .ok (.getfield 46, 3) := by decide +kernel
theorem dX6_number_98 : decode cX6_number 98 = .ok (.aload_n 0, 1) := by decide +kernel
theorem dX6_number_99 : decode cX6_number 99 = .ok (.getfield 19, 3) := by decide +kernel
theorem dX6_number_102 : decode cX6_number 102 = .ok (.iconst 0, 1) := by decide +kernel
theorem dX6_number_103 : decode cX6_number 103 = .ok (.invokevirtual 113, 3) := by decide +kernel
theorem dX6_number_106 : decode cX6_number 106 = .ok (.aload_n 0, 1) := by decide +kernel
theorem dX6_number_107 : decode cX6_number 107 = .ok (.getfield 46, 3) := by decide +kernel
theorem dX6_number_110 : decode cX6_number 110 = .ok (.iload_n 1, 1) := by decide +kernel
theorem dX6_number_111 : decode cX6_number 111 = .ok (.invokevirtual 117, 3) := by decide +kernel
theorem dX6_number_114 : decode cX6_number 114 = .ok (.ireturn, 1) := by decide +kernel
theorem dX6_number_115 : decode cX6_number 115 = .ok (.aload_n 0, 1) := by decide +kernel
theorem dX6_number_116 : decode cX6_number 116 = .ok (.getfield 46, 3) := by decide +kernel
theorem dX6_number_119 : decode cX6_number 119 = .ok (.aload_n 0, 1) := by decide +kernel
theorem dX6_number_120 : decode cX6_number 120 = .ok (.getfield 19, 3) := by decide +kernel
theorem dX6_number_123 : decode cX6_number 123 = .ok (.iconst 0, 1) := by decide +kernel
theorem dX6_number_124 : decode cX6_number 124 = .ok (.invokevirtual 113, 3) := by decide +kernel
theorem dX6_number_127 : decode cX6_number 127 = .ok (.aload_n 0, 1) := by decide +kernel
theorem dX6_number_128 : decode cX6_number 128 = .ok (.getfield 46, 3) := by decide +kernel
theorem dX6_number_131 : decode cX6_number 131 = .ok (.iload_n 1, 1) := by decide +kernel
theorem dX6_number_132 : decode cX6_number 132 = .ok (.invokevirtual 120, 3) := by decide +kernel
theorem dX6_number_135 : decode cX6_number 135 = .ok (.ifCond .eq 7, 3) := by decide +kernel
theorem dX6_number_138 : decode cX6_number 138 = .ok (.iconst 1, 1) := by decide +kernel
theorem dX6_number_139 : decode cX6_number 139 = .ok (.goto 4, 3) := by decide +kernel
theorem dX6_number_142 : decode cX6_number 142 = .ok (.iconst 0, 1) := by decide +kernel
theorem dX6_number_143 : decode cX6_number 143 = .ok (.ireturn, 1) := by decide +kernel
theorem dX6_number_144 : decode cX6_number 144 = .ok (.bipush (-2), 2) := by decide +kernel
theorem dX6_number_146 : decode cX6_number 146 = .ok (.ireturn, 1) := by decide +kernel
theorem dX6_go_0 : decode cX6_go 0 = .ok (.aload_n 0, 1) := by decide +kernel
theorem dX6_go_1 : decode cX6_go 1 = .ok (.getfield 46, 3) := by decide +kernel
theorem dX6_go_4 : decode cX6_go 4 = .ok (.aload_n 0, 1) := by decide +kernel
theorem dX6_go_5 : decode cX6_go 5 = .ok (.getfield 19, 3) := by decide +kernel
theorem dX6_go_8 : decode cX6_go 8 = .ok (.iload_n 1, 1) := by decide +kernel
theorem dX6_go_9 : decode cX6_go 9 = .ok (.invokevirtual 113, 3) := by decide +kernel
theorem dX6_go_12 : decode cX6_go 12 = .ok (.iload_n 1, 1) := by decide +kernel
theorem dX6_go_13 : decode cX6_go 13 = .ok (.ifCond .lt 14, 3) := by decide +kernel
theorem dX6_go_16 : decode cX6_go 16 = .ok (.iload_n 1, 1) := by decide +kernel
theorem dX6_go_17 : decode cX6_go 17 = .ok (.aload_n 0, 1) := by decide +kernel
theorem dX6_go_18 : decode cX6_go 18 = .ok (.getfield 46, 3) := by decide +kernel
theorem dX6_go_21 : decode cX6_go 21 = .ok (.getfield 123, 3) := by decide +kernel
theorem dX6_go_24 : decode cX6_go 24 = .ok (.if_icmp .lt 5, 3) := by decide +kernel
theorem dX6_go_27 : decode cX6_go 27 = .ok (.iconst (-1), 1) := by decide +kernel
theorem dX6_go_28 : decode cX6_go 28 = .ok (.ireturn, 1) := by decide +kernel
theorem dX6_go_29 : decode cX6_go 29 = .ok (.aload_n 0, 1) := by decide +kernel
theorem dX6_go_30 : decode cX6_go 30 = .ok (.getfield 39, 3) := by decide +kernel
theorem dX6_go_33 : decode cX6_go 33 = .ok (.aload_n 0, 1) := by decide +kernel
theorem dX6_go_34 : decode cX6_go 34 = .ok (.getfield 19, 3) := by decide +kernel
theorem dX6_go_37 : decode cX6_go 37 = .ok (.invokevirtual 126, 3) := by decide +kernel
theorem dX6_go_40 : decode cX6_go 40 = .ok (.aload_n 0, 1) := by decide +kernel
theorem dX6_go_41 : decode cX6_go 41 = .ok (.getfield 19, 3) := by decide +kernel
theorem dX6_go_44 : decode cX6_go 44 = .ok (.aload_n 0, 1) := by decide +kernel
theorem dX6_go_45 : decode cX6_go 45 = .ok (.getfield 46, 3) := by decide +kernel
theorem dX6_go_48 : decode cX6_go 48 = .ok (.getfield 129, 3) := by decide +kernel
theorem dX6_go_51 : decode cX6_go 51 = .ok (.invokevirtual 133, 3) := by decide +kernel
theorem dX6_go_54 : decode cX6_go 54 = .ok (.istore_n 2, 1) := by decide +kernel
theorem dX6_go_55 : decode cX6_go 55 = .ok (.aload_n 0, 1) := by decide +kernel
theorem dX6_go_56 : decode cX6_go 56 = .ok (.getfield 19, 3) := by decide +kernel
theorem dX6_go_59 : decode cX6_go 59 = .ok (.aload_n 0, 1) := by decide +kernel
theorem dX6_go_60 : decode cX6_go 60 = .ok (.getfield 46, 3) := by decide +kernel
theorem dX6_go_63 : decode cX6_go 63 = .ok (.getfield 129, 3) := by decide +kernel
theorem dX6_go_66 : decode cX6_go 66 = .ok (.iconst 1, 1) := by decide +kernel
theorem dX6_go_67 : decode cX6_go 67 = .ok (.invokevirtual 137, 3) := by decide +kernel
theorem dX6_go_70 : decode cX6_go 70 = .ok (.aload_n 0, 1) := by decide +kernel
theorem dX6_go_71 : decode cX6_go 71 = .ok (.getfield 19, 3) := by decide +kernel
theorem dX6_go_74 : decode cX6_go 74 = .ok (.getfield 141, 3) := by decide +kernel
theorem dX6_go_77 : decode cX6_go 77 = .ok (.iload_n 2, 1) := by decide +kernel
theorem dX6_go_78 : decode cX6_go 78 = .ok (.isub, 1) := by decide +kernel
theorem dX6_go_79 : decode cX6_go 79 = .ok (.ireturn, 1) := by decide +kernel
theorem dX6_paint_0 : decode cX6_paint 0 = .ok (.aload_n 0, 1) := by decide +kernel
theorem dX6_paint_1 : decode cX6_paint 1 = .ok (.aload_n 0, 1) := by decide +kernel
theorem dX6_paint_2 : decode cX6_paint 2 = .ok (.getfield 19, 3) := by decide +kernel
theorem dX6_paint_5 : decode cX6_paint 5 = .ok (.iload_n 1, 1) := by decide +kernel
theorem dX6_paint_6 : decode cX6_paint 6 = .ok (.iload_n 2, 1) := by decide +kernel
theorem dX6_paint_7 : decode cX6_paint 7 = .ok (.invokevirtual 144, 3) := by decide +kernel
theorem dX6_paint_10 : decode cX6_paint 10 = .ok (.istore_n 3, 1) := by decide +kernel
theorem dX6_paint_11 : decode cX6_paint 11 = .ok (.iload_n 3, 1) := by decide +kernel
theorem dX6_paint_12 : decode cX6_paint 12 = .ok (.ifCond .eq 5, 3) := by decide +kernel
theorem dX6_paint_15 : decode cX6_paint 15 = .ok (.iload_n 3, 1) := by decide +kernel
theorem dX6_paint_16 : decode cX6_paint 16 = .ok (.ireturn, 1) := by decide +kernel
theorem dX6_paint_17 : decode cX6_paint 17 = .ok (.aload_n 0, 1) := by decide +kernel
theorem dX6_paint_18 : decode cX6_paint 18 = .ok (.getfield 39, 3) := by decide +kernel
theorem dX6_paint_21 : decode cX6_paint 21 = .ok (.aload_n 0, 1) := by decide +kernel
theorem dX6_paint_22 : decode cX6_paint 22 = .ok (.getfield 19, 3) := by decide +kernel
theorem dX6_paint_25 : decode cX6_paint 25 = .ok (.invokevirtual 126, 3) := by decide +kernel
theorem dX6_paint_28 : decode cX6_paint 28 = .ok (.aload_n 0, 1) := by decide +kernel
theorem dX6_paint_29 : decode cX6_paint 29 = .ok (.getfield 19, 3) := by decide +kernel
theorem dX6_paint_32 : decode cX6_paint 32 = .ok (.iload_n 1, 1) := by decide +kernel
theorem dX6_paint_33 : decode cX6_paint 33 = .ok (.iload_n 2, 1) := by decide +kernel
theorem dX6_paint_34 : decode cX6_paint 34 = .ok (.invokevirtual 148, 3) := by decide +kernel
theorem dX6_paint_37 : decode cX6_paint 37 = .ok (.aload_n 0, 1) := by decide +kernel
theorem dX6_paint_38 : decode cX6_paint 38 = .ok (.getfield 46, 3) := by decide +kernel
theorem dX6_paint_41 : decode cX6_paint 41 = .ok (.aload_n 0, 1) := by decide +kernel
theorem dX6_paint_42 : decode cX6_paint 42 = .ok (.getfield 19, 3) := by decide +kernel
theorem dX6_paint_45 : decode cX6_paint 45 = .ok (.iconst 0, 1) := by decide +kernel
theorem dX6_paint_46 : decode cX6_paint 46 = .ok (.invokevirtual 113, 3) := by decide +kernel
theorem dX6_paint_49 : decode cX6_paint 49 = .ok (.aload_n 0, 1) := by decide +kernel
theorem dX6_paint_50 : decode cX6_paint 50 = .ok (.getfield 46, 3) := by decide +kernel
theorem dX6_paint_53 : decode cX6_paint 53 = .ok (.getfield 151, 3) := by decide +kernel
theorem dX6_paint_56 : decode cX6_paint 56 = .ok (.ireturn, 1) := by decide +kernel
theorem dX6_reach_0 : decode cX6_reach 0 = .ok (.iload_n 1, 1) := by decide +kernel
theorem dX6_reach_1 : decode cX6_reach 1 = .ok (.invokestatic 154, 3) := by decide +kernel
theorem dX6_reach_4 : decode cX6_reach 4 = .ok (.ifCond .ne 6, 3) := by decide +kernel
theorem dX6_reach_7 : decode cX6_reach 7 = .ok (.bipush (-2), 2) := by decide +kernel
theorem dX6_reach_9 : decode cX6_reach 9 = .ok (.ireturn, 1) := by decide +kernel
theorem dX6_reach_10 : decode cX6_reach 10 = .ok (.aload_n 0, 1) := by decide +kernel
theorem dX6_reach_11 : decode cX6_reach 11 = .ok (.getfield 39, 3) := by decide +kernel
theorem dX6_reach_14 : decode cX6_reach 14 = .ok (.aload_n 0, 1) := by decide +kernel
theorem dX6_reach_15 : decode cX6_reach 15 = .ok (.getfield 19, 3) := by decide +kernel
theorem dX6_reach_18 : decode cX6_reach 18 = .ok (.invokevirtual 126, 3) := by decide +kernel
theorem dX6_reach_21 : decode cX6_reach 21 = .ok (.aload_n 0, 1) := by decide +kernel
theorem dX6_reach_22 : decode cX6_reach 22 = .ok (.getfield 19, 3) := by decide +kernel
theorem dX6_reach_25 : decode cX6_reach 25 = .ok (.iload_n 1, 1) := by decide +kernel
theorem dX6_reach_26 : decode cX6_reach 26 = .ok (.invokevirtual 157, 3) := by decide +kernel
theorem dX6_reach_29 : decode cX6_reach 29 = .ok (.aload_n 0, 1) := by decide +kernel
theorem dX6_reach_30 : decode cX6_reach 30 = .ok (.aload_n 0, 1) := by decide +kernel
theorem dX6_reach_31 : decode cX6_reach 31 = .ok (.getfield 19, 3) := by decide +kernel
theorem dX6_reach_34 : decode cX6_reach 34 = .ok (.invokevirtual 54, 3) := by decide +kernel
theorem dX6_reach_37 : decode cX6_reach 37 = .ok (.ireturn, 1) := by decide +kernel
theorem dX6_add_0 : decode cX6_add 0 = .ok (.iload_n 1, 1) := by decide +kernel
theorem dX6_add_1 : decode cX6_add 1 = .ok (.invokestatic 161, 3) := by decide +kernel
theorem dX6_add_4 : decode cX6_add 4 = .ok (.ifCond .eq 28, 3) := by decide +kernel
theorem dX6_add_7 : decode cX6_add 7 = .ok (.iload_n 2, 1) := by decide +kernel
theorem dX6_add_8 : decode cX6_add 8 = .ok (.invokestatic 161, 3) := by decide +kernel
theorem dX6_add_11 : decode cX6_add 11 = .ok (.ifCond .eq 21, 3) := by decide +kernel
theorem dX6_add_14 : decode cX6_add 14 = .ok (.iload_n 3, 1) := by decide +kernel
theorem dX6_add_15 : decode cX6_add 15 = .ok (.invokestatic 161, 3) := by decide +kernel
theorem dX6_add_18 : decode cX6_add 18 = .ok (.ifCond .eq 14, 3) := by decide +kernel
theorem dX6_add_21 : decode cX6_add 21 = .ok (.iload 4, 2) := by decide +kernel
theorem dX6_add_23 : decode cX6_add 23 = .ok (.ifCond .lt 9, 3) := by decide +kernel
theorem dX6_add_26 : decode cX6_add 26 = .ok (.iload 4, 2) := by decide +kernel
theorem dX6_add_28 : decode cX6_add 28 = .ok (.iconst 1, 1) := by decide +kernel
theorem dX6_add_29 : decode cX6_add 29 = .ok (.if_icmp .le 6, 3) := by decide +kernel
theorem dX6_add_32 : decode cX6_add 32 = .ok (.bipush (-2), 2) := by decide +kernel
theorem dX6_add_34 : decode cX6_add 34 = .ok (.ireturn, 1) := by decide +kernel
theorem dX6_add_35 : decode cX6_add 35 = .ok (.aload_n 0, 1) := by decide +kernel
theorem dX6_add_36 : decode cX6_add 36 = .ok (.getfield 19, 3) := by decide +kernel
theorem dX6_add_39 : decode cX6_add 39 = .ok (.getfield 164, 3) := by decide +kernel
theorem dX6_add_42 : decode cX6_add 42 = .ok (.iconst 4, 1) := by decide +kernel
theorem dX6_add_43 : decode cX6_add 43 = .ok (.if_icmp .lt 6, 3) := by decide +kernel
theorem dX6_add_46 : decode cX6_add 46 = .ok (.bipush (-4), 2) := by decide +kernel
theorem dX6_add_48 : decode cX6_add 48 = .ok (.ireturn, 1) := by decide +kernel
theorem dX6_add_49 : decode cX6_add 49 = .ok (.aload_n 0, 1) := by decide +kernel
theorem dX6_add_50 : decode cX6_add 50 = .ok (.getfield 39, 3) := by decide +kernel
theorem dX6_add_53 : decode cX6_add 53 = .ok (.aload_n 0, 1) := by decide +kernel
theorem dX6_add_54 : decode cX6_add 54 = .ok (.getfield 19, 3) := by decide +kernel
theorem dX6_add_57 : decode cX6_add 57 = .ok (.invokevirtual 126, 3) := by decide +kernel
theorem dX6_add_60 : decode cX6_add 60 = .ok (.aload_n 0, 1) := by decide +kernel
theorem dX6_add_61 : decode cX6_add 61 = .ok (.getfield 19, 3) := by decide +kernel
theorem dX6_add_64 : decode cX6_add 64 = .ok (.iload_n 1, 1) := by decide +kernel
theorem dX6_add_65 : decode cX6_add 65 = .ok (.iload_n 2, 1) := by decide +kernel
theorem dX6_add_66 : decode cX6_add 66 = .ok (.iload_n 3, 1) := by decide +kernel
theorem dX6_add_67 : decode cX6_add 67 = .ok (.iload 4, 2) := by decide +kernel
theorem dX6_add_69 : decode cX6_add 69 = .ok (.invokevirtual 167, 3) := by decide +kernel
theorem dX6_add_72 : decode cX6_add 72 = .ok (.aload_n 0, 1) := by decide +kernel
theorem dX6_add_73 : decode cX6_add 73 = .ok (.aload_n 0, 1) := by decide +kernel
theorem dX6_add_74 : decode cX6_add 74 = .ok (.getfield 19, 3) := by decide +kernel
theorem dX6_add_77 : decode cX6_add 77 = .ok (.invokevirtual 54, 3) := by decide +kernel
theorem dX6_add_80 : decode cX6_add 80 = .ok (.ireturn, 1) := by decide +kernel
theorem dX6_drop_0 : decode cX6_drop 0 = .ok (.aload_n 0, 1) := by decide +kernel
theorem dX6_drop_1 : decode cX6_drop 1 = .ok (.getfield 19, 3) := by decide +kernel
theorem dX6_drop_4 : decode cX6_drop 4 = .ok (.getfield 164, 3) := by decide +kernel
theorem dX6_drop_7 : decode cX6_drop 7 = .ok (.ifCond .gt 6, 3) := by decide +kernel
theorem dX6_drop_10 : decode cX6_drop 10 = .ok (.bipush (-3), 2) := by decide +kernel
theorem dX6_drop_12 : decode cX6_drop 12 = .ok (.ireturn, 1) := by decide +kernel
theorem dX6_drop_13 : decode cX6_drop 13 = .ok (.aload_n 0, 1) := by decide +kernel
theorem dX6_drop_14 : decode cX6_drop 14 = .ok (.getfield 39, 3) := by decide +kernel
theorem dX6_drop_17 : decode cX6_drop 17 = .ok (.aload_n 0, 1) := by decide +kernel
theorem dX6_drop_18 : decode cX6_drop 18 = .ok (.getfield 19, 3) := by decide +kernel
theorem dX6_drop_21 : decode cX6_drop 21 = .ok (.invokevirtual 126, 3) := by decide +kernel
theorem dX6_drop_24 : decode cX6_drop 24 = .ok (.aload_n 0, 1) := by decide +kernel
theorem dX6_drop_25 : decode cX6_drop 25 = .ok (.getfield 19, 3) := by decide +kernel
theorem dX6_drop_28 : decode cX6_drop 28 = .ok (.dup, 1) := by decide +kernel
theorem dX6_drop_29 : decode cX6_drop 29 = .ok (.getfield 164, 3) := by decide +kernel
theorem dX6_drop_32 : decode cX6_drop 32 = .ok (.iconst 1, 1) := by decide +kernel
theorem dX6_drop_33 : decode cX6_drop 33 = .ok (.isub, 1) := by decide +kernel
theorem dX6_drop_34 : decode cX6_drop 34 = .ok (.putfield 164, 3) := by decide +kernel
theorem dX6_drop_37 : decode cX6_drop 37 = .ok (.aload_n 0, 1) := by decide +kernel
theorem dX6_drop_38 : decode cX6_drop 38 = .ok (.aload_n 0, 1) := by decide +kernel
theorem dX6_drop_39 : decode cX6_drop 39 = .ok (.getfield 19, 3) := by decide +kernel
theorem dX6_drop_42 : decode cX6_drop 42 = .ok (.invokevirtual 54, 3) := by decide +kernel
theorem dX6_drop_45 : decode cX6_drop 45 = .ok (.ireturn, 1) := by decide +kernel
theorem dX6_pin_0 : decode cX6_pin 0 = .ok (.aload_n 0, 1) := by decide +kernel
theorem dX6_pin_1 : decode cX6_pin 1 = .ok (.getfield 19, 3) := by decide +kernel
theorem dX6_pin_4 : decode cX6_pin 4 = .ok (.iload_n 1, 1) := by decide +kernel
theorem dX6_pin_5 : decode cX6_pin 5 = .ok (.iload_n 2, 1) := by decide +kernel
theorem dX6_pin_6 : decode cX6_pin 6 = .ok (.invokestatic 170, 3) := by decide +kernel
theorem dX6_pin_9 : decode cX6_pin 9 = .ok (.istore_n 3, 1) := by decide +kernel
theorem dX6_pin_10 : decode cX6_pin 10 = .ok (.iload_n 3, 1) := by decide +kernel
theorem dX6_pin_11 : decode cX6_pin 11 = .ok (.ifCond .eq 5, 3) := by decide +kernel
theorem dX6_pin_14 : decode cX6_pin 14 = .ok (.iload_n 3, 1) := by decide +kernel
theorem dX6_pin_15 : decode cX6_pin 15 = .ok (.ireturn, 1) := by decide +kernel
theorem dX6_pin_16 : decode cX6_pin 16 = .ok (.aload_n 0, 1) := by decide +kernel
theorem dX6_pin_17 : decode cX6_pin 17 = .ok (.getfield 39, 3) := by decide +kernel
theorem dX6_pin_20 : decode cX6_pin 20 = .ok (.aload_n 0, 1) := by decide +kernel
theorem dX6_pin_21 : decode cX6_pin 21 = .ok (.getfield 19, 3) := by decide +kernel
theorem dX6_pin_24 : decode cX6_pin 24 = .ok (.invokevirtual 126, 3) := by decide +kernel
theorem dX6_pin_27 : decode cX6_pin 27 = .ok (.aload_n 0, 1) := by decide +kernel
theorem dX6_pin_28 : decode cX6_pin 28 = .ok (.getfield 19, 3) := by decide +kernel
theorem dX6_pin_31 : decode cX6_pin 31 = .ok (.iload_n 1, 1) := by decide +kernel
theorem dX6_pin_32 : decode cX6_pin 32 = .ok (.iload_n 2, 1) := by decide +kernel
theorem dX6_pin_33 : decode cX6_pin 33 = .ok (.invokevirtual 173, 3) := by decide +kernel
theorem dX6_pin_36 : decode cX6_pin 36 = .ok (.aload_n 0, 1) := by decide +kernel
theorem dX6_pin_37 : decode cX6_pin 37 = .ok (.aload_n 0, 1) := by decide +kernel
theorem dX6_pin_38 : decode cX6_pin 38 = .ok (.getfield 19, 3) := by decide +kernel
theorem dX6_pin_41 : decode cX6_pin 41 = .ok (.invokevirtual 54, 3) := by decide +kernel
theorem dX6_pin_44 : decode cX6_pin 44 = .ok (.ireturn, 1) := by decide +kernel
theorem dX6_undo_0 : decode cX6_undo 0 = .ok (.aload_n 0, 1) := by decide +kernel
theorem dX6_undo_1 : decode cX6_undo 1 = .ok (.getfield 39, 3) := by decide +kernel
theorem dX6_undo_4 : decode cX6_undo 4 = .ok (.aload_n 0, 1) := by decide +kernel
theorem dX6_undo_5 : decode cX6_undo 5 = .ok (.getfield 19, 3) := by decide +kernel
theorem dX6_undo_8 : decode cX6_undo 8 = .ok (.invokevirtual 176, 3) := by decide +kernel
theorem dX6_undo_11 : decode cX6_undo 11 = .ok (.ifCond .eq 13, 3) := by decide +kernel
theorem dX6_undo_14 : decode cX6_undo 14 = .ok (.aload_n 0, 1) := by decide +kernel
theorem dX6_undo_15 : decode cX6_undo 15 = .ok (.getfield 39, 3) := by decide +kernel
theorem dX6_undo_18 : decode cX6_undo 18 = .ok (.getfield 180, 3) := by decide +kernel
theorem dX6_undo_21 : decode cX6_undo 21 = .ok (.goto 5, 3) := by decide +kernel
theorem dX6_undo_24 : decode cX6_undo 24 = .ok (.bipush (-3), 2) := by decide +kernel
theorem dX6_undo_26 : decode cX6_undo 26 = .ok (.ireturn, 1) := by decide +kernel
theorem dX6_ask_0 : decode cX6_ask 0 = .ok (.iload_n 1, 1) := by decide +kernel
theorem dX6_ask_1 : decode cX6_ask 1 = .ok (.tableswitch 134 0 6 #[43, 63, 83, 92, 97, 102, 114], 43) := by decide +kernel
theorem dX6_ask_44 : decode cX6_ask 44 = .ok (.aload_n 0, 1) := by decide +kernel
theorem dX6_ask_45 : decode cX6_ask 45 = .ok (.getfield 46, 3) := by decide +kernel
theorem dX6_ask_48 : decode cX6_ask 48 = .ok (.aload_n 0, 1) := by decide +kernel
theorem dX6_ask_49 : decode cX6_ask 49 = .ok (.getfield 19, 3) := by decide +kernel
theorem dX6_ask_52 : decode cX6_ask 52 = .ok (.iconst 0, 1) := by decide +kernel
theorem dX6_ask_53 : decode cX6_ask 53 = .ok (.invokevirtual 113, 3) := by decide +kernel
theorem dX6_ask_56 : decode cX6_ask 56 = .ok (.aload_n 0, 1) := by decide +kernel
theorem dX6_ask_57 : decode cX6_ask 57 = .ok (.getfield 46, 3) := by decide +kernel
theorem dX6_ask_60 : decode cX6_ask 60 = .ok (.getfield 123, 3) := by decide +kernel
theorem dX6_ask_63 : decode cX6_ask 63 = .ok (.ireturn, 1) := by decide +kernel
theorem dX6_ask_64 : decode cX6_ask 64 = .ok (.aload_n 0, 1) := by decide +kernel
theorem dX6_ask_65 : decode cX6_ask 65 = .ok (.getfield 46, 3) := by decide +kernel
theorem dX6_ask_68 : decode cX6_ask 68 = .ok (.aload_n 0, 1) := by decide +kernel
theorem dX6_ask_69 : decode cX6_ask 69 = .ok (.getfield 19, 3) := by decide +kernel
theorem dX6_ask_72 : decode cX6_ask 72 = .ok (.iconst 0, 1) := by decide +kernel
theorem dX6_ask_73 : decode cX6_ask 73 = .ok (.invokevirtual 113, 3) := by decide +kernel
theorem dX6_ask_76 : decode cX6_ask 76 = .ok (.aload_n 0, 1) := by decide +kernel
theorem dX6_ask_77 : decode cX6_ask 77 = .ok (.getfield 46, 3) := by decide +kernel
theorem dX6_ask_80 : decode cX6_ask 80 = .ok (.getfield 151, 3) := by decide +kernel
theorem dX6_ask_83 : decode cX6_ask 83 = .ok (.ireturn, 1) := by decide +kernel
theorem dX6_ask_84 : decode cX6_ask 84 = .ok (.aload_n 0, 1) := by decide +kernel
theorem dX6_ask_85 : decode cX6_ask 85 = .ok (.aload_n 0, 1) := by decide +kernel
theorem dX6_ask_86 : decode cX6_ask 86 = .ok (.getfield 19, 3) := by decide +kernel
theorem dX6_ask_89 : decode cX6_ask 89 = .ok (.invokevirtual 183, 3) := by decide +kernel
theorem dX6_ask_92 : decode cX6_ask 92 = .ok (.ireturn, 1) := by decide +kernel
theorem dX6_ask_93 : decode cX6_ask 93 = .ok (.aload_n 0, 1) := by decide +kernel
theorem dX6_ask_94 : decode cX6_ask 94 = .ok (.invokevirtual 186, 3) := by decide +kernel
theorem dX6_ask_97 : decode cX6_ask 97 = .ok (.ireturn, 1) := by decide +kernel
theorem dX6_ask_98 : decode cX6_ask 98 = .ok (.aload_n 0, 1) := by decide +kernel
theorem dX6_ask_99 : decode cX6_ask 99 = .ok (.invokevirtual 190, 3) := by decide +kernel
theorem dX6_ask_102 : decode cX6_ask 102 = .ok (.ireturn, 1) := by decide +kernel
theorem dX6_ask_103 : decode cX6_ask 103 = .ok (.aload_n 0, 1) := by decide +kernel
theorem dX6_ask_104 : decode cX6_ask 104 = .ok (.getfield 46, 3) := by decide +kernel
theorem dX6_ask_107 : decode cX6_ask 107 = .ok (.aload_n 0, 1) := by decide +kernel
theorem dX6_ask_108 : decode cX6_ask 108 = .ok (.getfield 19, 3) := by decide +kernel
theorem dX6_ask_111 : decode cX6_ask 111 = .ok (.invokevirtual 193, 3) := by decide +kernel
theorem dX6_ask_114 : decode cX6_ask 114 = .ok (.ireturn, 1) := by decide +kernel
theorem dX6_ask_115 : decode cX6_ask 115 = .ok (.aload_n 0, 1) := by decide +kernel
theorem dX6_ask_116 : decode cX6_ask 116 = .ok (.getfield 46, 3) := by decide +kernel
theorem dX6_ask_119 : decode cX6_ask 119 = .ok (.aload_n 0, 1) := by decide +kernel
theorem dX6_ask_120 : decode cX6_ask 120 = .ok (.getfield 19, 3) := by decide +kernel
theorem dX6_ask_123 : decode cX6_ask 123 = .ok (.iconst 0, 1) := by decide +kernel
theorem dX6_ask_124 : decode cX6_ask 124 = .ok (.invokevirtual 113, 3) := by decide +kernel
theorem dX6_ask_127 : decode cX6_ask 127 = .ok (.aload_n 0, 1) := by decide +kernel
theorem dX6_ask_128 : decode cX6_ask 128 = .ok (.getfield 46, 3) := by decide +kernel
theorem dX6_ask_131 : decode cX6_ask 131 = .ok (.getfield 196, 3) := by decide +kernel
theorem dX6_ask_134 : decode cX6_ask 134 = .ok (.ireturn, 1) := by decide +kernel
theorem dX6_ask_135 : decode cX6_ask 135 = .ok (.bipush (-2), 2) := by decide +kernel
theorem dX6_ask_137 : decode cX6_ask 137 = .ok (.ireturn, 1) := by decide +kernel
theorem dX6_on_0 : decode cX6_on 0 = .ok (.aload_n 0, 1) := by decide +kernel
theorem dX6_on_1 : decode cX6_on 1 = .ok (.getfield 19, 3) := by decide +kernel
theorem dX6_on_4 : decode cX6_on 4 = .ok (.getfield 141, 3) := by decide +kernel
theorem dX6_on_7 : decode cX6_on 7 = .ok (.bipush 10, 2) := by decide +kernel
theorem dX6_on_9 : decode cX6_on 9 = .ok (.if_icmp .ge 13, 3) := by decide +kernel
theorem dX6_on_12 : decode cX6_on 12 = .ok (.aload_n 0, 1) := by decide +kernel
theorem dX6_on_13 : decode cX6_on 13 = .ok (.getfield 19, 3) := by decide +kernel
theorem dX6_on_16 : decode cX6_on 16 = .ok (.getfield 103, 3) := by decide +kernel
theorem dX6_on_19 : decode cX6_on 19 = .ok (.ifCond .ne 6, 3) := by decide +kernel
theorem dX6_on_22 : decode cX6_on 22 = .ok (.bipush (-3), 2) := by decide +kernel
theorem dX6_on_24 : decode cX6_on 24 = .ok (.ireturn, 1) := by decide +kernel
theorem dX6_on_25 : decode cX6_on 25 = .ok (.aload_n 0, 1) := by decide +kernel
theorem dX6_on_26 : decode cX6_on 26 = .ok (.getfield 46, 3) := by decide +kernel
theorem dX6_on_29 : decode cX6_on 29 = .ok (.aload_n 0, 1) := by decide +kernel
theorem dX6_on_30 : decode cX6_on 30 = .ok (.getfield 19, 3) := by decide +kernel
theorem dX6_on_33 : decode cX6_on 33 = .ok (.invokevirtual 199, 3) := by decide +kernel
theorem dX6_on_36 : decode cX6_on 36 = .ok (.iconst 1, 1) := by decide +kernel
theorem dX6_on_37 : decode cX6_on 37 = .ok (.aload_n 0, 1) := by decide +kernel
theorem dX6_on_38 : decode cX6_on 38 = .ok (.getfield 19, 3) := by decide +kernel
theorem dX6_on_41 : decode cX6_on 41 = .ok (.getfield 141, 3) := by decide +kernel
theorem dX6_on_44 : decode cX6_on 44 = .ok (.iconst 1, 1) := by decide +kernel
theorem dX6_on_45 : decode cX6_on 45 = .ok (.iadd, 1) := by decide +kernel
theorem dX6_on_46 : decode cX6_on 46 = .ok (.ishl, 1) := by decide +kernel
theorem dX6_on_47 : decode cX6_on 47 = .ok (.istore_n 1, 1) := by decide +kernel
theorem dX6_on_48 : decode cX6_on 48 = .ok (.iconst 0, 1) := by decide +kernel
theorem dX6_on_49 : decode cX6_on 49 = .ok (.istore_n 2, 1) := by decide +kernel
theorem dX6_on_50 : decode cX6_on 50 = .ok (.iconst 0, 1) := by decide +kernel
theorem dX6_on_51 : decode cX6_on 51 = .ok (.istore_n 3, 1) := by decide +kernel
theorem dX6_on_52 : decode cX6_on 52 = .ok (.iload_n 3, 1) := by decide +kernel
theorem dX6_on_53 : decode cX6_on 53 = .ok (.aload_n 0, 1) := by decide +kernel
theorem dX6_on_54 : decode cX6_on 54 = .ok (.getfield 19, 3) := by decide +kernel
theorem dX6_on_57 : decode cX6_on 57 = .ok (.getfield 202, 3) := by decide +kernel
theorem dX6_on_60 : decode cX6_on 60 = .ok (.if_icmp .ge 38, 3) := by decide +kernel
theorem dX6_on_63 : decode cX6_on 63 = .ok (.aload_n 0, 1) := by decide +kernel
theorem dX6_on_64 : decode cX6_on 64 = .ok (.getfield 46, 3) := by decide +kernel
theorem dX6_on_67 : decode cX6_on 67 = .ok (.getfield 205, 3) := by decide +kernel
theorem dX6_on_70 : decode cX6_on 70 = .ok (.aload_n 0, 1) := by decide +kernel
theorem dX6_on_71 : decode cX6_on 71 = .ok (.getfield 19, 3) := by decide +kernel
theorem dX6_on_74 : decode cX6_on 74 = .ok (.iload_n 3, 1) := by decide +kernel
theorem dX6_on_75 : decode cX6_on 75 = .ok (.invokevirtual 209, 3) := by decide +kernel
theorem dX6_on_78 : decode cX6_on 78 = .ok (.iload_n 1, 1) := by decide +kernel
theorem dX6_on_79 : decode cX6_on 79 = .ok (.ior, 1) := by decide +kernel
theorem dX6_on_80 : decode cX6_on 80 = .ok (.invokevirtual 212, 3) := by decide +kernel
theorem dX6_on_83 : decode cX6_on 83 = .ok (.ifCond .ne 9, 3) := by decide +kernel
theorem dX6_on_86 : decode cX6_on 86 = .ok (.iload_n 2, 1) := by decide +kernel
theorem dX6_on_87 : decode cX6_on 87 = .ok (.iconst 1, 1) := by decide +kernel
theorem dX6_on_88 : decode cX6_on 88 = .ok (.iload_n 3, 1) := by decide +kernel
theorem dX6_on_89 : decode cX6_on 89 = .ok (.ishl, 1) := by decide +kernel
theorem dX6_on_90 : decode cX6_on 90 = .ok (.ior, 1) := by decide +kernel
theorem dX6_on_91 : decode cX6_on 91 = .ok (.istore_n 2, 1) := by decide +kernel
theorem dX6_on_92 : decode cX6_on 92 = .ok (.iinc 3 1, 3) := by decide +kernel
theorem dX6_on_95 : decode cX6_on 95 = .ok (.goto (-43), 3) := by decide +kernel
theorem dX6_on_98 : decode cX6_on 98 = .ok (.iload_n 2, 1) := by decide +kernel
theorem dX6_on_99 : decode cX6_on 99 = .ok (.ireturn, 1) := by decide +kernel
theorem dX6_judge_0 : decode cX6_judge 0 = .ok (.iload_n 1, 1) := by decide +kernel
theorem dX6_judge_1 : decode cX6_judge 1 = .ok (.iconst 1, 1) := by decide +kernel
theorem dX6_judge_2 : decode cX6_judge 2 = .ok (.if_icmp .lt 24, 3) := by decide +kernel
theorem dX6_judge_5 : decode cX6_judge 5 = .ok (.iload_n 1, 1) := by decide +kernel
theorem dX6_judge_6 : decode cX6_judge 6 = .ok (.iconst 4, 1) := by decide +kernel
theorem dX6_judge_7 : decode cX6_judge 7 = .ok (.if_icmp .gt 19, 3) := by decide +kernel
theorem dX6_judge_10 : decode cX6_judge 10 = .ok (.lload_n 2, 1) := by decide +kernel
theorem dX6_judge_11 : decode cX6_judge 11 = .ok (.lconst 0, 1) := by decide +kernel
theorem dX6_judge_12 : decode cX6_judge 12 = .ok (.lcmp, 1) := by decide +kernel
theorem dX6_judge_13 : decode cX6_judge 13 = .ok (.ifCond .lt 13, 3) := by decide +kernel
theorem dX6_judge_16 : decode cX6_judge 16 = .ok (.lload_n 2, 1) := by decide +kernel
theorem dX6_judge_17 : decode cX6_judge 17 = .ok (.iload_n 1, 1) := by decide +kernel
theorem dX6_judge_18 : decode cX6_judge 18 = .ok (.invokestatic 217, 3) := by decide +kernel
theorem dX6_judge_21 : decode cX6_judge 21 = .ok (.lconst 0, 1) := by decide +kernel
theorem dX6_judge_22 : decode cX6_judge 22 = .ok (.lcmp, 1) := by decide +kernel
theorem dX6_judge_23 : decode cX6_judge 23 = .ok (.ifCond .eq 6, 3) := by decide +kernel
theorem dX6_judge_26 : decode cX6_judge 26 = .ok (.bipush (-2), 2) := by decide +kernel
theorem dX6_judge_28 : decode cX6_judge 28 = .ok (.ireturn, 1) := by decide +kernel
theorem dX6_judge_29 : decode cX6_judge 29 = .ok (.aload_n 0, 1) := by decide +kernel
theorem dX6_judge_30 : decode cX6_judge 30 = .ok (.getfield 26, 3) := by decide +kernel
theorem dX6_judge_33 : decode cX6_judge 33 = .ok (.aload_n 0, 1) := by decide +kernel
theorem dX6_judge_34 : decode cX6_judge 34 = .ok (.getfield 19, 3) := by decide +kernel
theorem dX6_judge_37 : decode cX6_judge 37 = .ok (.invokevirtual 69, 3) := by decide +kernel
theorem dX6_judge_40 : decode cX6_judge 40 = .ok (.iconst 0, 1) := by decide +kernel
theorem dX6_judge_41 : decode cX6_judge 41 = .ok (.istore 4, 2) := by decide +kernel
theorem dX6_judge_43 : decode cX6_judge 43 = .ok (.iload 4, 2) := by decide +kernel
theorem dX6_judge_45 : decode cX6_judge 45 = .ok (.iload_n 1, 1) := by decide +kernel
theorem dX6_judge_46 : decode cX6_judge 46 = .ok (.if_icmp .ge 34, 3) := by decide +kernel
theorem dX6_judge_49 : decode cX6_judge 49 = .ok (.aload_n 0, 1) := by decide +kernel
theorem dX6_judge_50 : decode cX6_judge 50 = .ok (.lload_n 2, 1) := by decide +kernel
theorem dX6_judge_51 : decode cX6_judge 51 = .ok (.iload_n 1, 1) := by decide +kernel
theorem dX6_judge_52 : decode cX6_judge 52 = .ok (.iconst 1, 1) := by decide +kernel
theorem dX6_judge_53 : decode cX6_judge 53 = .ok (.isub, 1) := by decide +kernel
theorem dX6_judge_54 : decode cX6_judge 54 = .ok (.iload 4, 2) := by decide +kernel
theorem dX6_judge_56 : decode cX6_judge 56 = .ok (.isub, 1) := by decide +kernel
theorem dX6_judge_57 : decode cX6_judge 57 = .ok (.invokestatic 217, 3) := by decide +kernel
theorem dX6_judge_60 : decode cX6_judge 60 = .ok (.ldc2_w 221, 3) := by decide +kernel
theorem dX6_judge_63 : decode cX6_judge 63 = .ok (.lrem, 1) := by decide +kernel
theorem dX6_judge_64 : decode cX6_judge 64 = .ok (.l2i, 1) := by decide +kernel
theorem dX6_judge_65 : decode cX6_judge 65 = .ok (.invokevirtual 223, 3) := by decide +kernel
theorem dX6_judge_68 : decode cX6_judge 68 = .ok (.ifCond .ne 6, 3) := by decide +kernel
theorem dX6_judge_71 : decode cX6_judge 71 = .ok (.iload 4, 2) := by decide +kernel
theorem dX6_judge_73 : decode cX6_judge 73 = .ok (.ireturn, 1) := by decide +kernel
theorem dX6_judge_74 : decode cX6_judge 74 = .ok (.iinc 4 1, 3) := by decide +kernel
theorem dX6_judge_77 : decode cX6_judge 77 = .ok (.goto (-34), 3) := by decide +kernel
theorem dX6_judge_80 : decode cX6_judge 80 = .ok (.bipush (-9), 2) := by decide +kernel
theorem dX6_judge_82 : decode cX6_judge 82 = .ok (.ireturn, 1) := by decide +kernel
theorem dX6_see_0 : decode cX6_see 0 = .ok (.iload_n 1, 1) := by decide +kernel
theorem dX6_see_1 : decode cX6_see 1 = .ok (.iconst 1, 1) := by decide +kernel
theorem dX6_see_2 : decode cX6_see 2 = .ok (.if_icmp .lt 34, 3) := by decide +kernel
theorem dX6_see_5 : decode cX6_see 5 = .ok (.iload_n 1, 1) := by decide +kernel
theorem dX6_see_6 : decode cX6_see 6 = .ok (.bipush 10, 2) := by decide +kernel
theorem dX6_see_8 : decode cX6_see 8 = .ok (.if_icmp .gt 28, 3) := by decide +kernel
theorem dX6_see_11 : decode cX6_see 11 = .ok (.iload_n 2, 1) := by decide +kernel
theorem dX6_see_12 : decode cX6_see 12 = .ok (.iconst 1, 1) := by decide +kernel
theorem dX6_see_13 : decode cX6_see 13 = .ok (.if_icmp .lt 23, 3) := by decide +kernel
theorem dX6_see_16 : decode cX6_see 16 = .ok (.iload_n 2, 1) := by decide +kernel
theorem dX6_see_17 : decode cX6_see 17 = .ok (.bipush 10, 2) := by decide +kernel
theorem dX6_see_19 : decode cX6_see 19 = .ok (.if_icmp .gt 17, 3) := by decide +kernel
theorem dX6_see_22 : decode cX6_see 22 = .ok (.iload_n 1, 1) := by decide +kernel
theorem dX6_see_23 : decode cX6_see 23 = .ok (.iload_n 2, 1) := by decide +kernel
theorem dX6_see_24 : decode cX6_see 24 = .ok (.if_icmp .eq 12, 3) := by decide +kernel
theorem dX6_see_27 : decode cX6_see 27 = .ok (.iload_n 3, 1) := by decide +kernel
theorem dX6_see_28 : decode cX6_see 28 = .ok (.ifCond .lt 8, 3) := by decide +kernel
theorem dX6_see_31 : decode cX6_see 31 = .ok (.iload_n 3, 1) := by decide +kernel
theorem dX6_see_32 : decode cX6_see 32 = .ok (.iconst 1, 1) := by decide +kernel
theorem dX6_see_33 : decode cX6_see 33 = .ok (.if_icmp .le 6, 3) := by decide +kernel
theorem dX6_see_36 : decode cX6_see 36 = .ok (.bipush (-2), 2) := by decide +kernel
theorem dX6_see_38 : decode cX6_see 38 = .ok (.ireturn, 1) := by decide +kernel
theorem dX6_see_39 : decode cX6_see 39 = .ok (.aload_n 0, 1) := by decide +kernel
theorem dX6_see_40 : decode cX6_see 40 = .ok (.getfield 46, 3) := by decide +kernel
theorem dX6_see_43 : decode cX6_see 43 = .ok (.getfield 226, 3) := by decide +kernel
theorem dX6_see_46 : decode cX6_see 46 = .ok (.iconst 1, 1) := by decide +kernel
theorem dX6_see_47 : decode cX6_see 47 = .ok (.iload_n 1, 1) := by decide +kernel
theorem dX6_see_48 : decode cX6_see 48 = .ok (.ishl, 1) := by decide +kernel
theorem dX6_see_49 : decode cX6_see 49 = .ok (.iconst 1, 1) := by decide +kernel
theorem dX6_see_50 : decode cX6_see 50 = .ok (.iload_n 2, 1) := by decide +kernel
theorem dX6_see_51 : decode cX6_see 51 = .ok (.ishl, 1) := by decide +kernel
theorem dX6_see_52 : decode cX6_see 52 = .ok (.ior, 1) := by decide +kernel
theorem dX6_see_53 : decode cX6_see 53 = .ok (.iload_n 3, 1) := by decide +kernel
theorem dX6_see_54 : decode cX6_see 54 = .ok (.iconst 1, 1) := by decide +kernel
theorem dX6_see_55 : decode cX6_see 55 = .ok (.if_icmp .ne 7, 3) := by decide +kernel
theorem dX6_see_58 : decode cX6_see 58 = .ok (.iconst 1, 1) := by decide +kernel
theorem dX6_see_59 : decode cX6_see 59 = .ok (.goto 4, 3) := by decide +kernel
theorem dX6_see_62 : decode cX6_see 62 = .ok (.iconst 0, 1) := by decide +kernel
theorem dX6_see_63 : decode cX6_see 63 = .ok (.invokevirtual 230, 3) := by decide +kernel
theorem dX6_see_66 : decode cX6_see 66 = .ok (.ifCond .eq 16, 3) := by decide +kernel
theorem dX6_see_69 : decode cX6_see 69 = .ok (.aload_n 0, 1) := by decide +kernel
theorem dX6_see_70 : decode cX6_see 70 = .ok (.getfield 46, 3) := by decide +kernel
theorem dX6_see_73 : decode cX6_see 73 = .ok (.getfield 226, 3) := by decide +kernel
theorem dX6_see_76 : decode cX6_see 76 = .ok (.getfield 236, 3) := by decide +kernel
theorem dX6_see_79 : decode cX6_see 79 = .ok (.goto 5, 3) := by decide +kernel
theorem dX6_see_82 : decode cX6_see 82 = .ok (.bipush (-4), 2) := by decide +kernel
theorem dX6_see_84 : decode cX6_see 84 = .ok (.ireturn, 1) := by decide +kernel
theorem dX6_unsee_0 : decode cX6_unsee 0 = .ok (.aload_n 0, 1) := by decide +kernel
theorem dX6_unsee_1 : decode cX6_unsee 1 = .ok (.getfield 46, 3) := by decide +kernel
theorem dX6_unsee_4 : decode cX6_unsee 4 = .ok (.getfield 226, 3) := by decide +kernel
theorem dX6_unsee_7 : decode cX6_unsee 7 = .ok (.getfield 236, 3) := by decide +kernel
theorem dX6_unsee_10 : decode cX6_unsee 10 = .ok (.istore_n 1, 1) := by decide +kernel
theorem dX6_unsee_11 : decode cX6_unsee 11 = .ok (.aload_n 0, 1) := by decide +kernel
theorem dX6_unsee_12 : decode cX6_unsee 12 = .ok (.getfield 46, 3) := by decide +kernel
theorem dX6_unsee_15 : decode cX6_unsee 15 = .ok (.getfield 226, 3) := by decide +kernel
theorem dX6_unsee_18 : decode cX6_unsee 18 = .ok (.iconst 0, 1) := by decide +kernel
theorem dX6_unsee_19 : decode cX6_unsee 19 = .ok (.putfield 236, 3) := by decide +kernel
theorem dX6_unsee_22 : decode cX6_unsee 22 = .ok (.iload_n 1, 1) := by decide +kernel
theorem dX6_unsee_23 : decode cX6_unsee 23 = .ok (.ireturn, 1) := by decide +kernel
theorem dX6_which_0 : decode cX6_which 0 = .ok (.iload_n 1, 1) := by decide +kernel
theorem dX6_which_1 : decode cX6_which 1 = .ok (.ifCond .lt 8, 3) := by decide +kernel
theorem dX6_which_4 : decode cX6_which 4 = .ok (.iload_n 1, 1) := by decide +kernel
theorem dX6_which_5 : decode cX6_which 5 = .ok (.iconst 1, 1) := by decide +kernel
theorem dX6_which_6 : decode cX6_which 6 = .ok (.if_icmp .le 6, 3) := by decide +kernel
theorem dX6_which_9 : decode cX6_which 9 = .ok (.bipush (-2), 2) := by decide +kernel
theorem dX6_which_11 : decode cX6_which 11 = .ok (.ireturn, 1) := by decide +kernel
theorem dX6_which_12 : decode cX6_which 12 = .ok (.aload_n 0, 1) := by decide +kernel
theorem dX6_which_13 : decode cX6_which 13 = .ok (.getfield 46, 3) := by decide +kernel
theorem dX6_which_16 : decode cX6_which 16 = .ok (.aload_n 0, 1) := by decide +kernel
theorem dX6_which_17 : decode cX6_which 17 = .ok (.getfield 19, 3) := by decide +kernel
theorem dX6_which_20 : decode cX6_which 20 = .ok (.iconst 0, 1) := by decide +kernel
theorem dX6_which_21 : decode cX6_which 21 = .ok (.invokevirtual 113, 3) := by decide +kernel
theorem dX6_which_24 : decode cX6_which 24 = .ok (.iload_n 1, 1) := by decide +kernel
theorem dX6_which_25 : decode cX6_which 25 = .ok (.ifCond .ne 13, 3) := by decide +kernel
theorem dX6_which_28 : decode cX6_which 28 = .ok (.aload_n 0, 1) := by decide +kernel
theorem dX6_which_29 : decode cX6_which 29 = .ok (.getfield 46, 3) := by decide +kernel
theorem dX6_which_32 : decode cX6_which 32 = .ok (.getfield 237, 3) := by decide +kernel
theorem dX6_which_35 : decode cX6_which 35 = .ok (.goto 10, 3) := by decide +kernel
theorem dX6_which_38 : decode cX6_which 38 = .ok (.aload_n 0, 1) := by decide +kernel
theorem dX6_which_39 : decode cX6_which 39 = .ok (.getfield 46, 3) := by decide +kernel
theorem dX6_which_42 : decode cX6_which 42 = .ok (.getfield 240, 3) := by decide +kernel
theorem dX6_which_45 : decode cX6_which 45 = .ok (.ireturn, 1) := by decide +kernel
theorem dX6_share_0 : decode cX6_share 0 = .ok (.aload_n 0, 1) := by decide +kernel
theorem dX6_share_1 : decode cX6_share 1 = .ok (.getfield 19, 3) := by decide +kernel
theorem dX6_share_4 : decode cX6_share 4 = .ok (.iload_n 1, 1) := by decide +kernel
theorem dX6_share_5 : decode cX6_share 5 = .ok (.invokevirtual 83, 3) := by decide +kernel
theorem dX6_share_8 : decode cX6_share 8 = .ok (.ifCond .ne 5, 3) := by decide +kernel
theorem dX6_share_11 : decode cX6_share 11 = .ok (.iconst (-1), 1) := by decide +kernel
theorem dX6_share_12 : decode cX6_share 12 = .ok (.ireturn, 1) := by decide +kernel
theorem dX6_share_13 : decode cX6_share 13 = .ok (.aload_n 0, 1) := by decide +kernel
theorem dX6_share_14 : decode cX6_share 14 = .ok (.getfield 46, 3) := by decide +kernel
theorem dX6_share_17 : decode cX6_share 17 = .ok (.aload_n 0, 1) := by decide +kernel
theorem dX6_share_18 : decode cX6_share 18 = .ok (.getfield 19, 3) := by decide +kernel
theorem dX6_share_21 : decode cX6_share 21 = .ok (.invokevirtual 243, 3) := by decide +kernel
theorem dX6_share_24 : decode cX6_share 24 = .ok (.aload_n 0, 1) := by decide +kernel
theorem dX6_share_25 : decode cX6_share 25 = .ok (.getfield 19, 3) := by decide +kernel
theorem dX6_share_28 : decode cX6_share 28 = .ok (.getfield 164, 3) := by decide +kernel
theorem dX6_share_31 : decode cX6_share 31 = .ok (.istore_n 3, 1) := by decide +kernel
theorem dX6_share_32 : decode cX6_share 32 = .ok (.lconst 0, 1) := by decide +kernel
theorem dX6_share_33 : decode cX6_share 33 = .ok (.lstore 4, 2) := by decide +kernel
theorem dX6_share_35 : decode cX6_share 35 = .ok (.iconst 0, 1) := by decide +kernel
theorem dX6_share_36 : decode cX6_share 36 = .ok (.istore 6, 2) := by decide +kernel
theorem dX6_share_38 : decode cX6_share 38 = .ok (.iload 6, 2) := by decide +kernel
theorem dX6_share_40 : decode cX6_share 40 = .ok (.iconst 1, 1) := by decide +kernel
theorem dX6_share_41 : decode cX6_share 41 = .ok (.iload_n 3, 1) := by decide +kernel
theorem dX6_share_42 : decode cX6_share 42 = .ok (.ishl, 1) := by decide +kernel
theorem dX6_share_43 : decode cX6_share 43 = .ok (.if_icmp .ge 74, 3) := by decide +kernel
theorem dX6_share_46 : decode cX6_share 46 = .ok (.iload 6, 2) := by decide +kernel
theorem dX6_share_48 : decode cX6_share 48 = .ok (.iload_n 1, 1) := by decide +kernel
theorem dX6_share_49 : decode cX6_share 49 = .ok (.ishr, 1) := by decide +kernel
theorem dX6_share_50 : decode cX6_share 50 = .ok (.iconst 1, 1) := by decide +kernel
theorem dX6_share_51 : decode cX6_share 51 = .ok (.iand, 1) := by decide +kernel
theorem dX6_share_52 : decode cX6_share 52 = .ok (.ifCond .ne 59, 3) := by decide +kernel
theorem dX6_share_55 : decode cX6_share 55 = .ok (.iload 6, 2) := by decide +kernel
theorem dX6_share_57 : decode cX6_share 57 = .ok (.invokestatic 246, 3) := by decide +kernel
theorem dX6_share_60 : decode cX6_share 60 = .ok (.istore 7, 2) := by decide +kernel
theorem dX6_share_62 : decode cX6_share 62 = .ok (.iload 7, 2) := by decide +kernel
theorem dX6_share_64 : decode cX6_share 64 = .ok (.invokestatic 251, 3) := by decide +kernel
theorem dX6_share_67 : decode cX6_share 67 = .ok (.iload_n 3, 1) := by decide +kernel
theorem dX6_share_68 : decode cX6_share 68 = .ok (.iconst 1, 1) := by decide +kernel
theorem dX6_share_69 : decode cX6_share 69 = .ok (.isub, 1) := by decide +kernel
theorem dX6_share_70 : decode cX6_share 70 = .ok (.iload 7, 2) := by decide +kernel
theorem dX6_share_72 : decode cX6_share 72 = .ok (.isub, 1) := by decide +kernel
theorem dX6_share_73 : decode cX6_share 73 = .ok (.invokestatic 251, 3) := by decide +kernel
theorem dX6_share_76 : decode cX6_share 76 = .ok (.lmul, 1) := by decide +kernel
theorem dX6_share_77 : decode cX6_share 77 = .ok (.lstore 8, 2) := by decide +kernel
theorem dX6_share_79 : decode cX6_share 79 = .ok (.lload 4, 2) := by decide +kernel
theorem dX6_share_81 : decode cX6_share 81 = .ok (.lload 8, 2) := by decide +kernel
theorem dX6_share_83 : decode cX6_share 83 = .ok (.aload_n 0, 1) := by decide +kernel
theorem dX6_share_84 : decode cX6_share 84 = .ok (.getfield 46, 3) := by decide +kernel
theorem dX6_share_87 : decode cX6_share 87 = .ok (.iload 6, 2) := by decide +kernel
theorem dX6_share_89 : decode cX6_share 89 = .ok (.invokevirtual 255, 3) := by decide +kernel
theorem dX6_share_92 : decode cX6_share 92 = .ok (.aload_n 0, 1) := by decide +kernel
theorem dX6_share_93 : decode cX6_share 93 = .ok (.getfield 46, 3) := by decide +kernel
theorem dX6_share_96 : decode cX6_share 96 = .ok (.iload 6, 2) := by decide +kernel
theorem dX6_share_98 : decode cX6_share 98 = .ok (.iconst 1, 1) := by decide +kernel
theorem dX6_share_99 : decode cX6_share 99 = .ok (.iload_n 1, 1) := by decide +kernel
theorem dX6_share_100 : decode cX6_share 100 = .ok (.ishl, 1) := by decide +kernel
theorem dX6_share_101 : decode cX6_share 101 = .ok (.ior, 1) := by decide +kernel
theorem dX6_share_102 : decode cX6_share 102 = .ok (.invokevirtual 255, 3) := by decide +kernel
theorem dX6_share_105 : decode cX6_share 105 = .ok (.isub, 1) := by decide +kernel
theorem dX6_share_106 : decode cX6_share 106 = .ok (.i2l, 1) := by decide +kernel
theorem dX6_share_107 : decode cX6_share 107 = .ok (.lmul, 1) := by decide +kernel
theorem dX6_share_108 : decode cX6_share 108 = .ok (.ladd, 1) := by decide +kernel
theorem dX6_share_109 : decode cX6_share 109 = .ok (.lstore 4, 2) := by decide +kernel
theorem dX6_share_111 : decode cX6_share 111 = .ok (.iinc 6 1, 3) := by decide +kernel
theorem dX6_share_114 : decode cX6_share 114 = .ok (.goto (-76), 3) := by decide +kernel
theorem dX6_share_117 : decode cX6_share 117 = .ok (.lload 4, 2) := by decide +kernel
theorem dX6_share_119 : decode cX6_share 119 = .ok (.iload_n 3, 1) := by decide +kernel
theorem dX6_share_120 : decode cX6_share 120 = .ok (.invokestatic 251, 3) := by decide +kernel
theorem dX6_share_123 : decode cX6_share 123 = .ok (.iload_n 2, 1) := by decide +kernel
theorem dX6_share_124 : decode cX6_share 124 = .ok (.invokestatic 258, 3) := by decide +kernel
theorem dX6_share_127 : decode cX6_share 127 = .ok (.ireturn, 1) := by decide +kernel
theorem dX6_luck_0 : decode cX6_luck 0 = .ok (.aload_n 0, 1) := by decide +kernel
theorem dX6_luck_1 : decode cX6_luck 1 = .ok (.getfield 46, 3) := by decide +kernel
theorem dX6_luck_4 : decode cX6_luck 4 = .ok (.aload_n 0, 1) := by decide +kernel
theorem dX6_luck_5 : decode cX6_luck 5 = .ok (.getfield 19, 3) := by decide +kernel
theorem dX6_luck_8 : decode cX6_luck 8 = .ok (.iconst 0, 1) := by decide +kernel
theorem dX6_luck_9 : decode cX6_luck 9 = .ok (.invokevirtual 113, 3) := by decide +kernel
theorem dX6_luck_12 : decode cX6_luck 12 = .ok (.aload_n 0, 1) := by decide +kernel
theorem dX6_luck_13 : decode cX6_luck 13 = .ok (.getfield 46, 3) := by decide +kernel
theorem dX6_luck_16 : decode cX6_luck 16 = .ok (.getfield 123, 3) := by decide +kernel
theorem dX6_luck_19 : decode cX6_luck 19 = .ok (.i2l, 1) := by decide +kernel
theorem dX6_luck_20 : decode cX6_luck 20 = .ok (.aload_n 0, 1) := by decide +kernel
theorem dX6_luck_21 : decode cX6_luck 21 = .ok (.getfield 19, 3) := by decide +kernel
theorem dX6_luck_24 : decode cX6_luck 24 = .ok (.getfield 202, 3) := by decide +kernel
theorem dX6_luck_27 : decode cX6_luck 27 = .ok (.aload_n 0, 1) := by decide +kernel
theorem dX6_luck_28 : decode cX6_luck 28 = .ok (.getfield 19, 3) := by decide +kernel
theorem dX6_luck_31 : decode cX6_luck 31 = .ok (.getfield 141, 3) := by decide +kernel
theorem dX6_luck_34 : decode cX6_luck 34 = .ok (.invokestatic 262, 3) := by decide +kernel
theorem dX6_luck_37 : decode cX6_luck 37 = .ok (.iload_n 1, 1) := by decide +kernel
theorem dX6_luck_38 : decode cX6_luck 38 = .ok (.invokestatic 258, 3) := by decide +kernel
theorem dX6_luck_41 : decode cX6_luck 41 = .ok (.ireturn, 1) := by decide +kernel
theorem dX6_lost_0 : decode cX6_lost 0 = .ok (.iload_n 1, 1) := by decide +kernel
theorem dX6_lost_1 : decode cX6_lost 1 = .ok (.ifCond .lt 9, 3) := by decide +kernel
theorem dX6_lost_4 : decode cX6_lost 4 = .ok (.iload_n 1, 1) := by decide +kernel
theorem dX6_lost_5 : decode cX6_lost 5 = .ok (.bipush 10, 2) := by decide +kernel
theorem dX6_lost_7 : decode cX6_lost 7 = .ok (.if_icmp .le 6, 3) := by decide +kernel
theorem dX6_lost_10 : decode cX6_lost 10 = .ok (.bipush (-2), 2) := by decide +kernel
theorem dX6_lost_12 : decode cX6_lost 12 = .ok (.ireturn, 1) := by decide +kernel
theorem dX6_lost_13 : decode cX6_lost 13 = .ok (.aload_n 0, 1) := by decide +kernel
theorem dX6_lost_14 : decode cX6_lost 14 = .ok (.getfield 46, 3) := by decide +kernel
theorem dX6_lost_17 : decode cX6_lost 17 = .ok (.aload_n 0, 1) := by decide +kernel
theorem dX6_lost_18 : decode cX6_lost 18 = .ok (.getfield 19, 3) := by decide +kernel
theorem dX6_lost_21 : decode cX6_lost 21 = .ok (.invokevirtual 243, 3) := by decide +kernel
theorem dX6_lost_24 : decode cX6_lost 24 = .ok (.aload_n 0, 1) := by decide +kernel
theorem dX6_lost_25 : decode cX6_lost 25 = .ok (.getfield 19, 3) := by decide +kernel
theorem dX6_lost_28 : decode cX6_lost 28 = .ok (.getfield 164, 3) := by decide +kernel
theorem dX6_lost_31 : decode cX6_lost 31 = .ok (.istore_n 3, 1) := by decide +kernel
theorem dX6_lost_32 : decode cX6_lost 32 = .ok (.lconst 0, 1) := by decide +kernel
theorem dX6_lost_33 : decode cX6_lost 33 = .ok (.lstore 4, 2) := by decide +kernel
theorem dX6_lost_35 : decode cX6_lost 35 = .ok (.iconst 0, 1) := by decide +kernel
theorem dX6_lost_36 : decode cX6_lost 36 = .ok (.istore 6, 2) := by decide +kernel
theorem dX6_lost_38 : decode cX6_lost 38 = .ok (.iload 6, 2) := by decide +kernel
theorem dX6_lost_40 : decode cX6_lost 40 = .ok (.iconst 1, 1) := by decide +kernel
theorem dX6_lost_41 : decode cX6_lost 41 = .ok (.iload_n 3, 1) := by decide +kernel
theorem dX6_lost_42 : decode cX6_lost 42 = .ok (.ishl, 1) := by decide +kernel
theorem dX6_lost_43 : decode cX6_lost 43 = .ok (.if_icmp .ge 51, 3) := by decide +kernel
theorem dX6_lost_46 : decode cX6_lost 46 = .ok (.aload_n 0, 1) := by decide +kernel
theorem dX6_lost_47 : decode cX6_lost 47 = .ok (.getfield 46, 3) := by decide +kernel
theorem dX6_lost_50 : decode cX6_lost 50 = .ok (.iload 6, 2) := by decide +kernel
theorem dX6_lost_52 : decode cX6_lost 52 = .ok (.invokevirtual 255, 3) := by decide +kernel
theorem dX6_lost_55 : decode cX6_lost 55 = .ok (.ifCond .le 33, 3) := by decide +kernel
theorem dX6_lost_58 : decode cX6_lost 58 = .ok (.iload 6, 2) := by decide +kernel
theorem dX6_lost_60 : decode cX6_lost 60 = .ok (.invokestatic 246, 3) := by decide +kernel
theorem dX6_lost_63 : decode cX6_lost 63 = .ok (.istore 7, 2) := by decide +kernel
theorem dX6_lost_65 : decode cX6_lost 65 = .ok (.lload 4, 2) := by decide +kernel
theorem dX6_lost_67 : decode cX6_lost 67 = .ok (.bipush 10, 2) := by decide +kernel
theorem dX6_lost_69 : decode cX6_lost 69 = .ok (.iload_n 1, 1) := by decide +kernel
theorem dX6_lost_70 : decode cX6_lost 70 = .ok (.isub, 1) := by decide +kernel
theorem dX6_lost_71 : decode cX6_lost 71 = .ok (.iload 7, 2) := by decide +kernel
theorem dX6_lost_73 : decode cX6_lost 73 = .ok (.invokestatic 262, 3) := by decide +kernel
theorem dX6_lost_76 : decode cX6_lost 76 = .ok (.iload_n 1, 1) := by decide +kernel
theorem dX6_lost_77 : decode cX6_lost 77 = .ok (.iload_n 3, 1) := by decide +kernel
theorem dX6_lost_78 : decode cX6_lost 78 = .ok (.iload 7, 2) := by decide +kernel
theorem dX6_lost_80 : decode cX6_lost 80 = .ok (.isub, 1) := by decide +kernel
theorem dX6_lost_81 : decode cX6_lost 81 = .ok (.invokestatic 262, 3) := by decide +kernel
theorem dX6_lost_84 : decode cX6_lost 84 = .ok (.lmul, 1) := by decide +kernel
theorem dX6_lost_85 : decode cX6_lost 85 = .ok (.ladd, 1) := by decide +kernel
theorem dX6_lost_86 : decode cX6_lost 86 = .ok (.lstore 4, 2) := by decide +kernel
theorem dX6_lost_88 : decode cX6_lost 88 = .ok (.iinc 6 1, 3) := by decide +kernel
theorem dX6_lost_91 : decode cX6_lost 91 = .ok (.goto (-53), 3) := by decide +kernel
theorem dX6_lost_94 : decode cX6_lost 94 = .ok (.lload 4, 2) := by decide +kernel
theorem dX6_lost_96 : decode cX6_lost 96 = .ok (.bipush 10, 2) := by decide +kernel
theorem dX6_lost_98 : decode cX6_lost 98 = .ok (.iload_n 3, 1) := by decide +kernel
theorem dX6_lost_99 : decode cX6_lost 99 = .ok (.invokestatic 262, 3) := by decide +kernel
theorem dX6_lost_102 : decode cX6_lost 102 = .ok (.iload_n 2, 1) := by decide +kernel
theorem dX6_lost_103 : decode cX6_lost 103 = .ok (.invokestatic 258, 3) := by decide +kernel
theorem dX6_lost_106 : decode cX6_lost 106 = .ok (.ireturn, 1) := by decide +kernel
theorem dX6_seed_0 : decode cX6_seed 0 = .ok (.aload_n 0, 1) := by decide +kernel
theorem dX6_seed_1 : decode cX6_seed 1 = .ok (.getfield 266, 3) := by decide +kernel
theorem dX6_seed_4 : decode cX6_seed 4 = .ok (.lstore_n 3, 1) := by decide +kernel
theorem dX6_seed_5 : decode cX6_seed 5 = .ok (.aload_n 0, 1) := by decide +kernel
theorem dX6_seed_6 : decode cX6_seed 6 = .ok (.lload_n 1, 1) := by decide +kernel
theorem dX6_seed_7 : decode cX6_seed 7 = .ok (.putfield 266, 3) := by decide +kernel
theorem dX6_seed_10 : decode cX6_seed 10 = .ok (.lload_n 3, 1) := by decide +kernel
theorem dX6_seed_11 : decode cX6_seed 11 = .ok (.lreturn, 1) := by decide +kernel
theorem dX6_drawn_0 : decode cX6_drawn 0 = .ok (.iload_n 1, 1) := by decide +kernel
theorem dX6_drawn_1 : decode cX6_drawn 1 = .ok (.iconst 1, 1) := by decide +kernel
theorem dX6_drawn_2 : decode cX6_drawn 2 = .ok (.if_icmp .lt 9, 3) := by decide +kernel
theorem dX6_drawn_5 : decode cX6_drawn 5 = .ok (.iload_n 1, 1) := by decide +kernel
theorem dX6_drawn_6 : decode cX6_drawn 6 = .ok (.bipush 9, 2) := by decide +kernel
theorem dX6_drawn_8 : decode cX6_drawn 8 = .ok (.if_icmp .le 6, 3) := by decide +kernel
theorem dX6_drawn_11 : decode cX6_drawn 11 = .ok (.bipush (-2), 2) := by decide +kernel
theorem dX6_drawn_13 : decode cX6_drawn 13 = .ok (.ireturn, 1) := by decide +kernel
theorem dX6_drawn_14 : decode cX6_drawn 14 = .ok (.iconst 0, 1) := by decide +kernel
theorem dX6_drawn_15 : decode cX6_drawn 15 = .ok (.istore_n 2, 1) := by decide +kernel
theorem dX6_drawn_16 : decode cX6_drawn 16 = .ok (.iconst 0, 1) := by decide +kernel
theorem dX6_drawn_17 : decode cX6_drawn 17 = .ok (.istore_n 3, 1) := by decide +kernel
theorem dX6_drawn_18 : decode cX6_drawn 18 = .ok (.iload_n 3, 1) := by decide +kernel
theorem dX6_drawn_19 : decode cX6_drawn 19 = .ok (.iload_n 1, 1) := by decide +kernel
theorem dX6_drawn_20 : decode cX6_drawn 20 = .ok (.if_icmp .ge 16, 3) := by decide +kernel
theorem dX6_drawn_23 : decode cX6_drawn 23 = .ok (.iload_n 2, 1) := by decide +kernel
theorem dX6_drawn_24 : decode cX6_drawn 24 = .ok (.aload_n 0, 1) := by decide +kernel
theorem dX6_drawn_25 : decode cX6_drawn 25 = .ok (.invokevirtual 270, 3) := by decide +kernel
theorem dX6_drawn_28 : decode cX6_drawn 28 = .ok (.iadd, 1) := by decide +kernel
theorem dX6_drawn_29 : decode cX6_drawn 29 = .ok (.istore_n 2, 1) := by decide +kernel
theorem dX6_drawn_30 : decode cX6_drawn 30 = .ok (.iinc 3 1, 3) := by decide +kernel
theorem dX6_drawn_33 : decode cX6_drawn 33 = .ok (.goto (-15), 3) := by decide +kernel
theorem dX6_drawn_36 : decode cX6_drawn 36 = .ok (.iload_n 2, 1) := by decide +kernel
theorem dX6_drawn_37 : decode cX6_drawn 37 = .ok (.ireturn, 1) := by decide +kernel
theorem dX6_keep_0 : decode cX6_keep 0 = .ok (.aload_n 0, 1) := by decide +kernel
theorem dX6_keep_1 : decode cX6_keep 1 = .ok (.iload_n 1, 1) := by decide +kernel
theorem dX6_keep_2 : decode cX6_keep 2 = .ok (.invokevirtual 76, 3) := by decide +kernel
theorem dX6_keep_5 : decode cX6_keep 5 = .ok (.astore_n 2, 1) := by decide +kernel
theorem dX6_keep_6 : decode cX6_keep 6 = .ok (.aload_n 2, 1) := by decide +kernel
theorem dX6_keep_7 : decode cX6_keep 7 = .ok (.ifnonnull 5, 3) := by decide +kernel
theorem dX6_keep_10 : decode cX6_keep 10 = .ok (.iconst (-1), 1) := by decide +kernel
theorem dX6_keep_11 : decode cX6_keep 11 = .ok (.ireturn, 1) := by decide +kernel
theorem dX6_keep_12 : decode cX6_keep 12 = .ok (.aload_n 2, 1) := by decide +kernel
theorem dX6_keep_13 : decode cX6_keep 13 = .ok (.aload_n 0, 1) := by decide +kernel
theorem dX6_keep_14 : decode cX6_keep 14 = .ok (.getfield 19, 3) := by decide +kernel
theorem dX6_keep_17 : decode cX6_keep 17 = .ok (.invokevirtual 69, 3) := by decide +kernel
theorem dX6_keep_20 : decode cX6_keep 20 = .ok (.aload_n 0, 1) := by decide +kernel
theorem dX6_keep_21 : decode cX6_keep 21 = .ok (.getfield 19, 3) := by decide +kernel
theorem dX6_keep_24 : decode cX6_keep 24 = .ok (.getfield 141, 3) := by decide +kernel
theorem dX6_keep_27 : decode cX6_keep 27 = .ok (.ireturn, 1) := by decide +kernel
theorem dX6_again_0 : decode cX6_again 0 = .ok (.aload_n 0, 1) := by decide +kernel
theorem dX6_again_1 : decode cX6_again 1 = .ok (.iload_n 1, 1) := by decide +kernel
theorem dX6_again_2 : decode cX6_again 2 = .ok (.invokevirtual 76, 3) := by decide +kernel
theorem dX6_again_5 : decode cX6_again 5 = .ok (.astore_n 2, 1) := by decide +kernel
theorem dX6_again_6 : decode cX6_again 6 = .ok (.aload_n 2, 1) := by decide +kernel
theorem dX6_again_7 : decode cX6_again 7 = .ok (.ifnonnull 5, 3) := by decide +kernel
theorem dX6_again_10 : decode cX6_again 10 = .ok (.iconst (-1), 1) := by decide +kernel
theorem dX6_again_11 : decode cX6_again 11 = .ok (.ireturn, 1) := by decide +kernel
theorem dX6_again_12 : decode cX6_again 12 = .ok (.aload_n 2, 1) := by decide +kernel
theorem dX6_again_13 : decode cX6_again 13 = .ok (.getfield 141, 3) := by decide +kernel
theorem dX6_again_16 : decode cX6_again 16 = .ok (.ifCond .ne 6, 3) := by decide +kernel
theorem dX6_again_19 : decode cX6_again 19 = .ok (.bipush (-3), 2) := by decide +kernel
theorem dX6_again_21 : decode cX6_again 21 = .ok (.ireturn, 1) := by decide +kernel
theorem dX6_again_22 : decode cX6_again 22 = .ok (.aload_n 0, 1) := by decide +kernel
theorem dX6_again_23 : decode cX6_again 23 = .ok (.getfield 19, 3) := by decide +kernel
theorem dX6_again_26 : decode cX6_again 26 = .ok (.aload_n 2, 1) := by decide +kernel
theorem dX6_again_27 : decode cX6_again 27 = .ok (.invokevirtual 69, 3) := by decide +kernel
theorem dX6_again_30 : decode cX6_again 30 = .ok (.aload_n 0, 1) := by decide +kernel
theorem dX6_again_31 : decode cX6_again 31 = .ok (.getfield 39, 3) := by decide +kernel
theorem dX6_again_34 : decode cX6_again 34 = .ok (.invokevirtual 73, 3) := by decide +kernel
theorem dX6_again_37 : decode cX6_again 37 = .ok (.aload_n 0, 1) := by decide +kernel
theorem dX6_again_38 : decode cX6_again 38 = .ok (.getfield 19, 3) := by decide +kernel
theorem dX6_again_41 : decode cX6_again 41 = .ok (.getfield 141, 3) := by decide +kernel
theorem dX6_again_44 : decode cX6_again 44 = .ok (.ireturn, 1) := by decide +kernel
theorem dX6_count_0 : decode cX6_count 0 = .ok (.iload_n 1, 1) := by decide +kernel
theorem dX6_count_1 : decode cX6_count 1 = .ok (.tableswitch 102 0 6 #[43, 51, 59, 67, 75, 83, 91], 43) := by decide +kernel
theorem dX6_count_44 : decode cX6_count 44 = .ok (.aload_n 0, 1) := by decide +kernel
theorem dX6_count_45 : decode cX6_count 45 = .ok (.getfield 10, 3) := by decide +kernel
theorem dX6_count_48 : decode cX6_count 48 = .ok (.getfield 62, 3) := by decide +kernel
theorem dX6_count_51 : decode cX6_count 51 = .ok (.ireturn, 1) := by decide +kernel
theorem dX6_count_52 : decode cX6_count 52 = .ok (.aload_n 0, 1) := by decide +kernel
theorem dX6_count_53 : decode cX6_count 53 = .ok (.getfield 19, 3) := by decide +kernel
theorem dX6_count_56 : decode cX6_count 56 = .ok (.getfield 141, 3) := by decide +kernel
theorem dX6_count_59 : decode cX6_count 59 = .ok (.ireturn, 1) := by decide +kernel
theorem dX6_count_60 : decode cX6_count 60 = .ok (.aload_n 0, 1) := by decide +kernel
theorem dX6_count_61 : decode cX6_count 61 = .ok (.getfield 19, 3) := by decide +kernel
theorem dX6_count_64 : decode cX6_count 64 = .ok (.getfield 202, 3) := by decide +kernel
theorem dX6_count_67 : decode cX6_count 67 = .ok (.ireturn, 1) := by decide +kernel
theorem dX6_count_68 : decode cX6_count 68 = .ok (.aload_n 0, 1) := by decide +kernel
theorem dX6_count_69 : decode cX6_count 69 = .ok (.getfield 19, 3) := by decide +kernel
theorem dX6_count_72 : decode cX6_count 72 = .ok (.getfield 164, 3) := by decide +kernel
theorem dX6_count_75 : decode cX6_count 75 = .ok (.ireturn, 1) := by decide +kernel
theorem dX6_count_76 : decode cX6_count 76 = .ok (.aload_n 0, 1) := by decide +kernel
theorem dX6_count_77 : decode cX6_count 77 = .ok (.getfield 19, 3) := by decide +kernel
theorem dX6_count_80 : decode cX6_count 80 = .ok (.invokevirtual 273, 3) := by decide +kernel
theorem dX6_count_83 : decode cX6_count 83 = .ok (.ireturn, 1) := by decide +kernel
theorem dX6_count_84 : decode cX6_count 84 = .ok (.aload_n 0, 1) := by decide +kernel
theorem dX6_count_85 : decode cX6_count 85 = .ok (.getfield 39, 3) := by decide +kernel
theorem dX6_count_88 : decode cX6_count 88 = .ok (.getfield 180, 3) := by decide +kernel
theorem dX6_count_91 : decode cX6_count 91 = .ok (.ireturn, 1) := by decide +kernel
theorem dX6_count_92 : decode cX6_count 92 = .ok (.aload_n 0, 1) := by decide +kernel
theorem dX6_count_93 : decode cX6_count 93 = .ok (.getfield 46, 3) := by decide +kernel
theorem dX6_count_96 : decode cX6_count 96 = .ok (.getfield 226, 3) := by decide +kernel
theorem dX6_count_99 : decode cX6_count 99 = .ok (.getfield 236, 3) := by decide +kernel
theorem dX6_count_102 : decode cX6_count 102 = .ok (.ireturn, 1) := by decide +kernel
theorem dX6_count_103 : decode cX6_count 103 = .ok (.bipush (-2), 2) := by decide +kernel
theorem dX6_count_105 : decode cX6_count 105 = .ok (.ireturn, 1) := by decide +kernel
theorem dX6_settle_0 : decode cX6_settle 0 = .ok (.aload_n 0, 1) := by decide +kernel
theorem dX6_settle_1 : decode cX6_settle 1 = .ok (.getfield 46, 3) := by decide +kernel
theorem dX6_settle_4 : decode cX6_settle 4 = .ok (.aload_n 1, 1) := by decide +kernel
theorem dX6_settle_5 : decode cX6_settle 5 = .ok (.iconst 0, 1) := by decide +kernel
theorem dX6_settle_6 : decode cX6_settle 6 = .ok (.invokevirtual 113, 3) := by decide +kernel
theorem dX6_settle_9 : decode cX6_settle 9 = .ok (.aload_n 0, 1) := by decide +kernel
theorem dX6_settle_10 : decode cX6_settle 10 = .ok (.getfield 46, 3) := by decide +kernel
theorem dX6_settle_13 : decode cX6_settle 13 = .ok (.getfield 151, 3) := by decide +kernel
theorem dX6_settle_16 : decode cX6_settle 16 = .ok (.bipush (-9), 2) := by decide +kernel
theorem dX6_settle_18 : decode cX6_settle 18 = .ok (.if_icmp .ne 29, 3) := by decide +kernel
theorem dX6_settle_21 : decode cX6_settle 21 = .ok (.aload_n 1, 1) := by decide +kernel
theorem dX6_settle_22 : decode cX6_settle 22 = .ok (.aload_n 0, 1) := by decide +kernel
theorem dX6_settle_23 : decode cX6_settle 23 = .ok (.getfield 46, 3) := by decide +kernel
theorem dX6_settle_26 : decode cX6_settle 26 = .ok (.getfield 129, 3) := by decide +kernel
theorem dX6_settle_29 : decode cX6_settle 29 = .ok (.aload_n 0, 1) := by decide +kernel
theorem dX6_settle_30 : decode cX6_settle 30 = .ok (.getfield 46, 3) := by decide +kernel
theorem dX6_settle_33 : decode cX6_settle 33 = .ok (.getfield 123, 3) := by decide +kernel
theorem dX6_settle_36 : decode cX6_settle 36 = .ok (.ifCond .le 7, 3) := by decide +kernel
theorem dX6_settle_39 : decode cX6_settle 39 = .ok (.iconst 1, 1) := by decide +kernel
theorem dX6_settle_40 : decode cX6_settle 40 = .ok (.goto 4, 3) := by decide +kernel
theorem dX6_settle_43 : decode cX6_settle 43 = .ok (.iconst 0, 1) := by decide +kernel
theorem dX6_settle_44 : decode cX6_settle 44 = .ok (.invokevirtual 137, 3) := by decide +kernel
theorem dX6_settle_47 : decode cX6_settle 47 = .ok (.aload_n 0, 1) := by decide +kernel
theorem dX6_settle_48 : decode cX6_settle 48 = .ok (.getfield 46, 3) := by decide +kernel
theorem dX6_settle_51 : decode cX6_settle 51 = .ok (.getfield 123, 3) := by decide +kernel
theorem dX6_settle_54 : decode cX6_settle 54 = .ok (.ireturn, 1) := by decide +kernel
theorem dX6_refusalOfPaint_0 : decode cX6_refusalOfPaint 0 = .ok (.aload_n 1, 1) := by decide +kernel
theorem dX6_refusalOfPaint_1 : decode cX6_refusalOfPaint 1 = .ok (.iload_n 2, 1) := by decide +kernel
theorem dX6_refusalOfPaint_2 : decode cX6_refusalOfPaint 2 = .ok (.invokevirtual 100, 3) := by decide +kernel
theorem dX6_refusalOfPaint_5 : decode cX6_refusalOfPaint 5 = .ok (.ifCond .ne 5, 3) := by decide +kernel
theorem dX6_refusalOfPaint_8 : decode cX6_refusalOfPaint 8 = .ok (.iconst (-1), 1) := by decide +kernel
theorem dX6_refusalOfPaint_9 : decode cX6_refusalOfPaint 9 = .ok (.ireturn, 1) := by decide +kernel
theorem dX6_refusalOfPaint_10 : decode cX6_refusalOfPaint 10 = .ok (.aload_n 1, 1) := by decide +kernel
theorem dX6_refusalOfPaint_11 : decode cX6_refusalOfPaint 11 = .ok (.iload_n 3, 1) := by decide +kernel
theorem dX6_refusalOfPaint_12 : decode cX6_refusalOfPaint 12 = .ok (.invokevirtual 276, 3) := by decide +kernel
theorem dX6_refusalOfPaint_15 : decode cX6_refusalOfPaint 15 = .ok (.ifCond .ne 6, 3) := by decide +kernel
theorem dX6_refusalOfPaint_18 : decode cX6_refusalOfPaint 18 = .ok (.bipush (-2), 2) := by decide +kernel
theorem dX6_refusalOfPaint_20 : decode cX6_refusalOfPaint 20 = .ok (.ireturn, 1) := by decide +kernel
theorem dX6_refusalOfPaint_21 : decode cX6_refusalOfPaint 21 = .ok (.aload_n 1, 1) := by decide +kernel
theorem dX6_refusalOfPaint_22 : decode cX6_refusalOfPaint 22 = .ok (.getfield 103, 3) := by decide +kernel
theorem dX6_refusalOfPaint_25 : decode cX6_refusalOfPaint 25 = .ok (.ifCond .eq 21, 3) := by decide +kernel
theorem dX6_refusalOfPaint_28 : decode cX6_refusalOfPaint 28 = .ok (.aload_n 1, 1) := by decide +kernel
theorem dX6_refusalOfPaint_29 : decode cX6_refusalOfPaint 29 = .ok (.iload_n 2, 1) := by decide +kernel
theorem dX6_refusalOfPaint_30 : decode cX6_refusalOfPaint 30 = .ok (.invokevirtual 107, 3) := by decide +kernel
theorem dX6_refusalOfPaint_33 : decode cX6_refusalOfPaint 33 = .ok (.iload_n 3, 1) := by decide +kernel
theorem dX6_refusalOfPaint_34 : decode cX6_refusalOfPaint 34 = .ok (.if_icmp .eq 12, 3) := by decide +kernel
theorem dX6_refusalOfPaint_37 : decode cX6_refusalOfPaint 37 = .ok (.aload_n 1, 1) := by decide +kernel
theorem dX6_refusalOfPaint_38 : decode cX6_refusalOfPaint 38 = .ok (.iload_n 2, 1) := by decide +kernel
theorem dX6_refusalOfPaint_39 : decode cX6_refusalOfPaint 39 = .ok (.iload_n 3, 1) := by decide +kernel
theorem dX6_refusalOfPaint_40 : decode cX6_refusalOfPaint 40 = .ok (.invokevirtual 279, 3) := by decide +kernel
theorem dX6_refusalOfPaint_43 : decode cX6_refusalOfPaint 43 = .ok (.ifCond .ne 6, 3) := by decide +kernel
theorem dX6_refusalOfPaint_46 : decode cX6_refusalOfPaint 46 = .ok (.bipush (-3), 2) := by decide +kernel
theorem dX6_refusalOfPaint_48 : decode cX6_refusalOfPaint 48 = .ok (.ireturn, 1) := by decide +kernel
theorem dX6_refusalOfPaint_49 : decode cX6_refusalOfPaint 49 = .ok (.aload_n 0, 1) := by decide +kernel
theorem dX6_refusalOfPaint_50 : decode cX6_refusalOfPaint 50 = .ok (.getfield 46, 3) := by decide +kernel
theorem dX6_refusalOfPaint_53 : decode cX6_refusalOfPaint 53 = .ok (.aload_n 1, 1) := by decide +kernel
theorem dX6_refusalOfPaint_54 : decode cX6_refusalOfPaint 54 = .ok (.invokevirtual 199, 3) := by decide +kernel
theorem dX6_refusalOfPaint_57 : decode cX6_refusalOfPaint 57 = .ok (.aload_n 0, 1) := by decide +kernel
theorem dX6_refusalOfPaint_58 : decode cX6_refusalOfPaint 58 = .ok (.getfield 46, 3) := by decide +kernel
theorem dX6_refusalOfPaint_61 : decode cX6_refusalOfPaint 61 = .ok (.getfield 205, 3) := by decide +kernel
theorem dX6_refusalOfPaint_64 : decode cX6_refusalOfPaint 64 = .ok (.aload_n 1, 1) := by decide +kernel
theorem dX6_refusalOfPaint_65 : decode cX6_refusalOfPaint 65 = .ok (.iload_n 3, 1) := by decide +kernel
theorem dX6_refusalOfPaint_66 : decode cX6_refusalOfPaint 66 = .ok (.invokevirtual 209, 3) := by decide +kernel
theorem dX6_refusalOfPaint_69 : decode cX6_refusalOfPaint 69 = .ok (.iconst 1, 1) := by decide +kernel
theorem dX6_refusalOfPaint_70 : decode cX6_refusalOfPaint 70 = .ok (.iload_n 2, 1) := by decide +kernel
theorem dX6_refusalOfPaint_71 : decode cX6_refusalOfPaint 71 = .ok (.ishl, 1) := by decide +kernel
theorem dX6_refusalOfPaint_72 : decode cX6_refusalOfPaint 72 = .ok (.ior, 1) := by decide +kernel
theorem dX6_refusalOfPaint_73 : decode cX6_refusalOfPaint 73 = .ok (.invokevirtual 212, 3) := by decide +kernel
theorem dX6_refusalOfPaint_76 : decode cX6_refusalOfPaint 76 = .ok (.ifCond .ne 7, 3) := by decide +kernel
theorem dX6_refusalOfPaint_79 : decode cX6_refusalOfPaint 79 = .ok (.iconst 0, 1) := by decide +kernel
theorem dX6_refusalOfPaint_80 : decode cX6_refusalOfPaint 80 = .ok (.goto 5, 3) := by decide +kernel
theorem dX6_refusalOfPaint_83 : decode cX6_refusalOfPaint 83 = .ok (.bipush (-3), 2) := by decide +kernel
theorem dX6_refusalOfPaint_85 : decode cX6_refusalOfPaint 85 = .ok (.ireturn, 1) := by decide +kernel
theorem dX6_refusalOfPin_0 : decode cX6_refusalOfPin 0 = .ok (.aload_n 0, 1) := by decide +kernel
theorem dX6_refusalOfPin_1 : decode cX6_refusalOfPin 1 = .ok (.iload_n 1, 1) := by decide +kernel
theorem dX6_refusalOfPin_2 : decode cX6_refusalOfPin 2 = .ok (.invokevirtual 100, 3) := by decide +kernel
theorem dX6_refusalOfPin_5 : decode cX6_refusalOfPin 5 = .ok (.ifCond .ne 5, 3) := by decide +kernel
theorem dX6_refusalOfPin_8 : decode cX6_refusalOfPin 8 = .ok (.iconst (-1), 1) := by decide +kernel
theorem dX6_refusalOfPin_9 : decode cX6_refusalOfPin 9 = .ok (.ireturn, 1) := by decide +kernel
theorem dX6_refusalOfPin_10 : decode cX6_refusalOfPin 10 = .ok (.aload_n 0, 1) := by decide +kernel
theorem dX6_refusalOfPin_11 : decode cX6_refusalOfPin 11 = .ok (.iload_n 2, 1) := by decide +kernel
theorem dX6_refusalOfPin_12 : decode cX6_refusalOfPin 12 = .ok (.invokevirtual 276, 3) := by decide +kernel
theorem dX6_refusalOfPin_15 : decode cX6_refusalOfPin 15 = .ok (.ifCond .ne 9, 3) := by decide +kernel
theorem dX6_refusalOfPin_18 : decode cX6_refusalOfPin 18 = .ok (.iload_n 2, 1) := by decide +kernel
theorem dX6_refusalOfPin_19 : decode cX6_refusalOfPin 19 = .ok (.bipush 9, 2) := by decide +kernel
theorem dX6_refusalOfPin_21 : decode cX6_refusalOfPin 21 = .ok (.if_icmp .ne 7, 3) := by decide +kernel
theorem dX6_refusalOfPin_24 : decode cX6_refusalOfPin 24 = .ok (.iconst 0, 1) := by decide +kernel
theorem dX6_refusalOfPin_25 : decode cX6_refusalOfPin 25 = .ok (.goto 5, 3) := by decide +kernel
theorem dX6_refusalOfPin_28 : decode cX6_refusalOfPin 28 = .ok (.bipush (-2), 2) := by decide +kernel
theorem dX6_refusalOfPin_30 : decode cX6_refusalOfPin 30 = .ok (.ireturn, 1) := by decide +kernel
theorem dX6_reachable_0 : decode cX6_reachable 0 = .ok (.iload_n 0, 1) := by decide +kernel
theorem dX6_reachable_1 : decode cX6_reachable 1 = .ok (.iconst 1, 1) := by decide +kernel
theorem dX6_reachable_2 : decode cX6_reachable 2 = .ok (.if_icmp .lt 13, 3) := by decide +kernel
theorem dX6_reachable_5 : decode cX6_reachable 5 = .ok (.iload_n 0, 1) := by decide +kernel
theorem dX6_reachable_6 : decode cX6_reachable 6 = .ok (.bipush 10, 2) := by decide +kernel
theorem dX6_reachable_8 : decode cX6_reachable 8 = .ok (.if_icmp .gt 7, 3) := by decide +kernel
theorem dX6_reachable_11 : decode cX6_reachable 11 = .ok (.iconst 1, 1) := by decide +kernel
theorem dX6_reachable_12 : decode cX6_reachable 12 = .ok (.goto 4, 3) := by decide +kernel
theorem dX6_reachable_15 : decode cX6_reachable 15 = .ok (.iconst 0, 1) := by decide +kernel
theorem dX6_reachable_16 : decode cX6_reachable 16 = .ok (.ireturn, 1) := by decide +kernel
theorem dX6_factor_0 : decode cX6_factor 0 = .ok (.iload_n 0, 1) := by decide +kernel
theorem dX6_factor_1 : decode cX6_factor 1 = .ok (.bipush (-4), 2) := by decide +kernel
theorem dX6_factor_3 : decode cX6_factor 3 = .ok (.if_icmp .lt 16, 3) := by decide +kernel
theorem dX6_factor_6 : decode cX6_factor 6 = .ok (.iload_n 0, 1) := by decide +kernel
theorem dX6_factor_7 : decode cX6_factor 7 = .ok (.iconst 4, 1) := by decide +kernel
theorem dX6_factor_8 : decode cX6_factor 8 = .ok (.if_icmp .gt 11, 3) := by decide +kernel
theorem dX6_factor_11 : decode cX6_factor 11 = .ok (.iload_n 0, 1) := by decide +kernel
theorem dX6_factor_12 : decode cX6_factor 12 = .ok (.ifCond .eq 7, 3) := by decide +kernel
theorem dX6_factor_15 : decode cX6_factor 15 = .ok (.iconst 1, 1) := by decide +kernel
theorem dX6_factor_16 : decode cX6_factor 16 = .ok (.goto 4, 3) := by decide +kernel
theorem dX6_factor_19 : decode cX6_factor 19 = .ok (.iconst 0, 1) := by decide +kernel
theorem dX6_factor_20 : decode cX6_factor 20 = .ok (.ireturn, 1) := by decide +kernel
theorem dX6_limit_0 : decode cX6_limit 0 = .ok (.aload_n 0, 1) := by decide +kernel
theorem dX6_limit_1 : decode cX6_limit 1 = .ok (.getfield 29, 3) := by decide +kernel
theorem dX6_limit_4 : decode cX6_limit 4 = .ok (.aload_n 1, 1) := by decide +kernel
theorem dX6_limit_5 : decode cX6_limit 5 = .ok (.invokevirtual 69, 3) := by decide +kernel
theorem dX6_limit_8 : decode cX6_limit 8 = .ok (.aload_n 0, 1) := by decide +kernel
theorem dX6_limit_9 : decode cX6_limit 9 = .ok (.getfield 29, 3) := by decide +kernel
theorem dX6_limit_12 : decode cX6_limit 12 = .ok (.invokevirtual 283, 3) := by decide +kernel
theorem dX6_limit_15 : decode cX6_limit 15 = .ok (.aload_n 0, 1) := by decide +kernel
theorem dX6_limit_16 : decode cX6_limit 16 = .ok (.getfield 29, 3) := by decide +kernel
theorem dX6_limit_19 : decode cX6_limit 19 = .ok (.bipush 10, 2) := by decide +kernel
theorem dX6_limit_21 : decode cX6_limit 21 = .ok (.invokevirtual 157, 3) := by decide +kernel
theorem dX6_limit_24 : decode cX6_limit 24 = .ok (.aload_n 0, 1) := by decide +kernel
theorem dX6_limit_25 : decode cX6_limit 25 = .ok (.getfield 46, 3) := by decide +kernel
theorem dX6_limit_28 : decode cX6_limit 28 = .ok (.aload_n 0, 1) := by decide +kernel
theorem dX6_limit_29 : decode cX6_limit 29 = .ok (.getfield 29, 3) := by decide +kernel
theorem dX6_limit_32 : decode cX6_limit 32 = .ok (.iconst 0, 1) := by decide +kernel
theorem dX6_limit_33 : decode cX6_limit 33 = .ok (.invokevirtual 113, 3) := by decide +kernel
theorem dX6_limit_36 : decode cX6_limit 36 = .ok (.aload_n 0, 1) := by decide +kernel
theorem dX6_limit_37 : decode cX6_limit 37 = .ok (.getfield 46, 3) := by decide +kernel
theorem dX6_limit_40 : decode cX6_limit 40 = .ok (.getfield 286, 3) := by decide +kernel
theorem dX6_limit_43 : decode cX6_limit 43 = .ok (.bipush 10, 2) := by decide +kernel
theorem dX6_limit_45 : decode cX6_limit 45 = .ok (.if_icmp .ge 15, 3) := by decide +kernel
theorem dX6_limit_48 : decode cX6_limit 48 = .ok (.aload_n 0, 1) := by decide +kernel
theorem dX6_limit_49 : decode cX6_limit 49 = .ok (.getfield 46, 3) := by decide +kernel
theorem dX6_limit_52 : decode cX6_limit 52 = .ok (.getfield 286, 3) := by decide +kernel
theorem dX6_limit_55 : decode cX6_limit 55 = .ok (.iconst 1, 1) := by decide +kernel
theorem dX6_limit_56 : decode cX6_limit 56 = .ok (.iadd, 1) := by decide +kernel
theorem dX6_limit_57 : decode cX6_limit 57 = .ok (.goto 5, 3) := by decide +kernel
theorem dX6_limit_60 : decode cX6_limit 60 = .ok (.bipush (-9), 2) := by decide +kernel
theorem dX6_limit_62 : decode cX6_limit 62 = .ok (.ireturn, 1) := by decide +kernel
theorem dX6_forcedNumbers_0 : decode cX6_forcedNumbers 0 = .ok (.aload_n 0, 1) := by decide +kernel
theorem dX6_forcedNumbers_1 : decode cX6_forcedNumbers 1 = .ok (.getfield 46, 3) := by decide +kernel
theorem dX6_forcedNumbers_4 : decode cX6_forcedNumbers 4 = .ok (.aload_n 0, 1) := by decide +kernel
theorem dX6_forcedNumbers_5 : decode cX6_forcedNumbers 5 = .ok (.getfield 19, 3) := by decide +kernel
theorem dX6_forcedNumbers_8 : decode cX6_forcedNumbers 8 = .ok (.iconst 0, 1) := by decide +kernel
theorem dX6_forcedNumbers_9 : decode cX6_forcedNumbers 9 = .ok (.invokevirtual 113, 3) := by decide +kernel
theorem dX6_forcedNumbers_12 : decode cX6_forcedNumbers 12 = .ok (.iconst 0, 1) := by decide +kernel
theorem dX6_forcedNumbers_13 : decode cX6_forcedNumbers 13 = .ok (.istore_n 1, 1) := by decide +kernel
theorem dX6_forcedNumbers_14 : decode cX6_forcedNumbers 14 = .ok (.iconst 1, 1) := by decide +kernel
theorem dX6_forcedNumbers_15 : decode cX6_forcedNumbers 15 = .ok (.istore_n 2, 1) := by decide +kernel
theorem dX6_forcedNumbers_16 : decode cX6_forcedNumbers 16 = .ok (.iload_n 2, 1) := by decide +kernel
theorem dX6_forcedNumbers_17 : decode cX6_forcedNumbers 17 = .ok (.aload_n 0, 1) := by decide +kernel
theorem dX6_forcedNumbers_18 : decode cX6_forcedNumbers 18 = .ok (.getfield 19, 3) := by decide +kernel
theorem dX6_forcedNumbers_21 : decode cX6_forcedNumbers 21 = .ok (.getfield 141, 3) := by decide +kernel
theorem dX6_forcedNumbers_24 : decode cX6_forcedNumbers 24 = .ok (.if_icmp .gt 26, 3) := by decide +kernel
theorem dX6_forcedNumbers_27 : decode cX6_forcedNumbers 27 = .ok (.aload_n 0, 1) := by decide +kernel
theorem dX6_forcedNumbers_28 : decode cX6_forcedNumbers 28 = .ok (.getfield 46, 3) := by decide +kernel
theorem dX6_forcedNumbers_31 : decode cX6_forcedNumbers 31 = .ok (.iload_n 2, 1) := by decide +kernel
theorem dX6_forcedNumbers_32 : decode cX6_forcedNumbers 32 = .ok (.invokevirtual 120, 3) := by decide +kernel
theorem dX6_forcedNumbers_35 : decode cX6_forcedNumbers 35 = .ok (.ifCond .eq 9, 3) := by decide +kernel
theorem dX6_forcedNumbers_38 : decode cX6_forcedNumbers 38 = .ok (.iload_n 1, 1) := by decide +kernel
theorem dX6_forcedNumbers_39 : decode cX6_forcedNumbers 39 = .ok (.iconst 1, 1) := by decide +kernel
theorem dX6_forcedNumbers_40 : decode cX6_forcedNumbers 40 = .ok (.iload_n 2, 1) := by decide +kernel
theorem dX6_forcedNumbers_41 : decode cX6_forcedNumbers 41 = .ok (.ishl, 1) := by decide +kernel
theorem dX6_forcedNumbers_42 : decode cX6_forcedNumbers 42 = .ok (.ior, 1) := by decide +kernel
theorem dX6_forcedNumbers_43 : decode cX6_forcedNumbers 43 = .ok (.istore_n 1, 1) := by decide +kernel
theorem dX6_forcedNumbers_44 : decode cX6_forcedNumbers 44 = .ok (.iinc 2 1, 3) := by decide +kernel
theorem dX6_forcedNumbers_47 : decode cX6_forcedNumbers 47 = .ok (.goto (-31), 3) := by decide +kernel
theorem dX6_forcedNumbers_50 : decode cX6_forcedNumbers 50 = .ok (.iload_n 1, 1) := by decide +kernel
theorem dX6_forcedNumbers_51 : decode cX6_forcedNumbers 51 = .ok (.ireturn, 1) := by decide +kernel
theorem dX6_paintable_0 : decode cX6_paintable 0 = .ok (.iconst 0, 1) := by decide +kernel
theorem dX6_paintable_1 : decode cX6_paintable 1 = .ok (.istore_n 1, 1) := by decide +kernel
theorem dX6_paintable_2 : decode cX6_paintable 2 = .ok (.iconst 1, 1) := by decide +kernel
theorem dX6_paintable_3 : decode cX6_paintable 3 = .ok (.istore_n 2, 1) := by decide +kernel
theorem dX6_paintable_4 : decode cX6_paintable 4 = .ok (.iload_n 2, 1) := by decide +kernel
theorem dX6_paintable_5 : decode cX6_paintable 5 = .ok (.aload_n 0, 1) := by decide +kernel
theorem dX6_paintable_6 : decode cX6_paintable 6 = .ok (.getfield 19, 3) := by decide +kernel
theorem dX6_paintable_9 : decode cX6_paintable 9 = .ok (.getfield 141, 3) := by decide +kernel
theorem dX6_paintable_12 : decode cX6_paintable 12 = .ok (.if_icmp .gt 44, 3) := by decide +kernel
theorem dX6_paintable_15 : decode cX6_paintable 15 = .ok (.iconst 0, 1) := by decide +kernel
theorem dX6_paintable_16 : decode cX6_paintable 16 = .ok (.istore_n 3, 1) := by decide +kernel
theorem dX6_paintable_17 : decode cX6_paintable 17 = .ok (.iload_n 3, 1) := by decide +kernel
theorem dX6_paintable_18 : decode cX6_paintable 18 = .ok (.aload_n 0, 1) := by decide +kernel
theorem dX6_paintable_19 : decode cX6_paintable 19 = .ok (.getfield 19, 3) := by decide +kernel
theorem dX6_paintable_22 : decode cX6_paintable 22 = .ok (.getfield 202, 3) := by decide +kernel
theorem dX6_paintable_25 : decode cX6_paintable 25 = .ok (.if_icmp .ge 25, 3) := by decide +kernel
theorem dX6_paintable_28 : decode cX6_paintable 28 = .ok (.aload_n 0, 1) := by decide +kernel
theorem dX6_paintable_29 : decode cX6_paintable 29 = .ok (.aload_n 0, 1) := by decide +kernel
theorem dX6_paintable_30 : decode cX6_paintable 30 = .ok (.getfield 19, 3) := by decide +kernel
theorem dX6_paintable_33 : decode cX6_paintable 33 = .ok (.iload_n 2, 1) := by decide +kernel
theorem dX6_paintable_34 : decode cX6_paintable 34 = .ok (.iload_n 3, 1) := by decide +kernel
theorem dX6_paintable_35 : decode cX6_paintable 35 = .ok (.invokevirtual 144, 3) := by decide +kernel
theorem dX6_paintable_38 : decode cX6_paintable 38 = .ok (.ifCond .ne 6, 3) := by decide +kernel
theorem dX6_paintable_41 : decode cX6_paintable 41 = .ok (.iinc 1 1, 3) := by decide +kernel
theorem dX6_paintable_44 : decode cX6_paintable 44 = .ok (.iinc 3 1, 3) := by decide +kernel
theorem dX6_paintable_47 : decode cX6_paintable 47 = .ok (.goto (-30), 3) := by decide +kernel
theorem dX6_paintable_50 : decode cX6_paintable 50 = .ok (.iinc 2 1, 3) := by decide +kernel
theorem dX6_paintable_53 : decode cX6_paintable 53 = .ok (.goto (-49), 3) := by decide +kernel
theorem dX6_paintable_56 : decode cX6_paintable 56 = .ok (.iload_n 1, 1) := by decide +kernel
theorem dX6_paintable_57 : decode cX6_paintable 57 = .ok (.ireturn, 1) := by decide +kernel
theorem dX6_cutDoings_0 : decode cX6_cutDoings 0 = .ok (.lload_n 0, 1) := by decide +kernel
theorem dX6_cutDoings_1 : decode cX6_cutDoings 1 = .ok (.lstore_n 3, 1) := by decide +kernel
theorem dX6_cutDoings_2 : decode cX6_cutDoings 2 = .ok (.iconst 0, 1) := by decide +kernel
theorem dX6_cutDoings_3 : decode cX6_cutDoings 3 = .ok (.istore 5, 2) := by decide +kernel
theorem dX6_cutDoings_5 : decode cX6_cutDoings 5 = .ok (.iload 5, 2) := by decide +kernel
theorem dX6_cutDoings_7 : decode cX6_cutDoings 7 = .ok (.iload_n 2, 1) := by decide +kernel
theorem dX6_cutDoings_8 : decode cX6_cutDoings 8 = .ok (.if_icmp .ge 15, 3) := by decide +kernel
theorem dX6_cutDoings_11 : decode cX6_cutDoings 11 = .ok (.lload_n 3, 1) := by decide +kernel
theorem dX6_cutDoings_12 : decode cX6_cutDoings 12 = .ok (.ldc2_w 221, 3) := by decide +kernel
theorem dX6_cutDoings_15 : decode cX6_cutDoings 15 = .ok (.ldiv, 1) := by decide +kernel
theorem dX6_cutDoings_16 : decode cX6_cutDoings 16 = .ok (.lstore_n 3, 1) := by decide +kernel
theorem dX6_cutDoings_17 : decode cX6_cutDoings 17 = .ok (.iinc 5 1, 3) := by decide +kernel
theorem dX6_cutDoings_20 : decode cX6_cutDoings 20 = .ok (.goto (-15), 3) := by decide +kernel
theorem dX6_cutDoings_23 : decode cX6_cutDoings 23 = .ok (.lload_n 3, 1) := by decide +kernel
theorem dX6_cutDoings_24 : decode cX6_cutDoings 24 = .ok (.lreturn, 1) := by decide +kernel
theorem dX6_stands_0 : decode cX6_stands 0 = .ok (.iload_n 1, 1) := by decide +kernel
theorem dX6_stands_1 : decode cX6_stands 1 = .ok (.sipush 1000, 3) := by decide +kernel
theorem dX6_stands_4 : decode cX6_stands 4 = .ok (.irem, 1) := by decide +kernel
theorem dX6_stands_5 : decode cX6_stands 5 = .ok (.istore_n 2, 1) := by decide +kernel
theorem dX6_stands_6 : decode cX6_stands 6 = .ok (.iload_n 2, 1) := by decide +kernel
theorem dX6_stands_7 : decode cX6_stands 7 = .ok (.bipush 10, 2) := by decide +kernel
theorem dX6_stands_9 : decode cX6_stands 9 = .ok (.idiv, 1) := by decide +kernel
theorem dX6_stands_10 : decode cX6_stands 10 = .ok (.istore_n 3, 1) := by decide +kernel
theorem dX6_stands_11 : decode cX6_stands 11 = .ok (.iload_n 2, 1) := by decide +kernel
theorem dX6_stands_12 : decode cX6_stands 12 = .ok (.bipush 10, 2) := by decide +kernel
theorem dX6_stands_14 : decode cX6_stands 14 = .ok (.irem, 1) := by decide +kernel
theorem dX6_stands_15 : decode cX6_stands 15 = .ok (.istore 4, 2) := by decide +kernel
theorem dX6_stands_17 : decode cX6_stands 17 = .ok (.iload_n 1, 1) := by decide +kernel
theorem dX6_stands_18 : decode cX6_stands 18 = .ok (.sipush 1000, 3) := by decide +kernel
theorem dX6_stands_21 : decode cX6_stands 21 = .ok (.idiv, 1) := by decide +kernel
theorem dX6_stands_22 : decode cX6_stands 22 = .ok (.tableswitch 251 1 7 #[42, 70, 106, 134, 163, 196, 224], 42) := by decide +kernel
theorem dX6_stands_64 : decode cX6_stands 64 = .ok (.aload_n 0, 1) := by decide +kernel
theorem dX6_stands_65 : decode cX6_stands 65 = .ok (.aload_n 0, 1) := by decide +kernel
theorem dX6_stands_66 : decode cX6_stands 66 = .ok (.getfield 26, 3) := by decide +kernel
theorem dX6_stands_69 : decode cX6_stands 69 = .ok (.iload_n 3, 1) := by decide +kernel
theorem dX6_stands_70 : decode cX6_stands 70 = .ok (.iload 4, 2) := by decide +kernel
theorem dX6_stands_72 : decode cX6_stands 72 = .ok (.invokevirtual 144, 3) := by decide +kernel
theorem dX6_stands_75 : decode cX6_stands 75 = .ok (.ifCond .eq 5, 3) := by decide +kernel
theorem dX6_stands_78 : decode cX6_stands 78 = .ok (.iconst 0, 1) := by decide +kernel
theorem dX6_stands_79 : decode cX6_stands 79 = .ok (.ireturn, 1) := by decide +kernel
theorem dX6_stands_80 : decode cX6_stands 80 = .ok (.aload_n 0, 1) := by decide +kernel
theorem dX6_stands_81 : decode cX6_stands 81 = .ok (.getfield 26, 3) := by decide +kernel
theorem dX6_stands_84 : decode cX6_stands 84 = .ok (.iload_n 3, 1) := by decide +kernel
theorem dX6_stands_85 : decode cX6_stands 85 = .ok (.iload 4, 2) := by decide +kernel
theorem dX6_stands_87 : decode cX6_stands 87 = .ok (.invokevirtual 148, 3) := by decide +kernel
theorem dX6_stands_90 : decode cX6_stands 90 = .ok (.iconst 1, 1) := by decide +kernel
theorem dX6_stands_91 : decode cX6_stands 91 = .ok (.ireturn, 1) := by decide +kernel
theorem dX6_stands_92 : decode cX6_stands 92 = .ok (.aload_n 0, 1) := by decide +kernel
theorem dX6_stands_93 : decode cX6_stands 93 = .ok (.getfield 26, 3) := by decide +kernel
theorem dX6_stands_96 : decode cX6_stands 96 = .ok (.iload_n 3, 1) := by decide +kernel
theorem dX6_stands_97 : decode cX6_stands 97 = .ok (.iload 4, 2) := by decide +kernel
theorem dX6_stands_99 : decode cX6_stands 99 = .ok (.invokestatic 170, 3) := by decide +kernel
theorem dX6_stands_102 : decode cX6_stands 102 = .ok (.ifCond .eq 5, 3) := by decide +kernel
theorem dX6_stands_105 : decode cX6_stands 105 = .ok (.iconst 0, 1) := by decide +kernel
theorem dX6_stands_106 : decode cX6_stands 106 = .ok (.ireturn, 1) := by decide +kernel
theorem dX6_stands_107 : decode cX6_stands 107 = .ok (.aload_n 0, 1) := by decide +kernel
theorem dX6_stands_108 : decode cX6_stands 108 = .ok (.getfield 26, 3) := by decide +kernel
theorem dX6_stands_111 : decode cX6_stands 111 = .ok (.iload_n 3, 1) := by decide +kernel
theorem dX6_stands_112 : decode cX6_stands 112 = .ok (.iload 4, 2) := by decide +kernel
theorem dX6_stands_114 : decode cX6_stands 114 = .ok (.invokevirtual 173, 3) := by decide +kernel
theorem dX6_stands_117 : decode cX6_stands 117 = .ok (.aload_n 0, 1) := by decide +kernel
theorem dX6_stands_118 : decode cX6_stands 118 = .ok (.aload_n 0, 1) := by decide +kernel
theorem dX6_stands_119 : decode cX6_stands 119 = .ok (.getfield 26, 3) := by decide +kernel
theorem dX6_stands_122 : decode cX6_stands 122 = .ok (.invokevirtual 54, 3) := by decide +kernel
theorem dX6_stands_125 : decode cX6_stands 125 = .ok (.pop, 1) := by decide +kernel
theorem dX6_stands_126 : decode cX6_stands 126 = .ok (.iconst 1, 1) := by decide +kernel
theorem dX6_stands_127 : decode cX6_stands 127 = .ok (.ireturn, 1) := by decide +kernel
theorem dX6_stands_128 : decode cX6_stands 128 = .ok (.iload_n 2, 1) := by decide +kernel
theorem dX6_stands_129 : decode cX6_stands 129 = .ok (.invokestatic 154, 3) := by decide +kernel
theorem dX6_stands_132 : decode cX6_stands 132 = .ok (.ifCond .ne 5, 3) := by decide +kernel
theorem dX6_stands_135 : decode cX6_stands 135 = .ok (.iconst 0, 1) := by decide +kernel
theorem dX6_stands_136 : decode cX6_stands 136 = .ok (.ireturn, 1) := by decide +kernel
theorem dX6_stands_137 : decode cX6_stands 137 = .ok (.aload_n 0, 1) := by decide +kernel
theorem dX6_stands_138 : decode cX6_stands 138 = .ok (.getfield 26, 3) := by decide +kernel
theorem dX6_stands_141 : decode cX6_stands 141 = .ok (.iload_n 2, 1) := by decide +kernel
theorem dX6_stands_142 : decode cX6_stands 142 = .ok (.invokevirtual 157, 3) := by decide +kernel
theorem dX6_stands_145 : decode cX6_stands 145 = .ok (.aload_n 0, 1) := by decide +kernel
theorem dX6_stands_146 : decode cX6_stands 146 = .ok (.aload_n 0, 1) := by decide +kernel
theorem dX6_stands_147 : decode cX6_stands 147 = .ok (.getfield 26, 3) := by decide +kernel
theorem dX6_stands_150 : decode cX6_stands 150 = .ok (.invokevirtual 54, 3) := by decide +kernel
theorem dX6_stands_153 : decode cX6_stands 153 = .ok (.pop, 1) := by decide +kernel
theorem dX6_stands_154 : decode cX6_stands 154 = .ok (.iconst 1, 1) := by decide +kernel
theorem dX6_stands_155 : decode cX6_stands 155 = .ok (.ireturn, 1) := by decide +kernel
theorem dX6_stands_156 : decode cX6_stands 156 = .ok (.aload_n 0, 1) := by decide +kernel
theorem dX6_stands_157 : decode cX6_stands 157 = .ok (.getfield 46, 3) := by decide +kernel
theorem dX6_stands_160 : decode cX6_stands 160 = .ok (.aload_n 0, 1) := by decide +kernel
theorem dX6_stands_161 : decode cX6_stands 161 = .ok (.getfield 26, 3) := by decide +kernel
theorem dX6_stands_164 : decode cX6_stands 164 = .ok (.iconst 0, 1) := by decide +kernel
theorem dX6_stands_165 : decode cX6_stands 165 = .ok (.invokevirtual 113, 3) := by decide +kernel
theorem dX6_stands_168 : decode cX6_stands 168 = .ok (.aload_n 0, 1) := by decide +kernel
theorem dX6_stands_169 : decode cX6_stands 169 = .ok (.getfield 46, 3) := by decide +kernel
theorem dX6_stands_172 : decode cX6_stands 172 = .ok (.getfield 123, 3) := by decide +kernel
theorem dX6_stands_175 : decode cX6_stands 175 = .ok (.iload_n 2, 1) := by decide +kernel
theorem dX6_stands_176 : decode cX6_stands 176 = .ok (.if_icmp .ne 7, 3) := by decide +kernel
theorem dX6_stands_179 : decode cX6_stands 179 = .ok (.iconst 1, 1) := by decide +kernel
theorem dX6_stands_180 : decode cX6_stands 180 = .ok (.goto 4, 3) := by decide +kernel
theorem dX6_stands_183 : decode cX6_stands 183 = .ok (.iconst 0, 1) := by decide +kernel
theorem dX6_stands_184 : decode cX6_stands 184 = .ok (.ireturn, 1) := by decide +kernel
theorem dX6_stands_185 : decode cX6_stands 185 = .ok (.aload_n 0, 1) := by decide +kernel
theorem dX6_stands_186 : decode cX6_stands 186 = .ok (.getfield 46, 3) := by decide +kernel
theorem dX6_stands_189 : decode cX6_stands 189 = .ok (.aload_n 0, 1) := by decide +kernel
theorem dX6_stands_190 : decode cX6_stands 190 = .ok (.getfield 26, 3) := by decide +kernel
theorem dX6_stands_193 : decode cX6_stands 193 = .ok (.iconst 0, 1) := by decide +kernel
theorem dX6_stands_194 : decode cX6_stands 194 = .ok (.invokevirtual 113, 3) := by decide +kernel
theorem dX6_stands_197 : decode cX6_stands 197 = .ok (.aload_n 0, 1) := by decide +kernel
theorem dX6_stands_198 : decode cX6_stands 198 = .ok (.getfield 46, 3) := by decide +kernel
theorem dX6_stands_201 : decode cX6_stands 201 = .ok (.iload_n 3, 1) := by decide +kernel
theorem dX6_stands_202 : decode cX6_stands 202 = .ok (.invokevirtual 117, 3) := by decide +kernel
theorem dX6_stands_205 : decode cX6_stands 205 = .ok (.iconst 1, 1) := by decide +kernel
theorem dX6_stands_206 : decode cX6_stands 206 = .ok (.iload 4, 2) := by decide +kernel
theorem dX6_stands_208 : decode cX6_stands 208 = .ok (.ishl, 1) := by decide +kernel
theorem dX6_stands_209 : decode cX6_stands 209 = .ok (.if_icmp .ne 7, 3) := by decide +kernel
theorem dX6_stands_212 : decode cX6_stands 212 = .ok (.iconst 1, 1) := by decide +kernel
theorem dX6_stands_213 : decode cX6_stands 213 = .ok (.goto 4, 3) := by decide +kernel
theorem dX6_stands_216 : decode cX6_stands 216 = .ok (.iconst 0, 1) := by decide +kernel
theorem dX6_stands_217 : decode cX6_stands 217 = .ok (.ireturn, 1) := by decide +kernel
theorem dX6_stands_218 : decode cX6_stands 218 = .ok (.aload_n 0, 1) := by decide +kernel
theorem dX6_stands_219 : decode cX6_stands 219 = .ok (.getfield 26, 3) := by decide +kernel
theorem dX6_stands_222 : decode cX6_stands 222 = .ok (.iload_n 2, 1) := by decide +kernel
theorem dX6_stands_223 : decode cX6_stands 223 = .ok (.invokevirtual 83, 3) := by decide +kernel
theorem dX6_stands_226 : decode cX6_stands 226 = .ok (.ifCond .eq 18, 3) := by decide +kernel
theorem dX6_stands_229 : decode cX6_stands 229 = .ok (.aload_n 0, 1) := by decide +kernel
theorem dX6_stands_230 : decode cX6_stands 230 = .ok (.getfield 26, 3) := by decide +kernel
theorem dX6_stands_233 : decode cX6_stands 233 = .ok (.iload_n 2, 1) := by decide +kernel
theorem dX6_stands_234 : decode cX6_stands 234 = .ok (.invokevirtual 90, 3) := by decide +kernel
theorem dX6_stands_237 : decode cX6_stands 237 = .ok (.ifCond .eq 7, 3) := by decide +kernel
theorem dX6_stands_240 : decode cX6_stands 240 = .ok (.iconst 1, 1) := by decide +kernel
theorem dX6_stands_241 : decode cX6_stands 241 = .ok (.goto 4, 3) := by decide +kernel
theorem dX6_stands_244 : decode cX6_stands 244 = .ok (.iconst 0, 1) := by decide +kernel
theorem dX6_stands_245 : decode cX6_stands 245 = .ok (.ireturn, 1) := by decide +kernel
theorem dX6_stands_246 : decode cX6_stands 246 = .ok (.aload_n 0, 1) := by decide +kernel
theorem dX6_stands_247 : decode cX6_stands 247 = .ok (.aload_n 0, 1) := by decide +kernel
theorem dX6_stands_248 : decode cX6_stands 248 = .ok (.getfield 26, 3) := by decide +kernel
theorem dX6_stands_251 : decode cX6_stands 251 = .ok (.invokevirtual 183, 3) := by decide +kernel
theorem dX6_stands_254 : decode cX6_stands 254 = .ok (.iload_n 2, 1) := by decide +kernel
theorem dX6_stands_255 : decode cX6_stands 255 = .ok (.ifCond .ne 8, 3) := by decide +kernel
theorem dX6_stands_258 : decode cX6_stands 258 = .ok (.bipush (-9), 2) := by decide +kernel
theorem dX6_stands_260 : decode cX6_stands 260 = .ok (.goto 4, 3) := by decide +kernel
theorem dX6_stands_263 : decode cX6_stands 263 = .ok (.iload_n 2, 1) := by decide +kernel
theorem dX6_stands_264 : decode cX6_stands 264 = .ok (.if_icmp .ne 7, 3) := by decide +kernel
theorem dX6_stands_267 : decode cX6_stands 267 = .ok (.iconst 1, 1) := by decide +kernel
theorem dX6_stands_268 : decode cX6_stands 268 = .ok (.goto 4, 3) := by decide +kernel
theorem dX6_stands_271 : decode cX6_stands 271 = .ok (.iconst 0, 1) := by decide +kernel
theorem dX6_stands_272 : decode cX6_stands 272 = .ok (.ireturn, 1) := by decide +kernel
theorem dX6_stands_273 : decode cX6_stands 273 = .ok (.iconst 0, 1) := by decide +kernel
theorem dX6_stands_274 : decode cX6_stands 274 = .ok (.ireturn, 1) := by decide +kernel
theorem dX6_drawAll_0 : decode cX6_drawAll 0 = .ok (.aload_n 0, 1) := by decide +kernel
theorem dX6_drawAll_1 : decode cX6_drawAll 1 = .ok (.getfield 46, 3) := by decide +kernel
theorem dX6_drawAll_4 : decode cX6_drawAll 4 = .ok (.aload_n 0, 1) := by decide +kernel
theorem dX6_drawAll_5 : decode cX6_drawAll 5 = .ok (.getfield 19, 3) := by decide +kernel
theorem dX6_drawAll_8 : decode cX6_drawAll 8 = .ok (.invokevirtual 199, 3) := by decide +kernel
theorem dX6_drawAll_11 : decode cX6_drawAll 11 = .ok (.iconst 1, 1) := by decide +kernel
theorem dX6_drawAll_12 : decode cX6_drawAll 12 = .ok (.istore_n 1, 1) := by decide +kernel
theorem dX6_drawAll_13 : decode cX6_drawAll 13 = .ok (.iload_n 1, 1) := by decide +kernel
theorem dX6_drawAll_14 : decode cX6_drawAll 14 = .ok (.aload_n 0, 1) := by decide +kernel
theorem dX6_drawAll_15 : decode cX6_drawAll 15 = .ok (.getfield 19, 3) := by decide +kernel
theorem dX6_drawAll_18 : decode cX6_drawAll 18 = .ok (.getfield 141, 3) := by decide +kernel
theorem dX6_drawAll_21 : decode cX6_drawAll 21 = .ok (.if_icmp .gt 21, 3) := by decide +kernel
theorem dX6_drawAll_24 : decode cX6_drawAll 24 = .ok (.aload_n 0, 1) := by decide +kernel
theorem dX6_drawAll_25 : decode cX6_drawAll 25 = .ok (.iload_n 1, 1) := by decide +kernel
theorem dX6_drawAll_26 : decode cX6_drawAll 26 = .ok (.invokevirtual 289, 3) := by decide +kernel
theorem dX6_drawAll_29 : decode cX6_drawAll 29 = .ok (.ifCond .ne 7, 3) := by decide +kernel
theorem dX6_drawAll_32 : decode cX6_drawAll 32 = .ok (.iload_n 1, 1) := by decide +kernel
theorem dX6_drawAll_33 : decode cX6_drawAll 33 = .ok (.iconst 1, 1) := by decide +kernel
theorem dX6_drawAll_34 : decode cX6_drawAll 34 = .ok (.isub, 1) := by decide +kernel
theorem dX6_drawAll_35 : decode cX6_drawAll 35 = .ok (.ireturn, 1) := by decide +kernel
theorem dX6_drawAll_36 : decode cX6_drawAll 36 = .ok (.iinc 1 1, 3) := by decide +kernel
theorem dX6_drawAll_39 : decode cX6_drawAll 39 = .ok (.goto (-26), 3) := by decide +kernel
theorem dX6_drawAll_42 : decode cX6_drawAll 42 = .ok (.aload_n 0, 1) := by decide +kernel
theorem dX6_drawAll_43 : decode cX6_drawAll 43 = .ok (.getfield 19, 3) := by decide +kernel
theorem dX6_drawAll_46 : decode cX6_drawAll 46 = .ok (.getfield 141, 3) := by decide +kernel
theorem dX6_drawAll_49 : decode cX6_drawAll 49 = .ok (.ireturn, 1) := by decide +kernel
theorem dX6_draw_0 : decode cX6_draw 0 = .ok (.aload_n 0, 1) := by decide +kernel
theorem dX6_draw_1 : decode cX6_draw 1 = .ok (.aload_n 0, 1) := by decide +kernel
theorem dX6_draw_2 : decode cX6_draw 2 = .ok (.getfield 266, 3) := by decide +kernel
theorem dX6_draw_5 : decode cX6_draw 5 = .ok (.ldc2_w 292, 3) := by decide +kernel
theorem dX6_draw_8 : decode cX6_draw 8 = .ok (.lmul, 1) := by decide +kernel
theorem dX6_draw_9 : decode cX6_draw 9 = .ok (.ldc2_w 294, 3) := by decide +kernel
theorem dX6_draw_12 : decode cX6_draw 12 = .ok (.ladd, 1) := by decide +kernel
theorem dX6_draw_13 : decode cX6_draw 13 = .ok (.putfield 266, 3) := by decide +kernel
theorem dX6_draw_16 : decode cX6_draw 16 = .ok (.aload_n 0, 1) := by decide +kernel
theorem dX6_draw_17 : decode cX6_draw 17 = .ok (.getfield 266, 3) := by decide +kernel
theorem dX6_draw_20 : decode cX6_draw 20 = .ok (.bipush 33, 2) := by decide +kernel
theorem dX6_draw_22 : decode cX6_draw 22 = .ok (.lushr, 1) := by decide +kernel
theorem dX6_draw_23 : decode cX6_draw 23 = .ok (.l2i, 1) := by decide +kernel
theorem dX6_draw_24 : decode cX6_draw 24 = .ok (.istore_n 2, 1) := by decide +kernel
theorem dX6_draw_25 : decode cX6_draw 25 = .ok (.aload_n 0, 1) := by decide +kernel
theorem dX6_draw_26 : decode cX6_draw 26 = .ok (.getfield 19, 3) := by decide +kernel
theorem dX6_draw_29 : decode cX6_draw 29 = .ok (.getfield 202, 3) := by decide +kernel
theorem dX6_draw_32 : decode cX6_draw 32 = .ok (.istore_n 3, 1) := by decide +kernel
theorem dX6_draw_33 : decode cX6_draw 33 = .ok (.iconst 0, 1) := by decide +kernel
theorem dX6_draw_34 : decode cX6_draw 34 = .ok (.istore 4, 2) := by decide +kernel
theorem dX6_draw_36 : decode cX6_draw 36 = .ok (.iload 4, 2) := by decide +kernel
theorem dX6_draw_38 : decode cX6_draw 38 = .ok (.iload_n 3, 1) := by decide +kernel
theorem dX6_draw_39 : decode cX6_draw 39 = .ok (.if_icmp .ge 30, 3) := by decide +kernel
theorem dX6_draw_42 : decode cX6_draw 42 = .ok (.aload_n 0, 1) := by decide +kernel
theorem dX6_draw_43 : decode cX6_draw 43 = .ok (.getfield 46, 3) := by decide +kernel
theorem dX6_draw_46 : decode cX6_draw 46 = .ok (.iload_n 1, 1) := by decide +kernel
theorem dX6_draw_47 : decode cX6_draw 47 = .ok (.iload_n 2, 1) := by decide +kernel
theorem dX6_draw_48 : decode cX6_draw 48 = .ok (.iload_n 3, 1) := by decide +kernel
theorem dX6_draw_49 : decode cX6_draw 49 = .ok (.irem, 1) := by decide +kernel
theorem dX6_draw_50 : decode cX6_draw 50 = .ok (.iload 4, 2) := by decide +kernel
theorem dX6_draw_52 : decode cX6_draw 52 = .ok (.iadd, 1) := by decide +kernel
theorem dX6_draw_53 : decode cX6_draw 53 = .ok (.iload_n 3, 1) := by decide +kernel
theorem dX6_draw_54 : decode cX6_draw 54 = .ok (.irem, 1) := by decide +kernel
theorem dX6_draw_55 : decode cX6_draw 55 = .ok (.invokevirtual 296, 3) := by decide +kernel
theorem dX6_draw_58 : decode cX6_draw 58 = .ok (.ifCond .eq 5, 3) := by decide +kernel
theorem dX6_draw_61 : decode cX6_draw 61 = .ok (.iconst 1, 1) := by decide +kernel
theorem dX6_draw_62 : decode cX6_draw 62 = .ok (.ireturn, 1) := by decide +kernel
theorem dX6_draw_63 : decode cX6_draw 63 = .ok (.iinc 4 1, 3) := by decide +kernel
theorem dX6_draw_66 : decode cX6_draw 66 = .ok (.goto (-30), 3) := by decide +kernel
theorem dX6_draw_69 : decode cX6_draw 69 = .ok (.iconst 0, 1) := by decide +kernel
theorem dX6_draw_70 : decode cX6_draw 70 = .ok (.ireturn, 1) := by decide +kernel
theorem dX6_slotAt_0 : decode cX6_slotAt 0 = .ok (.iload_n 1, 1) := by decide +kernel
theorem dX6_slotAt_1 : decode cX6_slotAt 1 = .ok (.ifCond .lt 21, 3) := by decide +kernel
theorem dX6_slotAt_4 : decode cX6_slotAt 4 = .ok (.iload_n 1, 1) := by decide +kernel
theorem dX6_slotAt_5 : decode cX6_slotAt 5 = .ok (.aload_n 0, 1) := by decide +kernel
theorem dX6_slotAt_6 : decode cX6_slotAt 6 = .ok (.getfield 32, 3) := by decide +kernel
theorem dX6_slotAt_9 : decode cX6_slotAt 9 = .ok (.arraylength, 1) := by decide +kernel
theorem dX6_slotAt_10 : decode cX6_slotAt 10 = .ok (.if_icmp .ge 12, 3) := by decide +kernel
theorem dX6_slotAt_13 : decode cX6_slotAt 13 = .ok (.aload_n 0, 1) := by decide +kernel
theorem dX6_slotAt_14 : decode cX6_slotAt 14 = .ok (.getfield 32, 3) := by decide +kernel
theorem dX6_slotAt_17 : decode cX6_slotAt 17 = .ok (.iload_n 1, 1) := by decide +kernel
theorem dX6_slotAt_18 : decode cX6_slotAt 18 = .ok (.aaload, 1) := by decide +kernel
theorem dX6_slotAt_19 : decode cX6_slotAt 19 = .ok (.goto 4, 3) := by decide +kernel
theorem dX6_slotAt_22 : decode cX6_slotAt 22 = .ok (.aconst_null, 1) := by decide +kernel
theorem dX6_slotAt_23 : decode cX6_slotAt 23 = .ok (.areturn, 1) := by decide +kernel
theorem dX6_empty_0 : decode cX6_empty 0 = .ok (.aload_n 0, 1) := by decide +kernel
theorem dX6_empty_1 : decode cX6_empty 1 = .ok (.ifnull 8, 3) := by decide +kernel
theorem dX6_empty_4 : decode cX6_empty 4 = .ok (.aload_n 0, 1) := by decide +kernel
theorem dX6_empty_5 : decode cX6_empty 5 = .ok (.iconst 0, 1) := by decide +kernel
theorem dX6_empty_6 : decode cX6_empty 6 = .ok (.putfield 141, 3) := by decide +kernel
theorem dX6_empty_9 : decode cX6_empty 9 = .ok (.return_, 1) := by decide +kernel
theorem dX6_power_0 : decode cX6_power 0 = .ok (.lconst 1, 1) := by decide +kernel
theorem dX6_power_1 : decode cX6_power 1 = .ok (.lstore_n 2, 1) := by decide +kernel
theorem dX6_power_2 : decode cX6_power 2 = .ok (.iconst 0, 1) := by decide +kernel
theorem dX6_power_3 : decode cX6_power 3 = .ok (.istore 4, 2) := by decide +kernel
theorem dX6_power_5 : decode cX6_power 5 = .ok (.iload 4, 2) := by decide +kernel
theorem dX6_power_7 : decode cX6_power 7 = .ok (.iload_n 1, 1) := by decide +kernel
theorem dX6_power_8 : decode cX6_power 8 = .ok (.if_icmp .ge 14, 3) := by decide +kernel
theorem dX6_power_11 : decode cX6_power 11 = .ok (.lload_n 2, 1) := by decide +kernel
theorem dX6_power_12 : decode cX6_power 12 = .ok (.iload_n 0, 1) := by decide +kernel
theorem dX6_power_13 : decode cX6_power 13 = .ok (.i2l, 1) := by decide +kernel
theorem dX6_power_14 : decode cX6_power 14 = .ok (.lmul, 1) := by decide +kernel
theorem dX6_power_15 : decode cX6_power 15 = .ok (.lstore_n 2, 1) := by decide +kernel
theorem dX6_power_16 : decode cX6_power 16 = .ok (.iinc 4 1, 3) := by decide +kernel
theorem dX6_power_19 : decode cX6_power 19 = .ok (.goto (-14), 3) := by decide +kernel
theorem dX6_power_22 : decode cX6_power 22 = .ok (.lload_n 2, 1) := by decide +kernel
theorem dX6_power_23 : decode cX6_power 23 = .ok (.lreturn, 1) := by decide +kernel
theorem dX6_factorial_0 : decode cX6_factorial 0 = .ok (.lconst 1, 1) := by decide +kernel
theorem dX6_factorial_1 : decode cX6_factorial 1 = .ok (.lstore_n 1, 1) := by decide +kernel
theorem dX6_factorial_2 : decode cX6_factorial 2 = .ok (.iconst 2, 1) := by decide +kernel
theorem dX6_factorial_3 : decode cX6_factorial 3 = .ok (.istore_n 3, 1) := by decide +kernel
theorem dX6_factorial_4 : decode cX6_factorial 4 = .ok (.iload_n 3, 1) := by decide +kernel
theorem dX6_factorial_5 : decode cX6_factorial 5 = .ok (.iload_n 0, 1) := by decide +kernel
theorem dX6_factorial_6 : decode cX6_factorial 6 = .ok (.if_icmp .gt 14, 3) := by decide +kernel
theorem dX6_factorial_9 : decode cX6_factorial 9 = .ok (.lload_n 1, 1) := by decide +kernel
theorem dX6_factorial_10 : decode cX6_factorial 10 = .ok (.iload_n 3, 1) := by decide +kernel
theorem dX6_factorial_11 : decode cX6_factorial 11 = .ok (.i2l, 1) := by decide +kernel
theorem dX6_factorial_12 : decode cX6_factorial 12 = .ok (.lmul, 1) := by decide +kernel
theorem dX6_factorial_13 : decode cX6_factorial 13 = .ok (.lstore_n 1, 1) := by decide +kernel
theorem dX6_factorial_14 : decode cX6_factorial 14 = .ok (.iinc 3 1, 3) := by decide +kernel
theorem dX6_factorial_17 : decode cX6_factorial 17 = .ok (.goto (-13), 3) := by decide +kernel
theorem dX6_factorial_20 : decode cX6_factorial 20 = .ok (.lload_n 1, 1) := by decide +kernel
theorem dX6_factorial_21 : decode cX6_factorial 21 = .ok (.lreturn, 1) := by decide +kernel
theorem dX6_fraction_0 : decode cX6_fraction 0 = .ok (.lload_n 2, 1) := by decide +kernel
theorem dX6_fraction_1 : decode cX6_fraction 1 = .ok (.lstore 5, 2) := by decide +kernel
theorem dX6_fraction_3 : decode cX6_fraction 3 = .ok (.lload_n 0, 1) := by decide +kernel
theorem dX6_fraction_4 : decode cX6_fraction 4 = .ok (.lstore 7, 2) := by decide +kernel
theorem dX6_fraction_6 : decode cX6_fraction 6 = .ok (.iconst 0, 1) := by decide +kernel
theorem dX6_fraction_7 : decode cX6_fraction 7 = .ok (.istore 9, 2) := by decide +kernel
theorem dX6_fraction_9 : decode cX6_fraction 9 = .ok (.iload 9, 2) := by decide +kernel
theorem dX6_fraction_11 : decode cX6_fraction 11 = .ok (.bipush 100, 2) := by decide +kernel
theorem dX6_fraction_13 : decode cX6_fraction 13 = .ok (.if_icmp .ge 31, 3) := by decide +kernel
theorem dX6_fraction_16 : decode cX6_fraction 16 = .ok (.lload 7, 2) := by decide +kernel
theorem dX6_fraction_18 : decode cX6_fraction 18 = .ok (.lconst 0, 1) := by decide +kernel
theorem dX6_fraction_19 : decode cX6_fraction 19 = .ok (.lcmp, 1) := by decide +kernel
theorem dX6_fraction_20 : decode cX6_fraction 20 = .ok (.ifCond .eq 24, 3) := by decide +kernel
theorem dX6_fraction_23 : decode cX6_fraction 23 = .ok (.lload 5, 2) := by decide +kernel
theorem dX6_fraction_25 : decode cX6_fraction 25 = .ok (.lload 7, 2) := by decide +kernel
theorem dX6_fraction_27 : decode cX6_fraction 27 = .ok (.lrem, 1) := by decide +kernel
theorem dX6_fraction_28 : decode cX6_fraction 28 = .ok (.lstore 10, 2) := by decide +kernel
theorem dX6_fraction_30 : decode cX6_fraction 30 = .ok (.lload 7, 2) := by decide +kernel
theorem dX6_fraction_32 : decode cX6_fraction 32 = .ok (.lstore 5, 2) := by decide +kernel
theorem dX6_fraction_34 : decode cX6_fraction 34 = .ok (.lload 10, 2) := by decide +kernel
theorem dX6_fraction_36 : decode cX6_fraction 36 = .ok (.lstore 7, 2) := by decide +kernel
theorem dX6_fraction_38 : decode cX6_fraction 38 = .ok (.iinc 9 1, 3) := by decide +kernel
theorem dX6_fraction_41 : decode cX6_fraction 41 = .ok (.goto (-32), 3) := by decide +kernel
theorem dX6_fraction_44 : decode cX6_fraction 44 = .ok (.lload 5, 2) := by decide +kernel
theorem dX6_fraction_46 : decode cX6_fraction 46 = .ok (.lconst 0, 1) := by decide +kernel
theorem dX6_fraction_47 : decode cX6_fraction 47 = .ok (.lcmp, 1) := by decide +kernel
theorem dX6_fraction_48 : decode cX6_fraction 48 = .ok (.ifCond .ne 5, 3) := by decide +kernel
theorem dX6_fraction_51 : decode cX6_fraction 51 = .ok (.iconst 0, 1) := by decide +kernel
theorem dX6_fraction_52 : decode cX6_fraction 52 = .ok (.ireturn, 1) := by decide +kernel
theorem dX6_fraction_53 : decode cX6_fraction 53 = .ok (.iload 4, 2) := by decide +kernel
theorem dX6_fraction_55 : decode cX6_fraction 55 = .ok (.ifCond .eq 7, 3) := by decide +kernel
theorem dX6_fraction_58 : decode cX6_fraction 58 = .ok (.lload_n 0, 1) := by decide +kernel
theorem dX6_fraction_59 : decode cX6_fraction 59 = .ok (.goto 4, 3) := by decide +kernel
theorem dX6_fraction_62 : decode cX6_fraction 62 = .ok (.lload_n 2, 1) := by decide +kernel
theorem dX6_fraction_63 : decode cX6_fraction 63 = .ok (.lload 5, 2) := by decide +kernel
theorem dX6_fraction_65 : decode cX6_fraction 65 = .ok (.ldiv, 1) := by decide +kernel
theorem dX6_fraction_66 : decode cX6_fraction 66 = .ok (.l2i, 1) := by decide +kernel
theorem dX6_fraction_67 : decode cX6_fraction 67 = .ok (.ireturn, 1) := by decide +kernel
theorem dX7_init_0 : decode cX7_init 0 = .ok (.aload_n 0, 1) := by decide +kernel
theorem dX7_init_1 : decode cX7_init 1 = .ok (.invokespecial 1, 3) := by decide +kernel
theorem dX7_init_4 : decode cX7_init 4 = .ok (.aload_n 0, 1) := by decide +kernel
theorem dX7_init_5 : decode cX7_init 5 = .ok (.bipush 60, 2) := by decide +kernel
theorem dX7_init_7 : decode cX7_init 7 = .ok (.newarray .int, 2) := by decide +kernel
theorem dX7_init_9 : decode cX7_init 9 = .ok (.putfield 7, 3) := by decide +kernel
theorem dX7_init_12 : decode cX7_init 12 = .ok (.aload_n 0, 1) := by decide +kernel
theorem dX7_init_13 : decode cX7_init 13 = .ok (.iconst 2, 1) := by decide +kernel
theorem dX7_init_14 : decode cX7_init 14 = .ok (.putfield 13, 3) := by decide +kernel
theorem dX7_init_17 : decode cX7_init 17 = .ok (.aload_n 0, 1) := by decide +kernel
theorem dX7_init_18 : decode cX7_init 18 = .ok (.bipush 39, 2) := by decide +kernel
theorem dX7_init_20 : decode cX7_init 20 = .ok (.newarray .int, 2) := by decide +kernel
theorem dX7_init_22 : decode cX7_init 22 = .ok (.putfield 17, 3) := by decide +kernel
theorem dX7_init_25 : decode cX7_init 25 = .ok (.aload_n 0, 1) := by decide +kernel
theorem dX7_init_26 : decode cX7_init 26 = .ok (.bipush 39, 2) := by decide +kernel
theorem dX7_init_28 : decode cX7_init 28 = .ok (.newarray .int, 2) := by decide +kernel
theorem dX7_init_30 : decode cX7_init 30 = .ok (.putfield 20, 3) := by decide +kernel
theorem dX7_init_33 : decode cX7_init 33 = .ok (.aload_n 0, 1) := by decide +kernel
theorem dX7_init_34 : decode cX7_init 34 = .ok (.bipush 39, 2) := by decide +kernel
theorem dX7_init_36 : decode cX7_init 36 = .ok (.newarray .int, 2) := by decide +kernel
theorem dX7_init_38 : decode cX7_init 38 = .ok (.putfield 23, 3) := by decide +kernel
theorem dX7_init_41 : decode cX7_init 41 = .ok (.aload_n 0, 1) := by decide +kernel
theorem dX7_init_42 : decode cX7_init 42 = .ok (.sipush 546, 3) := by decide +kernel
theorem dX7_init_45 : decode cX7_init 45 = .ok (.newarray .int, 2) := by decide +kernel
theorem dX7_init_47 : decode cX7_init 47 = .ok (.putfield 26, 3) := by decide +kernel
theorem dX7_init_50 : decode cX7_init 50 = .ok (.aload_n 0, 1) := by decide +kernel
theorem dX7_init_51 : decode cX7_init 51 = .ok (.bipush 78, 2) := by decide +kernel
theorem dX7_init_53 : decode cX7_init 53 = .ok (.newarray .int, 2) := by decide +kernel
theorem dX7_init_55 : decode cX7_init 55 = .ok (.putfield 29, 3) := by decide +kernel
theorem dX7_init_58 : decode cX7_init 58 = .ok (.aload_n 0, 1) := by decide +kernel
theorem dX7_init_59 : decode cX7_init 59 = .ok (.iconst 2, 1) := by decide +kernel
theorem dX7_init_60 : decode cX7_init 60 = .ok (.newarray .boolean, 2) := by decide +kernel
theorem dX7_init_62 : decode cX7_init 62 = .ok (.putfield 32, 3) := by decide +kernel
theorem dX7_init_65 : decode cX7_init 65 = .ok (.aload_n 0, 1) := by decide +kernel
theorem dX7_init_66 : decode cX7_init 66 = .ok (.bipush 6, 2) := by decide +kernel
theorem dX7_init_68 : decode cX7_init 68 = .ok (.newarray .int, 2) := by decide +kernel
theorem dX7_init_70 : decode cX7_init 70 = .ok (.putfield 36, 3) := by decide +kernel
theorem dX7_init_73 : decode cX7_init 73 = .ok (.aload_n 0, 1) := by decide +kernel
theorem dX7_init_74 : decode cX7_init 74 = .ok (.bipush 6, 2) := by decide +kernel
theorem dX7_init_76 : decode cX7_init 76 = .ok (.newarray .int, 2) := by decide +kernel
theorem dX7_init_78 : decode cX7_init 78 = .ok (.putfield 39, 3) := by decide +kernel
theorem dX7_init_81 : decode cX7_init 81 = .ok (.aload_n 0, 1) := by decide +kernel
theorem dX7_init_82 : decode cX7_init 82 = .ok (.bipush 6, 2) := by decide +kernel
theorem dX7_init_84 : decode cX7_init 84 = .ok (.newarray .int, 2) := by decide +kernel
theorem dX7_init_86 : decode cX7_init 86 = .ok (.putfield 42, 3) := by decide +kernel
theorem dX7_init_89 : decode cX7_init 89 = .ok (.aload_n 0, 1) := by decide +kernel
theorem dX7_init_90 : decode cX7_init 90 = .ok (.sipush 400, 3) := by decide +kernel
theorem dX7_init_93 : decode cX7_init 93 = .ok (.newarray .int, 2) := by decide +kernel
theorem dX7_init_95 : decode cX7_init 95 = .ok (.putfield 45, 3) := by decide +kernel
theorem dX7_init_98 : decode cX7_init 98 = .ok (.aload_n 0, 1) := by decide +kernel
theorem dX7_init_99 : decode cX7_init 99 = .ok (.bipush 12, 2) := by decide +kernel
theorem dX7_init_101 : decode cX7_init 101 = .ok (.newarray .int, 2) := by decide +kernel
theorem dX7_init_103 : decode cX7_init 103 = .ok (.putfield 48, 3) := by decide +kernel
theorem dX7_init_106 : decode cX7_init 106 = .ok (.aload_n 0, 1) := by decide +kernel
theorem dX7_init_107 : decode cX7_init 107 = .ok (.bipush 11, 2) := by decide +kernel
theorem dX7_init_109 : decode cX7_init 109 = .ok (.newarray .int, 2) := by decide +kernel
theorem dX7_init_111 : decode cX7_init 111 = .ok (.putfield 51, 3) := by decide +kernel
theorem dX7_init_114 : decode cX7_init 114 = .ok (.aload_n 0, 1) := by decide +kernel
theorem dX7_init_115 : decode cX7_init 115 = .ok (.iconst 3, 1) := by decide +kernel
theorem dX7_init_116 : decode cX7_init 116 = .ok (.newarray .int, 2) := by decide +kernel
theorem dX7_init_118 : decode cX7_init 118 = .ok (.putfield 54, 3) := by decide +kernel
theorem dX7_init_121 : decode cX7_init 121 = .ok (.aload_n 0, 1) := by decide +kernel
theorem dX7_init_122 : decode cX7_init 122 = .ok (.aload_n 0, 1) := by decide +kernel
theorem dX7_init_123 : decode cX7_init 123 = .ok (.getfield 20, 3) := by decide +kernel
theorem dX7_init_126 : decode cX7_init 126 = .ok (.putfield 57, 3) := by decide +kernel
theorem dX7_init_129 : decode cX7_init 129 = .ok (.aload_n 0, 1) := by decide +kernel
theorem dX7_init_130 : decode cX7_init 130 = .ok (.ldc 60, 2) := by decide +kernel
theorem dX7_init_132 : decode cX7_init 132 = .ok (.newarray .boolean, 2) := by decide +kernel
theorem dX7_init_134 : decode cX7_init 134 = .ok (.putfield 61, 3) := by decide +kernel
theorem dX7_init_137 : decode cX7_init 137 = .ok (.aload_n 0, 1) := by decide +kernel
theorem dX7_init_138 : decode cX7_init 138 = .ok (.bipush 12, 2) := by decide +kernel
theorem dX7_init_140 : decode cX7_init 140 = .ok (.newarray .boolean, 2) := by decide +kernel
theorem dX7_init_142 : decode cX7_init 142 = .ok (.putfield 64, 3) := by decide +kernel
theorem dX7_init_145 : decode cX7_init 145 = .ok (.aload_n 0, 1) := by decide +kernel
theorem dX7_init_146 : decode cX7_init 146 = .ok (.getfield 20, 3) := by decide +kernel
theorem dX7_init_149 : decode cX7_init 149 = .ok (.iconst 0, 1) := by decide +kernel
theorem dX7_init_150 : decode cX7_init 150 = .ok (.iconst 1, 1) := by decide +kernel
theorem dX7_init_151 : decode cX7_init 151 = .ok (.iastore, 1) := by decide +kernel
theorem dX7_init_152 : decode cX7_init 152 = .ok (.aload_n 0, 1) := by decide +kernel
theorem dX7_init_153 : decode cX7_init 153 = .ok (.getfield 20, 3) := by decide +kernel
theorem dX7_init_156 : decode cX7_init 156 = .ok (.bipush 28, 2) := by decide +kernel
theorem dX7_init_158 : decode cX7_init 158 = .ok (.iconst 1, 1) := by decide +kernel
theorem dX7_init_159 : decode cX7_init 159 = .ok (.iastore, 1) := by decide +kernel
theorem dX7_init_160 : decode cX7_init 160 = .ok (.return_, 1) := by decide +kernel
theorem dX7_in_0 : decode cX7_in 0 = .ok (.lload_n 0, 1) := by decide +kernel
theorem dX7_in_1 : decode cX7_in 1 = .ok (.lload_n 2, 1) := by decide +kernel
theorem dX7_in_2 : decode cX7_in 2 = .ok (.lcmp, 1) := by decide +kernel
theorem dX7_in_3 : decode cX7_in 3 = .ok (.ifCond .lt 14, 3) := by decide +kernel
theorem dX7_in_6 : decode cX7_in 6 = .ok (.lload_n 0, 1) := by decide +kernel
theorem dX7_in_7 : decode cX7_in 7 = .ok (.lload 4, 2) := by decide +kernel
theorem dX7_in_9 : decode cX7_in 9 = .ok (.lcmp, 1) := by decide +kernel
theorem dX7_in_10 : decode cX7_in 10 = .ok (.ifCond .gt 7, 3) := by decide +kernel
theorem dX7_in_13 : decode cX7_in 13 = .ok (.iconst 1, 1) := by decide +kernel
theorem dX7_in_14 : decode cX7_in 14 = .ok (.goto 4, 3) := by decide +kernel
theorem dX7_in_17 : decode cX7_in 17 = .ok (.iconst 0, 1) := by decide +kernel
theorem dX7_in_18 : decode cX7_in 18 = .ok (.ireturn, 1) := by decide +kernel
theorem dX7_has_0 : decode cX7_has 0 = .ok (.iload_n 0, 1) := by decide +kernel
theorem dX7_has_1 : decode cX7_has 1 = .ok (.iload_n 1, 1) := by decide +kernel
theorem dX7_has_2 : decode cX7_has 2 = .ok (.ishr, 1) := by decide +kernel
theorem dX7_has_3 : decode cX7_has 3 = .ok (.iconst 1, 1) := by decide +kernel
theorem dX7_has_4 : decode cX7_has 4 = .ok (.iand, 1) := by decide +kernel
theorem dX7_has_5 : decode cX7_has 5 = .ok (.iconst 1, 1) := by decide +kernel
theorem dX7_has_6 : decode cX7_has 6 = .ok (.if_icmp .ne 7, 3) := by decide +kernel
theorem dX7_has_9 : decode cX7_has 9 = .ok (.iconst 1, 1) := by decide +kernel
theorem dX7_has_10 : decode cX7_has 10 = .ok (.goto 4, 3) := by decide +kernel
theorem dX7_has_13 : decode cX7_has 13 = .ok (.iconst 0, 1) := by decide +kernel
theorem dX7_has_14 : decode cX7_has 14 = .ok (.ireturn, 1) := by decide +kernel
theorem dX7_ones_0 : decode cX7_ones 0 = .ok (.iconst 0, 1) := by decide +kernel
theorem dX7_ones_1 : decode cX7_ones 1 = .ok (.istore_n 1, 1) := by decide +kernel
theorem dX7_ones_2 : decode cX7_ones 2 = .ok (.iconst 0, 1) := by decide +kernel
theorem dX7_ones_3 : decode cX7_ones 3 = .ok (.istore_n 2, 1) := by decide +kernel
theorem dX7_ones_4 : decode cX7_ones 4 = .ok (.iload_n 2, 1) := by decide +kernel
theorem dX7_ones_5 : decode cX7_ones 5 = .ok (.bipush 12, 2) := by decide +kernel
theorem dX7_ones_7 : decode cX7_ones 7 = .ok (.if_icmp .ge 17, 3) := by decide +kernel
theorem dX7_ones_10 : decode cX7_ones 10 = .ok (.iload_n 1, 1) := by decide +kernel
theorem dX7_ones_11 : decode cX7_ones 11 = .ok (.iload_n 0, 1) := by decide +kernel
theorem dX7_ones_12 : decode cX7_ones 12 = .ok (.iload_n 2, 1) := by decide +kernel
theorem dX7_ones_13 : decode cX7_ones 13 = .ok (.ishr, 1) := by decide +kernel
theorem dX7_ones_14 : decode cX7_ones 14 = .ok (.iconst 1, 1) := by decide +kernel
theorem dX7_ones_15 : decode cX7_ones 15 = .ok (.iand, 1) := by decide +kernel
theorem dX7_ones_16 : decode cX7_ones 16 = .ok (.iadd, 1) := by decide +kernel
theorem dX7_ones_17 : decode cX7_ones 17 = .ok (.istore_n 1, 1) := by decide +kernel
theorem dX7_ones_18 : decode cX7_ones 18 = .ok (.iinc 2 1, 3) := by decide +kernel
theorem dX7_ones_21 : decode cX7_ones 21 = .ok (.goto (-17), 3) := by decide +kernel
theorem dX7_ones_24 : decode cX7_ones 24 = .ok (.iload_n 1, 1) := by decide +kernel
theorem dX7_ones_25 : decode cX7_ones 25 = .ok (.ireturn, 1) := by decide +kernel
theorem dX7_power_0 : decode cX7_power 0 = .ok (.iconst 1, 1) := by decide +kernel
theorem dX7_power_1 : decode cX7_power 1 = .ok (.istore_n 2, 1) := by decide +kernel
theorem dX7_power_2 : decode cX7_power 2 = .ok (.iconst 0, 1) := by decide +kernel
theorem dX7_power_3 : decode cX7_power 3 = .ok (.istore_n 3, 1) := by decide +kernel
theorem dX7_power_4 : decode cX7_power 4 = .ok (.iload_n 3, 1) := by decide +kernel
theorem dX7_power_5 : decode cX7_power 5 = .ok (.iload_n 1, 1) := by decide +kernel
theorem dX7_power_6 : decode cX7_power 6 = .ok (.if_icmp .ge 13, 3) := by decide +kernel
theorem dX7_power_9 : decode cX7_power 9 = .ok (.iload_n 2, 1) := by decide +kernel
theorem dX7_power_10 : decode cX7_power 10 = .ok (.iload_n 0, 1) := by decide +kernel
theorem dX7_power_11 : decode cX7_power 11 = .ok (.imul, 1) := by decide +kernel
theorem dX7_power_12 : decode cX7_power 12 = .ok (.istore_n 2, 1) := by decide +kernel
theorem dX7_power_13 : decode cX7_power 13 = .ok (.iinc 3 1, 3) := by decide +kernel
theorem dX7_power_16 : decode cX7_power 16 = .ok (.goto (-12), 3) := by decide +kernel
theorem dX7_power_19 : decode cX7_power 19 = .ok (.iload_n 2, 1) := by decide +kernel
theorem dX7_power_20 : decode cX7_power 20 = .ok (.ireturn, 1) := by decide +kernel
theorem dX7_layTrial_0 : decode cX7_layTrial 0 = .ok (.iconst 0, 1) := by decide +kernel
theorem dX7_layTrial_1 : decode cX7_layTrial 1 = .ok (.istore_n 1, 1) := by decide +kernel
theorem dX7_layTrial_2 : decode cX7_layTrial 2 = .ok (.iload_n 1, 1) := by decide +kernel
theorem dX7_layTrial_3 : decode cX7_layTrial 3 = .ok (.bipush 39, 2) := by decide +kernel
theorem dX7_layTrial_5 : decode cX7_layTrial 5 = .ok (.if_icmp .ge 21, 3) := by decide +kernel
theorem dX7_layTrial_8 : decode cX7_layTrial 8 = .ok (.aload_n 0, 1) := by decide +kernel
theorem dX7_layTrial_9 : decode cX7_layTrial 9 = .ok (.getfield 23, 3) := by decide +kernel
theorem dX7_layTrial_12 : decode cX7_layTrial 12 = .ok (.iload_n 1, 1) := by decide +kernel
theorem dX7_layTrial_13 : decode cX7_layTrial 13 = .ok (.aload_n 0, 1) := by decide +kernel
theorem dX7_layTrial_14 : decode cX7_layTrial 14 = .ok (.getfield 20, 3) := by decide +kernel
theorem dX7_layTrial_17 : decode cX7_layTrial 17 = .ok (.iload_n 1, 1) := by decide +kernel
theorem dX7_layTrial_18 : decode cX7_layTrial 18 = .ok (.iaload, 1) := by decide +kernel
theorem dX7_layTrial_19 : decode cX7_layTrial 19 = .ok (.iastore, 1) := by decide +kernel
theorem dX7_layTrial_20 : decode cX7_layTrial 20 = .ok (.iinc 1 1, 3) := by decide +kernel
theorem dX7_layTrial_23 : decode cX7_layTrial 23 = .ok (.goto (-21), 3) := by decide +kernel
theorem dX7_layTrial_26 : decode cX7_layTrial 26 = .ok (.return_, 1) := by decide +kernel
theorem dX7_write_0 : decode cX7_write 0 = .ok (.aload_n 0, 1) := by decide +kernel
theorem dX7_write_1 : decode cX7_write 1 = .ok (.iconst 0, 1) := by decide +kernel
theorem dX7_write_2 : decode cX7_write 2 = .ok (.putfield 67, 3) := by decide +kernel
theorem dX7_write_5 : decode cX7_write 5 = .ok (.iload_n 1, 1) := by decide +kernel
theorem dX7_write_6 : decode cX7_write 6 = .ok (.i2l, 1) := by decide +kernel
theorem dX7_write_7 : decode cX7_write 7 = .ok (.lconst 0, 1) := by decide +kernel
theorem dX7_write_8 : decode cX7_write 8 = .ok (.ldc2_w 70, 3) := by decide +kernel
theorem dX7_write_11 : decode cX7_write 11 = .ok (.invokestatic 72, 3) := by decide +kernel
theorem dX7_write_14 : decode cX7_write 14 = .ok (.ifCond .ne 6, 3) := by decide +kernel
theorem dX7_write_17 : decode cX7_write 17 = .ok (.bipush (-2), 2) := by decide +kernel
theorem dX7_write_19 : decode cX7_write 19 = .ok (.ireturn, 1) := by decide +kernel
theorem dX7_write_20 : decode cX7_write 20 = .ok (.aload_n 0, 1) := by decide +kernel
theorem dX7_write_21 : decode cX7_write 21 = .ok (.getfield 76, 3) := by decide +kernel
theorem dX7_write_24 : decode cX7_write 24 = .ok (.bipush 60, 2) := by decide +kernel
theorem dX7_write_26 : decode cX7_write 26 = .ok (.if_icmp .ne 6, 3) := by decide +kernel
theorem dX7_write_29 : decode cX7_write 29 = .ok (.bipush (-4), 2) := by decide +kernel
theorem dX7_write_31 : decode cX7_write 31 = .ok (.ireturn, 1) := by decide +kernel
theorem dX7_write_32 : decode cX7_write 32 = .ok (.aload_n 0, 1) := by decide +kernel
theorem dX7_write_33 : decode cX7_write 33 = .ok (.getfield 7, 3) := by decide +kernel
theorem dX7_write_36 : decode cX7_write 36 = .ok (.aload_n 0, 1) := by decide +kernel
theorem dX7_write_37 : decode cX7_write 37 = .ok (.getfield 76, 3) := by decide +kernel
theorem dX7_write_40 : decode cX7_write 40 = .ok (.iload_n 1, 1) := by decide +kernel
theorem dX7_write_41 : decode cX7_write 41 = .ok (.iastore, 1) := by decide +kernel
theorem dX7_write_42 : decode cX7_write 42 = .ok (.aload_n 0, 1) := by decide +kernel
theorem dX7_write_43 : decode cX7_write 43 = .ok (.dup, 1) := by decide +kernel
theorem dX7_write_44 : decode cX7_write 44 = .ok (.getfield 76, 3) := by decide +kernel
theorem dX7_write_47 : decode cX7_write 47 = .ok (.iconst 1, 1) := by decide +kernel
theorem dX7_write_48 : decode cX7_write 48 = .ok (.iadd, 1) := by decide +kernel
theorem dX7_write_49 : decode cX7_write 49 = .ok (.putfield 76, 3) := by decide +kernel
theorem dX7_write_52 : decode cX7_write 52 = .ok (.aload_n 0, 1) := by decide +kernel
theorem dX7_write_53 : decode cX7_write 53 = .ok (.getfield 76, 3) := by decide +kernel
theorem dX7_write_56 : decode cX7_write 56 = .ok (.ireturn, 1) := by decide +kernel
theorem dX7_wipe_0 : decode cX7_wipe 0 = .ok (.aload_n 0, 1) := by decide +kernel
theorem dX7_wipe_1 : decode cX7_wipe 1 = .ok (.iconst 0, 1) := by decide +kernel
theorem dX7_wipe_2 : decode cX7_wipe 2 = .ok (.putfield 67, 3) := by decide +kernel
theorem dX7_wipe_5 : decode cX7_wipe 5 = .ok (.aload_n 0, 1) := by decide +kernel
theorem dX7_wipe_6 : decode cX7_wipe 6 = .ok (.getfield 76, 3) := by decide +kernel
theorem dX7_wipe_9 : decode cX7_wipe 9 = .ok (.istore_n 1, 1) := by decide +kernel
theorem dX7_wipe_10 : decode cX7_wipe 10 = .ok (.aload_n 0, 1) := by decide +kernel
theorem dX7_wipe_11 : decode cX7_wipe 11 = .ok (.iconst 0, 1) := by decide +kernel
theorem dX7_wipe_12 : decode cX7_wipe 12 = .ok (.putfield 76, 3) := by decide +kernel
theorem dX7_wipe_15 : decode cX7_wipe 15 = .ok (.iload_n 1, 1) := by decide +kernel
theorem dX7_wipe_16 : decode cX7_wipe 16 = .ok (.ireturn, 1) := by decide +kernel
theorem dX7_figure_0 : decode cX7_figure 0 = .ok (.aload_n 0, 1) := by decide +kernel
theorem dX7_figure_1 : decode cX7_figure 1 = .ok (.getfield 79, 3) := by decide +kernel
theorem dX7_figure_4 : decode cX7_figure 4 = .ok (.aload_n 0, 1) := by decide +kernel
theorem dX7_figure_5 : decode cX7_figure 5 = .ok (.getfield 76, 3) := by decide +kernel
theorem dX7_figure_8 : decode cX7_figure 8 = .ok (.if_icmp .ge 18, 3) := by decide +kernel
theorem dX7_figure_11 : decode cX7_figure 11 = .ok (.aload_n 0, 1) := by decide +kernel
theorem dX7_figure_12 : decode cX7_figure 12 = .ok (.getfield 7, 3) := by decide +kernel
theorem dX7_figure_15 : decode cX7_figure 15 = .ok (.aload_n 0, 1) := by decide +kernel
theorem dX7_figure_16 : decode cX7_figure 16 = .ok (.getfield 79, 3) := by decide +kernel
theorem dX7_figure_19 : decode cX7_figure 19 = .ok (.iaload, 1) := by decide +kernel
theorem dX7_figure_20 : decode cX7_figure 20 = .ok (.bipush 48, 2) := by decide +kernel
theorem dX7_figure_22 : decode cX7_figure 22 = .ok (.isub, 1) := by decide +kernel
theorem dX7_figure_23 : decode cX7_figure 23 = .ok (.goto 6, 3) := by decide +kernel
theorem dX7_figure_26 : decode cX7_figure 26 = .ok (.sipush 1000, 3) := by decide +kernel
theorem dX7_figure_29 : decode cX7_figure 29 = .ok (.istore_n 3, 1) := by decide +kernel
theorem dX7_figure_30 : decode cX7_figure 30 = .ok (.iload_n 3, 1) := by decide +kernel
theorem dX7_figure_31 : decode cX7_figure 31 = .ok (.i2l, 1) := by decide +kernel
theorem dX7_figure_32 : decode cX7_figure 32 = .ok (.iload_n 1, 1) := by decide +kernel
theorem dX7_figure_33 : decode cX7_figure 33 = .ok (.i2l, 1) := by decide +kernel
theorem dX7_figure_34 : decode cX7_figure 34 = .ok (.iload_n 2, 1) := by decide +kernel
theorem dX7_figure_35 : decode cX7_figure 35 = .ok (.i2l, 1) := by decide +kernel
theorem dX7_figure_36 : decode cX7_figure 36 = .ok (.invokestatic 72, 3) := by decide +kernel
theorem dX7_figure_39 : decode cX7_figure 39 = .ok (.ifCond .ne 7, 3) := by decide +kernel
theorem dX7_figure_42 : decode cX7_figure 42 = .ok (.sipush 1000, 3) := by decide +kernel
theorem dX7_figure_45 : decode cX7_figure 45 = .ok (.ireturn, 1) := by decide +kernel
theorem dX7_figure_46 : decode cX7_figure 46 = .ok (.aload_n 0, 1) := by decide +kernel
theorem dX7_figure_47 : decode cX7_figure 47 = .ok (.dup, 1) := by decide +kernel
theorem dX7_figure_48 : decode cX7_figure 48 = .ok (.getfield 79, 3) := by decide +kernel
theorem dX7_figure_51 : decode cX7_figure 51 = .ok (.iconst 1, 1) := by decide +kernel
theorem dX7_figure_52 : decode cX7_figure 52 = .ok (.iadd, 1) := by decide +kernel
theorem dX7_figure_53 : decode cX7_figure 53 = .ok (.putfield 79, 3) := by decide +kernel
theorem dX7_figure_56 : decode cX7_figure 56 = .ok (.iload_n 3, 1) := by decide +kernel
theorem dX7_figure_57 : decode cX7_figure 57 = .ok (.ireturn, 1) := by decide +kernel
theorem dX7_factor_0 : decode cX7_factor 0 = .ok (.aload_n 0, 1) := by decide +kernel
theorem dX7_factor_1 : decode cX7_factor 1 = .ok (.getfield 79, 3) := by decide +kernel
theorem dX7_factor_4 : decode cX7_factor 4 = .ok (.aload_n 0, 1) := by decide +kernel
theorem dX7_factor_5 : decode cX7_factor 5 = .ok (.getfield 76, 3) := by decide +kernel
theorem dX7_factor_8 : decode cX7_factor 8 = .ok (.if_icmp .ge 18, 3) := by decide +kernel
theorem dX7_factor_11 : decode cX7_factor 11 = .ok (.aload_n 0, 1) := by decide +kernel
theorem dX7_factor_12 : decode cX7_factor 12 = .ok (.getfield 7, 3) := by decide +kernel
theorem dX7_factor_15 : decode cX7_factor 15 = .ok (.aload_n 0, 1) := by decide +kernel
theorem dX7_factor_16 : decode cX7_factor 16 = .ok (.getfield 79, 3) := by decide +kernel
theorem dX7_factor_19 : decode cX7_factor 19 = .ok (.iaload, 1) := by decide +kernel
theorem dX7_factor_20 : decode cX7_factor 20 = .ok (.bipush 96, 2) := by decide +kernel
theorem dX7_factor_22 : decode cX7_factor 22 = .ok (.isub, 1) := by decide +kernel
theorem dX7_factor_23 : decode cX7_factor 23 = .ok (.goto 6, 3) := by decide +kernel
theorem dX7_factor_26 : decode cX7_factor 26 = .ok (.sipush 1000, 3) := by decide +kernel
theorem dX7_factor_29 : decode cX7_factor 29 = .ok (.istore_n 1, 1) := by decide +kernel
theorem dX7_factor_30 : decode cX7_factor 30 = .ok (.iload_n 1, 1) := by decide +kernel
theorem dX7_factor_31 : decode cX7_factor 31 = .ok (.i2l, 1) := by decide +kernel
theorem dX7_factor_32 : decode cX7_factor 32 = .ok (.lconst 1, 1) := by decide +kernel
theorem dX7_factor_33 : decode cX7_factor 33 = .ok (.ldc2_w 82, 3) := by decide +kernel
theorem dX7_factor_36 : decode cX7_factor 36 = .ok (.invokestatic 72, 3) := by decide +kernel
theorem dX7_factor_39 : decode cX7_factor 39 = .ok (.ifCond .eq 16, 3) := by decide +kernel
theorem dX7_factor_42 : decode cX7_factor 42 = .ok (.aload_n 0, 1) := by decide +kernel
theorem dX7_factor_43 : decode cX7_factor 43 = .ok (.dup, 1) := by decide +kernel
theorem dX7_factor_44 : decode cX7_factor 44 = .ok (.getfield 79, 3) := by decide +kernel
theorem dX7_factor_47 : decode cX7_factor 47 = .ok (.iconst 1, 1) := by decide +kernel
theorem dX7_factor_48 : decode cX7_factor 48 = .ok (.iadd, 1) := by decide +kernel
theorem dX7_factor_49 : decode cX7_factor 49 = .ok (.putfield 79, 3) := by decide +kernel
theorem dX7_factor_52 : decode cX7_factor 52 = .ok (.iload_n 1, 1) := by decide +kernel
theorem dX7_factor_53 : decode cX7_factor 53 = .ok (.ineg, 1) := by decide +kernel
theorem dX7_factor_54 : decode cX7_factor 54 = .ok (.ireturn, 1) := by decide +kernel
theorem dX7_factor_55 : decode cX7_factor 55 = .ok (.aload_n 0, 1) := by decide +kernel
theorem dX7_factor_56 : decode cX7_factor 56 = .ok (.iconst 1, 1) := by decide +kernel
theorem dX7_factor_57 : decode cX7_factor 57 = .ok (.iconst 4, 1) := by decide +kernel
theorem dX7_factor_58 : decode cX7_factor 58 = .ok (.invokevirtual 84, 3) := by decide +kernel
theorem dX7_factor_61 : decode cX7_factor 61 = .ok (.ireturn, 1) := by decide +kernel
theorem dX7_readEquation_0 : decode cX7_readEquation 0 = .ok (.aload_n 0, 1) := by decide +kernel
theorem dX7_readEquation_1 : decode cX7_readEquation 1 = .ok (.getfield 17, 3) := by decide +kernel
theorem dX7_readEquation_4 : decode cX7_readEquation 4 = .ok (.iconst 1, 1) := by decide +kernel
theorem dX7_readEquation_5 : decode cX7_readEquation 5 = .ok (.iaload, 1) := by decide +kernel
theorem dX7_readEquation_6 : decode cX7_readEquation 6 = .ok (.iconst 4, 1) := by decide +kernel
theorem dX7_readEquation_7 : decode cX7_readEquation 7 = .ok (.if_icmp .ne 5, 3) := by decide +kernel
theorem dX7_readEquation_10 : decode cX7_readEquation 10 = .ok (.iconst 0, 1) := by decide +kernel
theorem dX7_readEquation_11 : decode cX7_readEquation 11 = .ok (.ireturn, 1) := by decide +kernel
theorem dX7_readEquation_12 : decode cX7_readEquation 12 = .ok (.aload_n 0, 1) := by decide +kernel
theorem dX7_readEquation_13 : decode cX7_readEquation 13 = .ok (.dup, 1) := by decide +kernel
theorem dX7_readEquation_14 : decode cX7_readEquation 14 = .ok (.getfield 79, 3) := by decide +kernel
theorem dX7_readEquation_17 : decode cX7_readEquation 17 = .ok (.iconst 1, 1) := by decide +kernel
theorem dX7_readEquation_18 : decode cX7_readEquation 18 = .ok (.iadd, 1) := by decide +kernel
theorem dX7_readEquation_19 : decode cX7_readEquation 19 = .ok (.putfield 79, 3) := by decide +kernel
theorem dX7_readEquation_22 : decode cX7_readEquation 22 = .ok (.iconst 2, 1) := by decide +kernel
theorem dX7_readEquation_23 : decode cX7_readEquation 23 = .ok (.iconst 4, 1) := by decide +kernel
theorem dX7_readEquation_24 : decode cX7_readEquation 24 = .ok (.aload_n 0, 1) := by decide +kernel
theorem dX7_readEquation_25 : decode cX7_readEquation 25 = .ok (.getfield 17, 3) := by decide +kernel
theorem dX7_readEquation_28 : decode cX7_readEquation 28 = .ok (.iconst 1, 1) := by decide +kernel
theorem dX7_readEquation_29 : decode cX7_readEquation 29 = .ok (.iaload, 1) := by decide +kernel
theorem dX7_readEquation_30 : decode cX7_readEquation 30 = .ok (.imul, 1) := by decide +kernel
theorem dX7_readEquation_31 : decode cX7_readEquation 31 = .ok (.iadd, 1) := by decide +kernel
theorem dX7_readEquation_32 : decode cX7_readEquation 32 = .ok (.istore_n 1, 1) := by decide +kernel
theorem dX7_readEquation_33 : decode cX7_readEquation 33 = .ok (.iconst 0, 1) := by decide +kernel
theorem dX7_readEquation_34 : decode cX7_readEquation 34 = .ok (.istore_n 2, 1) := by decide +kernel
theorem dX7_readEquation_35 : decode cX7_readEquation 35 = .ok (.iload_n 2, 1) := by decide +kernel
theorem dX7_readEquation_36 : decode cX7_readEquation 36 = .ok (.iconst 3, 1) := by decide +kernel
theorem dX7_readEquation_37 : decode cX7_readEquation 37 = .ok (.if_icmp .ge 32, 3) := by decide +kernel
theorem dX7_readEquation_40 : decode cX7_readEquation 40 = .ok (.aload_n 0, 1) := by decide +kernel
theorem dX7_readEquation_41 : decode cX7_readEquation 41 = .ok (.invokevirtual 88, 3) := by decide +kernel
theorem dX7_readEquation_44 : decode cX7_readEquation 44 = .ok (.istore_n 3, 1) := by decide +kernel
theorem dX7_readEquation_45 : decode cX7_readEquation 45 = .ok (.iload_n 3, 1) := by decide +kernel
theorem dX7_readEquation_46 : decode cX7_readEquation 46 = .ok (.sipush 1000, 3) := by decide +kernel
theorem dX7_readEquation_49 : decode cX7_readEquation 49 = .ok (.if_icmp .ne 5, 3) := by decide +kernel
theorem dX7_readEquation_52 : decode cX7_readEquation 52 = .ok (.iconst 0, 1) := by decide +kernel
theorem dX7_readEquation_53 : decode cX7_readEquation 53 = .ok (.ireturn, 1) := by decide +kernel
theorem dX7_readEquation_54 : decode cX7_readEquation 54 = .ok (.aload_n 0, 1) := by decide +kernel
theorem dX7_readEquation_55 : decode cX7_readEquation 55 = .ok (.getfield 17, 3) := by decide +kernel
theorem dX7_readEquation_58 : decode cX7_readEquation 58 = .ok (.iload_n 1, 1) := by decide +kernel
theorem dX7_readEquation_59 : decode cX7_readEquation 59 = .ok (.iload_n 2, 1) := by decide +kernel
theorem dX7_readEquation_60 : decode cX7_readEquation 60 = .ok (.iadd, 1) := by decide +kernel
theorem dX7_readEquation_61 : decode cX7_readEquation 61 = .ok (.iload_n 3, 1) := by decide +kernel
theorem dX7_readEquation_62 : decode cX7_readEquation 62 = .ok (.iastore, 1) := by decide +kernel
theorem dX7_readEquation_63 : decode cX7_readEquation 63 = .ok (.iinc 2 1, 3) := by decide +kernel
theorem dX7_readEquation_66 : decode cX7_readEquation 66 = .ok (.goto (-31), 3) := by decide +kernel
theorem dX7_readEquation_69 : decode cX7_readEquation 69 = .ok (.aload_n 0, 1) := by decide +kernel
theorem dX7_readEquation_70 : decode cX7_readEquation 70 = .ok (.getfield 79, 3) := by decide +kernel
theorem dX7_readEquation_73 : decode cX7_readEquation 73 = .ok (.aload_n 0, 1) := by decide +kernel
theorem dX7_readEquation_74 : decode cX7_readEquation 74 = .ok (.getfield 76, 3) := by decide +kernel
theorem dX7_readEquation_77 : decode cX7_readEquation 77 = .ok (.if_icmp .ge 15, 3) := by decide +kernel
theorem dX7_readEquation_80 : decode cX7_readEquation 80 = .ok (.aload_n 0, 1) := by decide +kernel
theorem dX7_readEquation_81 : decode cX7_readEquation 81 = .ok (.getfield 7, 3) := by decide +kernel
theorem dX7_readEquation_84 : decode cX7_readEquation 84 = .ok (.aload_n 0, 1) := by decide +kernel
theorem dX7_readEquation_85 : decode cX7_readEquation 85 = .ok (.getfield 79, 3) := by decide +kernel
theorem dX7_readEquation_88 : decode cX7_readEquation 88 = .ok (.iaload, 1) := by decide +kernel
theorem dX7_readEquation_89 : decode cX7_readEquation 89 = .ok (.goto 4, 3) := by decide +kernel
theorem dX7_readEquation_92 : decode cX7_readEquation 92 = .ok (.iconst 0, 1) := by decide +kernel
theorem dX7_readEquation_93 : decode cX7_readEquation 93 = .ok (.istore_n 2, 1) := by decide +kernel
theorem dX7_readEquation_94 : decode cX7_readEquation 94 = .ok (.iload_n 2, 1) := by decide +kernel
theorem dX7_readEquation_95 : decode cX7_readEquation 95 = .ok (.bipush 61, 2) := by decide +kernel
theorem dX7_readEquation_97 : decode cX7_readEquation 97 = .ok (.if_icmp .eq 11, 3) := by decide +kernel
theorem dX7_readEquation_100 : decode cX7_readEquation 100 = .ok (.iload_n 2, 1) := by decide +kernel
theorem dX7_readEquation_101 : decode cX7_readEquation 101 = .ok (.bipush 33, 2) := by decide +kernel
theorem dX7_readEquation_103 : decode cX7_readEquation 103 = .ok (.if_icmp .eq 5, 3) := by decide +kernel
theorem dX7_readEquation_106 : decode cX7_readEquation 106 = .ok (.iconst 0, 1) := by decide +kernel
theorem dX7_readEquation_107 : decode cX7_readEquation 107 = .ok (.ireturn, 1) := by decide +kernel
theorem dX7_readEquation_108 : decode cX7_readEquation 108 = .ok (.aload_n 0, 1) := by decide +kernel
theorem dX7_readEquation_109 : decode cX7_readEquation 109 = .ok (.dup, 1) := by decide +kernel
theorem dX7_readEquation_110 : decode cX7_readEquation 110 = .ok (.getfield 79, 3) := by decide +kernel
theorem dX7_readEquation_113 : decode cX7_readEquation 113 = .ok (.iconst 1, 1) := by decide +kernel
theorem dX7_readEquation_114 : decode cX7_readEquation 114 = .ok (.iadd, 1) := by decide +kernel
theorem dX7_readEquation_115 : decode cX7_readEquation 115 = .ok (.putfield 79, 3) := by decide +kernel
theorem dX7_readEquation_118 : decode cX7_readEquation 118 = .ok (.aload_n 0, 1) := by decide +kernel
theorem dX7_readEquation_119 : decode cX7_readEquation 119 = .ok (.getfield 17, 3) := by decide +kernel
theorem dX7_readEquation_122 : decode cX7_readEquation 122 = .ok (.iload_n 1, 1) := by decide +kernel
theorem dX7_readEquation_123 : decode cX7_readEquation 123 = .ok (.iconst 3, 1) := by decide +kernel
theorem dX7_readEquation_124 : decode cX7_readEquation 124 = .ok (.iadd, 1) := by decide +kernel
theorem dX7_readEquation_125 : decode cX7_readEquation 125 = .ok (.iload_n 2, 1) := by decide +kernel
theorem dX7_readEquation_126 : decode cX7_readEquation 126 = .ok (.bipush 33, 2) := by decide +kernel
theorem dX7_readEquation_128 : decode cX7_readEquation 128 = .ok (.if_icmp .ne 7, 3) := by decide +kernel
theorem dX7_readEquation_131 : decode cX7_readEquation 131 = .ok (.iconst 1, 1) := by decide +kernel
theorem dX7_readEquation_132 : decode cX7_readEquation 132 = .ok (.goto 4, 3) := by decide +kernel
theorem dX7_readEquation_135 : decode cX7_readEquation 135 = .ok (.iconst 0, 1) := by decide +kernel
theorem dX7_readEquation_136 : decode cX7_readEquation 136 = .ok (.iastore, 1) := by decide +kernel
theorem dX7_readEquation_137 : decode cX7_readEquation 137 = .ok (.aload_n 0, 1) := by decide +kernel
theorem dX7_readEquation_138 : decode cX7_readEquation 138 = .ok (.getfield 17, 3) := by decide +kernel
theorem dX7_readEquation_141 : decode cX7_readEquation 141 = .ok (.iconst 1, 1) := by decide +kernel
theorem dX7_readEquation_142 : decode cX7_readEquation 142 = .ok (.dup2, 1) := by decide +kernel
theorem dX7_readEquation_143 : decode cX7_readEquation 143 = .ok (.iaload, 1) := by decide +kernel
theorem dX7_readEquation_144 : decode cX7_readEquation 144 = .ok (.iconst 1, 1) := by decide +kernel
theorem dX7_readEquation_145 : decode cX7_readEquation 145 = .ok (.iadd, 1) := by decide +kernel
theorem dX7_readEquation_146 : decode cX7_readEquation 146 = .ok (.iastore, 1) := by decide +kernel
theorem dX7_readEquation_147 : decode cX7_readEquation 147 = .ok (.iconst 1, 1) := by decide +kernel
theorem dX7_readEquation_148 : decode cX7_readEquation 148 = .ok (.ireturn, 1) := by decide +kernel
theorem dX7_isBare_0 : decode cX7_isBare 0 = .ok (.iload_n 1, 1) := by decide +kernel
theorem dX7_isBare_1 : decode cX7_isBare 1 = .ok (.i2l, 1) := by decide +kernel
theorem dX7_isBare_2 : decode cX7_isBare 2 = .ok (.lconst 1, 1) := by decide +kernel
theorem dX7_isBare_3 : decode cX7_isBare 3 = .ok (.aload_n 0, 1) := by decide +kernel
theorem dX7_isBare_4 : decode cX7_isBare 4 = .ok (.getfield 17, 3) := by decide +kernel
theorem dX7_isBare_7 : decode cX7_isBare 7 = .ok (.iconst 0, 1) := by decide +kernel
theorem dX7_isBare_8 : decode cX7_isBare 8 = .ok (.iaload, 1) := by decide +kernel
theorem dX7_isBare_9 : decode cX7_isBare 9 = .ok (.i2l, 1) := by decide +kernel
theorem dX7_isBare_10 : decode cX7_isBare 10 = .ok (.invokestatic 72, 3) := by decide +kernel
theorem dX7_isBare_13 : decode cX7_isBare 13 = .ok (.ifCond .eq 21, 3) := by decide +kernel
theorem dX7_isBare_16 : decode cX7_isBare 16 = .ok (.aload_n 0, 1) := by decide +kernel
theorem dX7_isBare_17 : decode cX7_isBare 17 = .ok (.getfield 17, 3) := by decide +kernel
theorem dX7_isBare_20 : decode cX7_isBare 20 = .ok (.bipush 18, 2) := by decide +kernel
theorem dX7_isBare_22 : decode cX7_isBare 22 = .ok (.iload_n 1, 1) := by decide +kernel
theorem dX7_isBare_23 : decode cX7_isBare 23 = .ok (.iadd, 1) := by decide +kernel
theorem dX7_isBare_24 : decode cX7_isBare 24 = .ok (.iconst 1, 1) := by decide +kernel
theorem dX7_isBare_25 : decode cX7_isBare 25 = .ok (.isub, 1) := by decide +kernel
theorem dX7_isBare_26 : decode cX7_isBare 26 = .ok (.iaload, 1) := by decide +kernel
theorem dX7_isBare_27 : decode cX7_isBare 27 = .ok (.ifCond .ne 7, 3) := by decide +kernel
theorem dX7_isBare_30 : decode cX7_isBare 30 = .ok (.iconst 1, 1) := by decide +kernel
theorem dX7_isBare_31 : decode cX7_isBare 31 = .ok (.goto 4, 3) := by decide +kernel
theorem dX7_isBare_34 : decode cX7_isBare 34 = .ok (.iconst 0, 1) := by decide +kernel
theorem dX7_isBare_35 : decode cX7_isBare 35 = .ok (.ireturn, 1) := by decide +kernel
theorem dX7_readPin_0 : decode cX7_readPin 0 = .ok (.iconst 0, 1) := by decide +kernel
theorem dX7_readPin_1 : decode cX7_readPin 1 = .ok (.istore_n 1, 1) := by decide +kernel
theorem dX7_readPin_2 : decode cX7_readPin 2 = .ok (.iconst 1, 1) := by decide +kernel
theorem dX7_readPin_3 : decode cX7_readPin 3 = .ok (.istore_n 2, 1) := by decide +kernel
theorem dX7_readPin_4 : decode cX7_readPin 4 = .ok (.iload_n 2, 1) := by decide +kernel
theorem dX7_readPin_5 : decode cX7_readPin 5 = .ok (.bipush 10, 2) := by decide +kernel
theorem dX7_readPin_7 : decode cX7_readPin 7 = .ok (.if_icmp .gt 27, 3) := by decide +kernel
theorem dX7_readPin_10 : decode cX7_readPin 10 = .ok (.iload_n 1, 1) := by decide +kernel
theorem dX7_readPin_11 : decode cX7_readPin 11 = .ok (.ifCond .ne 11, 3) := by decide +kernel
theorem dX7_readPin_14 : decode cX7_readPin 14 = .ok (.aload_n 0, 1) := by decide +kernel
theorem dX7_readPin_15 : decode cX7_readPin 15 = .ok (.iload_n 2, 1) := by decide +kernel
theorem dX7_readPin_16 : decode cX7_readPin 16 = .ok (.invokevirtual 92, 3) := by decide +kernel
theorem dX7_readPin_19 : decode cX7_readPin 19 = .ok (.ifCond .eq 7, 3) := by decide +kernel
theorem dX7_readPin_22 : decode cX7_readPin 22 = .ok (.iconst 1, 1) := by decide +kernel
