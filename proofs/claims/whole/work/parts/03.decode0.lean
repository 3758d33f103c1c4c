theorem dX0_init_0 : decode cX0_init 0 = .ok (.aload_n 0, 1) := by decide +kernel
theorem dX0_init_1 : decode cX0_init 1 = .ok (.invokespecial 3, 3) := by decide +kernel
theorem dX0_init_4 : decode cX0_init 4 = .ok (.aload_n 0, 1) := by decide +kernel
theorem dX0_init_5 : decode cX0_init 5 = .ok (.sipush 2048, 3) := by decide +kernel
theorem dX0_init_8 : decode cX0_init 8 = .ok (.newarray .int, 2) := by decide +kernel
theorem dX0_init_10 : decode cX0_init 10 = .ok (.putfield 11, 3) := by decide +kernel
theorem dX0_init_13 : decode cX0_init 13 = .ok (.aload_n 0, 1) := by decide +kernel
theorem dX0_init_14 : decode cX0_init 14 = .ok (.new 15, 3) := by decide +kernel
theorem dX0_init_17 : decode cX0_init 17 = .ok (.dup, 1) := by decide +kernel
theorem dX0_init_18 : decode cX0_init 18 = .ok (.invokespecial 17, 3) := by decide +kernel
theorem dX0_init_21 : decode cX0_init 21 = .ok (.putfield 18, 3) := by decide +kernel
theorem dX0_init_24 : decode cX0_init 24 = .ok (.return_, 1) := by decide +kernel
theorem dX0_fit_0 : decode cX0_fit 0 = .ok (.aload_n 0, 1) := by decide +kernel
theorem dX0_fit_1 : decode cX0_fit 1 = .ok (.aload_n 1, 1) := by decide +kernel
theorem dX0_fit_2 : decode cX0_fit 2 = .ok (.invokevirtual 22, 3) := by decide +kernel
theorem dX0_fit_5 : decode cX0_fit 5 = .ok (.ifCond .eq 4, 3) := by decide +kernel
theorem dX0_fit_8 : decode cX0_fit 8 = .ok (.return_, 1) := by decide +kernel
theorem dX0_fit_9 : decode cX0_fit 9 = .ok (.aload_n 0, 1) := by decide +kernel
theorem dX0_fit_10 : decode cX0_fit 10 = .ok (.getfield 18, 3) := by decide +kernel
theorem dX0_fit_13 : decode cX0_fit 13 = .ok (.aload_n 1, 1) := by decide +kernel
theorem dX0_fit_14 : decode cX0_fit 14 = .ok (.invokevirtual 26, 3) := by decide +kernel
theorem dX0_fit_17 : decode cX0_fit 17 = .ok (.aload_n 0, 1) := by decide +kernel
theorem dX0_fit_18 : decode cX0_fit 18 = .ok (.getfield 11, 3) := by decide +kernel
theorem dX0_fit_21 : decode cX0_fit 21 = .ok (.iconst 0, 1) := by decide +kernel
theorem dX0_fit_22 : decode cX0_fit 22 = .ok (.invokestatic 30, 3) := by decide +kernel
theorem dX0_fit_25 : decode cX0_fit 25 = .ok (.iconst 0, 1) := by decide +kernel
theorem dX0_fit_26 : decode cX0_fit 26 = .ok (.istore_n 2, 1) := by decide +kernel
theorem dX0_fit_27 : decode cX0_fit 27 = .ok (.iload_n 2, 1) := by decide +kernel
theorem dX0_fit_28 : decode cX0_fit 28 = .ok (.aload_n 0, 1) := by decide +kernel
theorem dX0_fit_29 : decode cX0_fit 29 = .ok (.getfield 18, 3) := by decide +kernel
theorem dX0_fit_32 : decode cX0_fit 32 = .ok (.getfield 36, 3) := by decide +kernel
theorem dX0_fit_35 : decode cX0_fit 35 = .ok (.if_icmp .ge 91, 3) := by decide +kernel
theorem dX0_fit_38 : decode cX0_fit 38 = .ok (.iconst 1, 1) := by decide +kernel
theorem dX0_fit_39 : decode cX0_fit 39 = .ok (.istore_n 3, 1) := by decide +kernel
theorem dX0_fit_40 : decode cX0_fit 40 = .ok (.iload_n 3, 1) := by decide +kernel
theorem dX0_fit_41 : decode cX0_fit 41 = .ok (.bipush 10, 2) := by decide +kernel
theorem dX0_fit_43 : decode cX0_fit 43 = .ok (.if_icmp .gt 77, 3) := by decide +kernel
theorem dX0_fit_46 : decode cX0_fit 46 = .ok (.iconst 1, 1) := by decide +kernel
theorem dX0_fit_47 : decode cX0_fit 47 = .ok (.istore 4, 2) := by decide +kernel
theorem dX0_fit_49 : decode cX0_fit 49 = .ok (.iload 4, 2) := by decide +kernel
theorem dX0_fit_51 : decode cX0_fit 51 = .ok (.bipush 10, 2) := by decide +kernel
theorem dX0_fit_53 : decode cX0_fit 53 = .ok (.if_icmp .gt 61, 3) := by decide +kernel
theorem dX0_fit_56 : decode cX0_fit 56 = .ok (.aload_n 0, 1) := by decide +kernel
theorem dX0_fit_57 : decode cX0_fit 57 = .ok (.getfield 18, 3) := by decide +kernel
theorem dX0_fit_60 : decode cX0_fit 60 = .ok (.iload_n 2, 1) := by decide +kernel
theorem dX0_fit_61 : decode cX0_fit 61 = .ok (.iload_n 3, 1) := by decide +kernel
theorem dX0_fit_62 : decode cX0_fit 62 = .ok (.iload 4, 2) := by decide +kernel
theorem dX0_fit_64 : decode cX0_fit 64 = .ok (.bipush 10, 2) := by decide +kernel
theorem dX0_fit_66 : decode cX0_fit 66 = .ok (.invokevirtual 40, 3) := by decide +kernel
theorem dX0_fit_69 : decode cX0_fit 69 = .ok (.istore 5, 2) := by decide +kernel
theorem dX0_fit_71 : decode cX0_fit 71 = .ok (.iload 5, 2) := by decide +kernel
theorem dX0_fit_73 : decode cX0_fit 73 = .ok (.iconst 1, 1) := by decide +kernel
theorem dX0_fit_74 : decode cX0_fit 74 = .ok (.if_icmp .lt 34, 3) := by decide +kernel
theorem dX0_fit_77 : decode cX0_fit 77 = .ok (.iload 5, 2) := by decide +kernel
theorem dX0_fit_79 : decode cX0_fit 79 = .ok (.bipush 10, 2) := by decide +kernel
theorem dX0_fit_81 : decode cX0_fit 81 = .ok (.if_icmp .gt 27, 3) := by decide +kernel
theorem dX0_fit_84 : decode cX0_fit 84 = .ok (.aload_n 0, 1) := by decide +kernel
theorem dX0_fit_85 : decode cX0_fit 85 = .ok (.getfield 11, 3) := by decide +kernel
theorem dX0_fit_88 : decode cX0_fit 88 = .ok (.iconst 1, 1) := by decide +kernel
theorem dX0_fit_89 : decode cX0_fit 89 = .ok (.iload_n 3, 1) := by decide +kernel
theorem dX0_fit_90 : decode cX0_fit 90 = .ok (.ishl, 1) := by decide +kernel
theorem dX0_fit_91 : decode cX0_fit 91 = .ok (.iconst 1, 1) := by decide +kernel
theorem dX0_fit_92 : decode cX0_fit 92 = .ok (.iload 4, 2) := by decide +kernel
theorem dX0_fit_94 : decode cX0_fit 94 = .ok (.ishl, 1) := by decide +kernel
theorem dX0_fit_95 : decode cX0_fit 95 = .ok (.ior, 1) := by decide +kernel
theorem dX0_fit_96 : decode cX0_fit 96 = .ok (.iconst 1, 1) := by decide +kernel
theorem dX0_fit_97 : decode cX0_fit 97 = .ok (.iload 5, 2) := by decide +kernel
theorem dX0_fit_99 : decode cX0_fit 99 = .ok (.ishl, 1) := by decide +kernel
theorem dX0_fit_100 : decode cX0_fit 100 = .ok (.ior, 1) := by decide +kernel
theorem dX0_fit_101 : decode cX0_fit 101 = .ok (.dup2, 1) := by decide +kernel
theorem dX0_fit_102 : decode cX0_fit 102 = .ok (.iaload, 1) := by decide +kernel
theorem dX0_fit_103 : decode cX0_fit 103 = .ok (.iconst 1, 1) := by decide +kernel
theorem dX0_fit_104 : decode cX0_fit 104 = .ok (.iload_n 2, 1) := by decide +kernel
theorem dX0_fit_105 : decode cX0_fit 105 = .ok (.ishl, 1) := by decide +kernel
theorem dX0_fit_106 : decode cX0_fit 106 = .ok (.ior, 1) := by decide +kernel
theorem dX0_fit_107 : decode cX0_fit 107 = .ok (.iastore, 1) := by decide +kernel
theorem dX0_fit_108 : decode cX0_fit 108 = .ok (.iinc 4 1, 3) := by decide +kernel
theorem dX0_fit_111 : decode cX0_fit 111 = .ok (.goto (-62), 3) := by decide +kernel
theorem dX0_fit_114 : decode cX0_fit 114 = .ok (.iinc 3 1, 3) := by decide +kernel
theorem dX0_fit_117 : decode cX0_fit 117 = .ok (.goto (-77), 3) := by decide +kernel
theorem dX0_fit_120 : decode cX0_fit 120 = .ok (.iinc 2 1, 3) := by decide +kernel
theorem dX0_fit_123 : decode cX0_fit 123 = .ok (.goto (-96), 3) := by decide +kernel
theorem dX0_fit_126 : decode cX0_fit 126 = .ok (.aload_n 0, 1) := by decide +kernel
theorem dX0_fit_127 : decode cX0_fit 127 = .ok (.invokevirtual 44, 3) := by decide +kernel
theorem dX0_fit_130 : decode cX0_fit 130 = .ok (.return_, 1) := by decide +kernel
theorem dX0_sameEquations_0 : decode cX0_sameEquations 0 = .ok (.aload_n 1, 1) := by decide +kernel
theorem dX0_sameEquations_1 : decode cX0_sameEquations 1 = .ok (.getfield 36, 3) := by decide +kernel
theorem dX0_sameEquations_4 : decode cX0_sameEquations 4 = .ok (.aload_n 0, 1) := by decide +kernel
theorem dX0_sameEquations_5 : decode cX0_sameEquations 5 = .ok (.getfield 18, 3) := by decide +kernel
theorem dX0_sameEquations_8 : decode cX0_sameEquations 8 = .ok (.getfield 36, 3) := by decide +kernel
theorem dX0_sameEquations_11 : decode cX0_sameEquations 11 = .ok (.if_icmp .eq 5, 3) := by decide +kernel
theorem dX0_sameEquations_14 : decode cX0_sameEquations 14 = .ok (.iconst 0, 1) := by decide +kernel
theorem dX0_sameEquations_15 : decode cX0_sameEquations 15 = .ok (.ireturn, 1) := by decide +kernel
theorem dX0_sameEquations_16 : decode cX0_sameEquations 16 = .ok (.iconst 4, 1) := by decide +kernel
theorem dX0_sameEquations_17 : decode cX0_sameEquations 17 = .ok (.aload_n 1, 1) := by decide +kernel
theorem dX0_sameEquations_18 : decode cX0_sameEquations 18 = .ok (.getfield 36, 3) := by decide +kernel
theorem dX0_sameEquations_21 : decode cX0_sameEquations 21 = .ok (.imul, 1) := by decide +kernel
theorem dX0_sameEquations_22 : decode cX0_sameEquations 22 = .ok (.istore_n 2, 1) := by decide +kernel
theorem dX0_sameEquations_23 : decode cX0_sameEquations 23 = .ok (.iconst 0, 1) := by decide +kernel
theorem dX0_sameEquations_24 : decode cX0_sameEquations 24 = .ok (.istore_n 3, 1) := by decide +kernel
theorem dX0_sameEquations_25 : decode cX0_sameEquations 25 = .ok (.iload_n 3, 1) := by decide +kernel
theorem dX0_sameEquations_26 : decode cX0_sameEquations 26 = .ok (.iload_n 2, 1) := by decide +kernel
theorem dX0_sameEquations_27 : decode cX0_sameEquations 27 = .ok (.if_icmp .ge 50, 3) := by decide +kernel
theorem dX0_sameEquations_30 : decode cX0_sameEquations 30 = .ok (.iload_n 3, 1) := by decide +kernel
theorem dX0_sameEquations_31 : decode cX0_sameEquations 31 = .ok (.aload_n 1, 1) := by decide +kernel
theorem dX0_sameEquations_32 : decode cX0_sameEquations 32 = .ok (.getfield 47, 3) := by decide +kernel
theorem dX0_sameEquations_35 : decode cX0_sameEquations 35 = .ok (.arraylength, 1) := by decide +kernel
theorem dX0_sameEquations_36 : decode cX0_sameEquations 36 = .ok (.if_icmp .ge 41, 3) := by decide +kernel
theorem dX0_sameEquations_39 : decode cX0_sameEquations 39 = .ok (.iload_n 3, 1) := by decide +kernel
theorem dX0_sameEquations_40 : decode cX0_sameEquations 40 = .ok (.aload_n 0, 1) := by decide +kernel
theorem dX0_sameEquations_41 : decode cX0_sameEquations 41 = .ok (.getfield 18, 3) := by decide +kernel
theorem dX0_sameEquations_44 : decode cX0_sameEquations 44 = .ok (.getfield 47, 3) := by decide +kernel
theorem dX0_sameEquations_47 : decode cX0_sameEquations 47 = .ok (.arraylength, 1) := by decide +kernel
theorem dX0_sameEquations_48 : decode cX0_sameEquations 48 = .ok (.if_icmp .ge 29, 3) := by decide +kernel
theorem dX0_sameEquations_51 : decode cX0_sameEquations 51 = .ok (.aload_n 1, 1) := by decide +kernel
theorem dX0_sameEquations_52 : decode cX0_sameEquations 52 = .ok (.getfield 47, 3) := by decide +kernel
theorem dX0_sameEquations_55 : decode cX0_sameEquations 55 = .ok (.iload_n 3, 1) := by decide +kernel
theorem dX0_sameEquations_56 : decode cX0_sameEquations 56 = .ok (.iaload, 1) := by decide +kernel
theorem dX0_sameEquations_57 : decode cX0_sameEquations 57 = .ok (.aload_n 0, 1) := by decide +kernel
theorem dX0_sameEquations_58 : decode cX0_sameEquations 58 = .ok (.getfield 18, 3) := by decide +kernel
theorem dX0_sameEquations_61 : decode cX0_sameEquations 61 = .ok (.getfield 47, 3) := by decide +kernel
theorem dX0_sameEquations_64 : decode cX0_sameEquations 64 = .ok (.iload_n 3, 1) := by decide +kernel
theorem dX0_sameEquations_65 : decode cX0_sameEquations 65 = .ok (.iaload, 1) := by decide +kernel
theorem dX0_sameEquations_66 : decode cX0_sameEquations 66 = .ok (.if_icmp .eq 5, 3) := by decide +kernel
theorem dX0_sameEquations_69 : decode cX0_sameEquations 69 = .ok (.iconst 0, 1) := by decide +kernel
theorem dX0_sameEquations_70 : decode cX0_sameEquations 70 = .ok (.ireturn, 1) := by decide +kernel
theorem dX0_sameEquations_71 : decode cX0_sameEquations 71 = .ok (.iinc 3 1, 3) := by decide +kernel
theorem dX0_sameEquations_74 : decode cX0_sameEquations 74 = .ok (.goto (-49), 3) := by decide +kernel
theorem dX0_sameEquations_77 : decode cX0_sameEquations 77 = .ok (.iconst 1, 1) := by decide +kernel
theorem dX0_sameEquations_78 : decode cX0_sameEquations 78 = .ok (.ireturn, 1) := by decide +kernel
theorem dX0_spread_0 : decode cX0_spread 0 = .ok (.iconst 0, 1) := by decide +kernel
theorem dX0_spread_1 : decode cX0_spread 1 = .ok (.istore_n 1, 1) := by decide +kernel
theorem dX0_spread_2 : decode cX0_spread 2 = .ok (.iload_n 1, 1) := by decide +kernel
theorem dX0_spread_3 : decode cX0_spread 3 = .ok (.sipush 2048, 3) := by decide +kernel
theorem dX0_spread_6 : decode cX0_spread 6 = .ok (.if_icmp .ge 44, 3) := by decide +kernel
theorem dX0_spread_9 : decode cX0_spread 9 = .ok (.iconst 1, 1) := by decide +kernel
theorem dX0_spread_10 : decode cX0_spread 10 = .ok (.istore_n 2, 1) := by decide +kernel
theorem dX0_spread_11 : decode cX0_spread 11 = .ok (.iload_n 2, 1) := by decide +kernel
theorem dX0_spread_12 : decode cX0_spread 12 = .ok (.bipush 10, 2) := by decide +kernel
theorem dX0_spread_14 : decode cX0_spread 14 = .ok (.if_icmp .gt 30, 3) := by decide +kernel
theorem dX0_spread_17 : decode cX0_spread 17 = .ok (.aload_n 0, 1) := by decide +kernel
theorem dX0_spread_18 : decode cX0_spread 18 = .ok (.getfield 11, 3) := by decide +kernel
theorem dX0_spread_21 : decode cX0_spread 21 = .ok (.iload_n 1, 1) := by decide +kernel
theorem dX0_spread_22 : decode cX0_spread 22 = .ok (.dup2, 1) := by decide +kernel
theorem dX0_spread_23 : decode cX0_spread 23 = .ok (.iaload, 1) := by decide +kernel
theorem dX0_spread_24 : decode cX0_spread 24 = .ok (.aload_n 0, 1) := by decide +kernel
theorem dX0_spread_25 : decode cX0_spread 25 = .ok (.getfield 11, 3) := by decide +kernel
theorem dX0_spread_28 : decode cX0_spread 28 = .ok (.iload_n 1, 1) := by decide +kernel
theorem dX0_spread_29 : decode cX0_spread 29 = .ok (.iconst 1, 1) := by decide +kernel
theorem dX0_spread_30 : decode cX0_spread 30 = .ok (.iload_n 2, 1) := by decide +kernel
theorem dX0_spread_31 : decode cX0_spread 31 = .ok (.ishl, 1) := by decide +kernel
theorem dX0_spread_32 : decode cX0_spread 32 = .ok (.iconst (-1), 1) := by decide +kernel
theorem dX0_spread_33 : decode cX0_spread 33 = .ok (.ixor, 1) := by decide +kernel
theorem dX0_spread_34 : decode cX0_spread 34 = .ok (.iand, 1) := by decide +kernel
theorem dX0_spread_35 : decode cX0_spread 35 = .ok (.iaload, 1) := by decide +kernel
theorem dX0_spread_36 : decode cX0_spread 36 = .ok (.ior, 1) := by decide +kernel
theorem dX0_spread_37 : decode cX0_spread 37 = .ok (.iastore, 1) := by decide +kernel
theorem dX0_spread_38 : decode cX0_spread 38 = .ok (.iinc 2 1, 3) := by decide +kernel
theorem dX0_spread_41 : decode cX0_spread 41 = .ok (.goto (-30), 3) := by decide +kernel
theorem dX0_spread_44 : decode cX0_spread 44 = .ok (.iinc 1 1, 3) := by decide +kernel
theorem dX0_spread_47 : decode cX0_spread 47 = .ok (.goto (-45), 3) := by decide +kernel
theorem dX0_spread_50 : decode cX0_spread 50 = .ok (.return_, 1) := by decide +kernel
theorem dX0_in_0 : decode cX0_in 0 = .ok (.iload_n 1, 1) := by decide +kernel
theorem dX0_in_1 : decode cX0_in 1 = .ok (.ifCond .lt 19, 3) := by decide +kernel
theorem dX0_in_4 : decode cX0_in 4 = .ok (.iload_n 1, 1) := by decide +kernel
theorem dX0_in_5 : decode cX0_in 5 = .ok (.sipush 2048, 3) := by decide +kernel
theorem dX0_in_8 : decode cX0_in 8 = .ok (.if_icmp .ge 12, 3) := by decide +kernel
theorem dX0_in_11 : decode cX0_in 11 = .ok (.aload_n 0, 1) := by decide +kernel
theorem dX0_in_12 : decode cX0_in 12 = .ok (.getfield 11, 3) := by decide +kernel
theorem dX0_in_15 : decode cX0_in 15 = .ok (.iload_n 1, 1) := by decide +kernel
theorem dX0_in_16 : decode cX0_in 16 = .ok (.iaload, 1) := by decide +kernel
theorem dX0_in_17 : decode cX0_in 17 = .ok (.goto 4, 3) := by decide +kernel
theorem dX0_in_20 : decode cX0_in 20 = .ok (.iconst 0, 1) := by decide +kernel
theorem dX0_in_21 : decode cX0_in 21 = .ok (.ireturn, 1) := by decide +kernel
theorem dX1_init_0 : decode cX1_init 0 = .ok (.aload_n 0, 1) := by decide +kernel
theorem dX1_init_1 : decode cX1_init 1 = .ok (.invokespecial 1, 3) := by decide +kernel
theorem dX1_init_4 : decode cX1_init 4 = .ok (.aload_n 0, 1) := by decide +kernel
theorem dX1_init_5 : decode cX1_init 5 = .ok (.bipush 14, 2) := by decide +kernel
theorem dX1_init_7 : decode cX1_init 7 = .ok (.anewarray 9, 3) := by decide +kernel
theorem dX1_init_10 : decode cX1_init 10 = .ok (.putfield 11, 3) := by decide +kernel
theorem dX1_init_13 : decode cX1_init 13 = .ok (.iconst 0, 1) := by decide +kernel
theorem dX1_init_14 : decode cX1_init 14 = .ok (.istore_n 1, 1) := by decide +kernel
theorem dX1_init_15 : decode cX1_init 15 = .ok (.iload_n 1, 1) := by decide +kernel
theorem dX1_init_16 : decode cX1_init 16 = .ok (.bipush 14, 2) := by decide +kernel
theorem dX1_init_18 : decode cX1_init 18 = .ok (.if_icmp .ge 22, 3) := by decide +kernel
theorem dX1_init_21 : decode cX1_init 21 = .ok (.aload_n 0, 1) := by decide +kernel
theorem dX1_init_22 : decode cX1_init 22 = .ok (.getfield 11, 3) := by decide +kernel
theorem dX1_init_25 : decode cX1_init 25 = .ok (.iload_n 1, 1) := by decide +kernel
theorem dX1_init_26 : decode cX1_init 26 = .ok (.new 9, 3) := by decide +kernel
theorem dX1_init_29 : decode cX1_init 29 = .ok (.dup, 1) := by decide +kernel
theorem dX1_init_30 : decode cX1_init 30 = .ok (.invokespecial 15, 3) := by decide +kernel
theorem dX1_init_33 : decode cX1_init 33 = .ok (.aastore, 1) := by decide +kernel
theorem dX1_init_34 : decode cX1_init 34 = .ok (.iinc 1 1, 3) := by decide +kernel
theorem dX1_init_37 : decode cX1_init 37 = .ok (.goto (-22), 3) := by decide +kernel
theorem dX1_init_40 : decode cX1_init 40 = .ok (.return_, 1) := by decide +kernel
theorem dX1_remember_0 : decode cX1_remember 0 = .ok (.aload_n 0, 1) := by decide +kernel
theorem dX1_remember_1 : decode cX1_remember 1 = .ok (.aload_n 0, 1) := by decide +kernel
theorem dX1_remember_2 : decode cX1_remember 2 = .ok (.getfield 16, 3) := by decide +kernel
theorem dX1_remember_5 : decode cX1_remember 5 = .ok (.invokevirtual 20, 3) := by decide +kernel
theorem dX1_remember_8 : decode cX1_remember 8 = .ok (.astore_n 2, 1) := by decide +kernel
theorem dX1_remember_9 : decode cX1_remember 9 = .ok (.aload_n 2, 1) := by decide +kernel
theorem dX1_remember_10 : decode cX1_remember 10 = .ok (.ifnonnull 4, 3) := by decide +kernel
theorem dX1_remember_13 : decode cX1_remember 13 = .ok (.return_, 1) := by decide +kernel
theorem dX1_remember_14 : decode cX1_remember 14 = .ok (.aload_n 2, 1) := by decide +kernel
theorem dX1_remember_15 : decode cX1_remember 15 = .ok (.aload_n 1, 1) := by decide +kernel
theorem dX1_remember_16 : decode cX1_remember 16 = .ok (.invokevirtual 24, 3) := by decide +kernel
theorem dX1_remember_19 : decode cX1_remember 19 = .ok (.aload_n 0, 1) := by decide +kernel
theorem dX1_remember_20 : decode cX1_remember 20 = .ok (.aload_n 0, 1) := by decide +kernel
theorem dX1_remember_21 : decode cX1_remember 21 = .ok (.getfield 16, 3) := by decide +kernel
theorem dX1_remember_24 : decode cX1_remember 24 = .ok (.iconst 1, 1) := by decide +kernel
theorem dX1_remember_25 : decode cX1_remember 25 = .ok (.iadd, 1) := by decide +kernel
theorem dX1_remember_26 : decode cX1_remember 26 = .ok (.bipush 14, 2) := by decide +kernel
theorem dX1_remember_28 : decode cX1_remember 28 = .ok (.irem, 1) := by decide +kernel
theorem dX1_remember_29 : decode cX1_remember 29 = .ok (.putfield 16, 3) := by decide +kernel
theorem dX1_remember_32 : decode cX1_remember 32 = .ok (.aload_n 0, 1) := by decide +kernel
theorem dX1_remember_33 : decode cX1_remember 33 = .ok (.aload_n 0, 1) := by decide +kernel
theorem dX1_remember_34 : decode cX1_remember 34 = .ok (.getfield 28, 3) := by decide +kernel
theorem dX1_remember_37 : decode cX1_remember 37 = .ok (.iconst 1, 1) := by decide +kernel
theorem dX1_remember_38 : decode cX1_remember 38 = .ok (.iadd, 1) := by decide +kernel
theorem dX1_remember_39 : decode cX1_remember 39 = .ok (.bipush 14, 2) := by decide +kernel
theorem dX1_remember_41 : decode cX1_remember 41 = .ok (.invokestatic 31, 3) := by decide +kernel
theorem dX1_remember_44 : decode cX1_remember 44 = .ok (.putfield 28, 3) := by decide +kernel
theorem dX1_remember_47 : decode cX1_remember 47 = .ok (.return_, 1) := by decide +kernel
theorem dX1_restore_0 : decode cX1_restore 0 = .ok (.aload_n 0, 1) := by decide +kernel
theorem dX1_restore_1 : decode cX1_restore 1 = .ok (.getfield 16, 3) := by decide +kernel
theorem dX1_restore_4 : decode cX1_restore 4 = .ok (.bipush 14, 2) := by decide +kernel
theorem dX1_restore_6 : decode cX1_restore 6 = .ok (.iadd, 1) := by decide +kernel
theorem dX1_restore_7 : decode cX1_restore 7 = .ok (.iconst 1, 1) := by decide +kernel
theorem dX1_restore_8 : decode cX1_restore 8 = .ok (.isub, 1) := by decide +kernel
theorem dX1_restore_9 : decode cX1_restore 9 = .ok (.bipush 14, 2) := by decide +kernel
theorem dX1_restore_11 : decode cX1_restore 11 = .ok (.irem, 1) := by decide +kernel
theorem dX1_restore_12 : decode cX1_restore 12 = .ok (.istore_n 2, 1) := by decide +kernel
theorem dX1_restore_13 : decode cX1_restore 13 = .ok (.aload_n 0, 1) := by decide +kernel
theorem dX1_restore_14 : decode cX1_restore 14 = .ok (.getfield 28, 3) := by decide +kernel
theorem dX1_restore_17 : decode cX1_restore 17 = .ok (.ifCond .le 11, 3) := by decide +kernel
theorem dX1_restore_20 : decode cX1_restore 20 = .ok (.aload_n 0, 1) := by decide +kernel
theorem dX1_restore_21 : decode cX1_restore 21 = .ok (.iload_n 2, 1) := by decide +kernel
theorem dX1_restore_22 : decode cX1_restore 22 = .ok (.invokevirtual 20, 3) := by decide +kernel
theorem dX1_restore_25 : decode cX1_restore 25 = .ok (.goto 4, 3) := by decide +kernel
theorem dX1_restore_28 : decode cX1_restore 28 = .ok (.aconst_null, 1) := by decide +kernel
theorem dX1_restore_29 : decode cX1_restore 29 = .ok (.astore_n 3, 1) := by decide +kernel
theorem dX1_restore_30 : decode cX1_restore 30 = .ok (.aload_n 3, 1) := by decide +kernel
theorem dX1_restore_31 : decode cX1_restore 31 = .ok (.ifnonnull 5, 3) := by decide +kernel
theorem dX1_restore_34 : decode cX1_restore 34 = .ok (.iconst 0, 1) := by decide +kernel
theorem dX1_restore_35 : decode cX1_restore 35 = .ok (.ireturn, 1) := by decide +kernel
theorem dX1_restore_36 : decode cX1_restore 36 = .ok (.aload_n 1, 1) := by decide +kernel
theorem dX1_restore_37 : decode cX1_restore 37 = .ok (.aload_n 3, 1) := by decide +kernel
theorem dX1_restore_38 : decode cX1_restore 38 = .ok (.invokevirtual 24, 3) := by decide +kernel
theorem dX1_restore_41 : decode cX1_restore 41 = .ok (.aload_n 0, 1) := by decide +kernel
theorem dX1_restore_42 : decode cX1_restore 42 = .ok (.iload_n 2, 1) := by decide +kernel
theorem dX1_restore_43 : decode cX1_restore 43 = .ok (.putfield 16, 3) := by decide +kernel
theorem dX1_restore_46 : decode cX1_restore 46 = .ok (.aload_n 0, 1) := by decide +kernel
theorem dX1_restore_47 : decode cX1_restore 47 = .ok (.dup, 1) := by decide +kernel
theorem dX1_restore_48 : decode cX1_restore 48 = .ok (.getfield 28, 3) := by decide +kernel
theorem dX1_restore_51 : decode cX1_restore 51 = .ok (.iconst 1, 1) := by decide +kernel
theorem dX1_restore_52 : decode cX1_restore 52 = .ok (.isub, 1) := by decide +kernel
theorem dX1_restore_53 : decode cX1_restore 53 = .ok (.putfield 28, 3) := by decide +kernel
theorem dX1_restore_56 : decode cX1_restore 56 = .ok (.iconst 1, 1) := by decide +kernel
theorem dX1_restore_57 : decode cX1_restore 57 = .ok (.ireturn, 1) := by decide +kernel
theorem dX1_forget_0 : decode cX1_forget 0 = .ok (.aload_n 0, 1) := by decide +kernel
theorem dX1_forget_1 : decode cX1_forget 1 = .ok (.iconst 0, 1) := by decide +kernel
theorem dX1_forget_2 : decode cX1_forget 2 = .ok (.putfield 28, 3) := by decide +kernel
theorem dX1_forget_5 : decode cX1_forget 5 = .ok (.return_, 1) := by decide +kernel
theorem dX1_at_0 : decode cX1_at 0 = .ok (.iload_n 1, 1) := by decide +kernel
theorem dX1_at_1 : decode cX1_at 1 = .ok (.ifCond .lt 18, 3) := by decide +kernel
theorem dX1_at_4 : decode cX1_at 4 = .ok (.iload_n 1, 1) := by decide +kernel
theorem dX1_at_5 : decode cX1_at 5 = .ok (.bipush 14, 2) := by decide +kernel
theorem dX1_at_7 : decode cX1_at 7 = .ok (.if_icmp .ge 12, 3) := by decide +kernel
theorem dX1_at_10 : decode cX1_at 10 = .ok (.aload_n 0, 1) := by decide +kernel
theorem dX1_at_11 : decode cX1_at 11 = .ok (.getfield 11, 3) := by decide +kernel
theorem dX1_at_14 : decode cX1_at 14 = .ok (.iload_n 1, 1) := by decide +kernel
theorem dX1_at_15 : decode cX1_at 15 = .ok (.aaload, 1) := by decide +kernel
theorem dX1_at_16 : decode cX1_at 16 = .ok (.goto 4, 3) := by decide +kernel
theorem dX1_at_19 : decode cX1_at 19 = .ok (.aconst_null, 1) := by decide +kernel
theorem dX1_at_20 : decode cX1_at 20 = .ok (.areturn, 1) := by decide +kernel
theorem dX2_init_0 : decode cX2_init 0 = .ok (.aload_n 0, 1) := by decide +kernel
theorem dX2_init_1 : decode cX2_init 1 = .ok (.invokespecial 1, 3) := by decide +kernel
theorem dX2_init_4 : decode cX2_init 4 = .ok (.aload_n 0, 1) := by decide +kernel
theorem dX2_init_5 : decode cX2_init 5 = .ok (.bipush 6, 2) := by decide +kernel
theorem dX2_init_7 : decode cX2_init 7 = .ok (.newarray .int, 2) := by decide +kernel
theorem dX2_init_9 : decode cX2_init 9 = .ok (.putfield 9, 3) := by decide +kernel
theorem dX2_init_12 : decode cX2_init 12 = .ok (.aload_n 0, 1) := by decide +kernel
theorem dX2_init_13 : decode cX2_init 13 = .ok (.bipush 6, 2) := by decide +kernel
theorem dX2_init_15 : decode cX2_init 15 = .ok (.newarray .boolean, 2) := by decide +kernel
theorem dX2_init_17 : decode cX2_init 17 = .ok (.putfield 13, 3) := by decide +kernel
theorem dX2_init_20 : decode cX2_init 20 = .ok (.return_, 1) := by decide +kernel
theorem dX2_note_0 : decode cX2_note 0 = .ok (.aload_n 0, 1) := by decide +kernel
theorem dX2_note_1 : decode cX2_note 1 = .ok (.getfield 17, 3) := by decide +kernel
theorem dX2_note_4 : decode cX2_note 4 = .ok (.ifCond .lt 12, 3) := by decide +kernel
theorem dX2_note_7 : decode cX2_note 7 = .ok (.aload_n 0, 1) := by decide +kernel
theorem dX2_note_8 : decode cX2_note 8 = .ok (.getfield 17, 3) := by decide +kernel
theorem dX2_note_11 : decode cX2_note 11 = .ok (.bipush 6, 2) := by decide +kernel
theorem dX2_note_13 : decode cX2_note 13 = .ok (.if_icmp .lt 5, 3) := by decide +kernel
theorem dX2_note_16 : decode cX2_note 16 = .ok (.iconst 0, 1) := by decide +kernel
theorem dX2_note_17 : decode cX2_note 17 = .ok (.ireturn, 1) := by decide +kernel
theorem dX2_note_18 : decode cX2_note 18 = .ok (.aload_n 0, 1) := by decide +kernel
theorem dX2_note_19 : decode cX2_note 19 = .ok (.getfield 9, 3) := by decide +kernel
theorem dX2_note_22 : decode cX2_note 22 = .ok (.aload_n 0, 1) := by decide +kernel
theorem dX2_note_23 : decode cX2_note 23 = .ok (.getfield 17, 3) := by decide +kernel
theorem dX2_note_26 : decode cX2_note 26 = .ok (.iload_n 1, 1) := by decide +kernel
theorem dX2_note_27 : decode cX2_note 27 = .ok (.iastore, 1) := by decide +kernel
theorem dX2_note_28 : decode cX2_note 28 = .ok (.aload_n 0, 1) := by decide +kernel
theorem dX2_note_29 : decode cX2_note 29 = .ok (.getfield 13, 3) := by decide +kernel
theorem dX2_note_32 : decode cX2_note 32 = .ok (.aload_n 0, 1) := by decide +kernel
theorem dX2_note_33 : decode cX2_note 33 = .ok (.getfield 17, 3) := by decide +kernel
theorem dX2_note_36 : decode cX2_note 36 = .ok (.iload_n 2, 1) := by decide +kernel
theorem dX2_note_37 : decode cX2_note 37 = .ok (.bastore, 1) := by decide +kernel
theorem dX2_note_38 : decode cX2_note 38 = .ok (.aload_n 0, 1) := by decide +kernel
theorem dX2_note_39 : decode cX2_note 39 = .ok (.dup, 1) := by decide +kernel
theorem dX2_note_40 : decode cX2_note 40 = .ok (.getfield 17, 3) := by decide +kernel
theorem dX2_note_43 : decode cX2_note 43 = .ok (.iconst 1, 1) := by decide +kernel
theorem dX2_note_44 : decode cX2_note 44 = .ok (.iadd, 1) := by decide +kernel
theorem dX2_note_45 : decode cX2_note 45 = .ok (.putfield 17, 3) := by decide +kernel
theorem dX2_note_48 : decode cX2_note 48 = .ok (.iconst 1, 1) := by decide +kernel
theorem dX2_note_49 : decode cX2_note 49 = .ok (.ireturn, 1) := by decide +kernel
theorem dX2_agree_0 : decode cX2_agree 0 = .ok (.iconst 0, 1) := by decide +kernel
theorem dX2_agree_1 : decode cX2_agree 1 = .ok (.istore_n 3, 1) := by decide +kernel
theorem dX2_agree_2 : decode cX2_agree 2 = .ok (.iload_n 3, 1) := by decide +kernel
theorem dX2_agree_3 : decode cX2_agree 3 = .ok (.aload_n 0, 1) := by decide +kernel
theorem dX2_agree_4 : decode cX2_agree 4 = .ok (.getfield 17, 3) := by decide +kernel
theorem dX2_agree_7 : decode cX2_agree 7 = .ok (.if_icmp .ge 117, 3) := by decide +kernel
theorem dX2_agree_10 : decode cX2_agree 10 = .ok (.iload_n 3, 1) := by decide +kernel
theorem dX2_agree_11 : decode cX2_agree 11 = .ok (.bipush 6, 2) := by decide +kernel
theorem dX2_agree_13 : decode cX2_agree 13 = .ok (.if_icmp .ge 111, 3) := by decide +kernel
theorem dX2_agree_16 : decode cX2_agree 16 = .ok (.aload_n 0, 1) := by decide +kernel
theorem dX2_agree_17 : decode cX2_agree 17 = .ok (.getfield 9, 3) := by decide +kernel
theorem dX2_agree_20 : decode cX2_agree 20 = .ok (.iload_n 3, 1) := by decide +kernel
theorem dX2_agree_21 : decode cX2_agree 21 = .ok (.iaload, 1) := by decide +kernel
theorem dX2_agree_22 : decode cX2_agree 22 = .ok (.iload_n 2, 1) := by decide +kernel
theorem dX2_agree_23 : decode cX2_agree 23 = .ok (.iconst 1, 1) := by decide +kernel
theorem dX2_agree_24 : decode cX2_agree 24 = .ok (.iadd, 1) := by decide +kernel
theorem dX2_agree_25 : decode cX2_agree 25 = .ok (.ishr, 1) := by decide +kernel
theorem dX2_agree_26 : decode cX2_agree 26 = .ok (.ifCond .eq 7, 3) := by decide +kernel
theorem dX2_agree_29 : decode cX2_agree 29 = .ok (.iconst 1, 1) := by decide +kernel
theorem dX2_agree_30 : decode cX2_agree 30 = .ok (.goto 4, 3) := by decide +kernel
theorem dX2_agree_33 : decode cX2_agree 33 = .ok (.iconst 0, 1) := by decide +kernel
theorem dX2_agree_34 : decode cX2_agree 34 = .ok (.istore 4, 2) := by decide +kernel
theorem dX2_agree_36 : decode cX2_agree 36 = .ok (.iconst 0, 1) := by decide +kernel
theorem dX2_agree_37 : decode cX2_agree 37 = .ok (.istore 5, 2) := by decide +kernel
theorem dX2_agree_39 : decode cX2_agree 39 = .ok (.aload_n 1, 1) := by decide +kernel
theorem dX2_agree_40 : decode cX2_agree 40 = .ok (.astore 6, 2) := by decide +kernel
theorem dX2_agree_42 : decode cX2_agree 42 = .ok (.aload 6, 2) := by decide +kernel
theorem dX2_agree_44 : decode cX2_agree 44 = .ok (.arraylength, 1) := by decide +kernel
theorem dX2_agree_45 : decode cX2_agree 45 = .ok (.istore 7, 2) := by decide +kernel
theorem dX2_agree_47 : decode cX2_agree 47 = .ok (.iconst 0, 1) := by decide +kernel
theorem dX2_agree_48 : decode cX2_agree 48 = .ok (.istore 8, 2) := by decide +kernel
theorem dX2_agree_50 : decode cX2_agree 50 = .ok (.iload 8, 2) := by decide +kernel
theorem dX2_agree_52 : decode cX2_agree 52 = .ok (.iload 7, 2) := by decide +kernel
theorem dX2_agree_54 : decode cX2_agree 54 = .ok (.if_icmp .ge 46, 3) := by decide +kernel
theorem dX2_agree_57 : decode cX2_agree 57 = .ok (.aload 6, 2) := by decide +kernel
theorem dX2_agree_59 : decode cX2_agree 59 = .ok (.iload 8, 2) := by decide +kernel
theorem dX2_agree_61 : decode cX2_agree 61 = .ok (.iaload, 1) := by decide +kernel
theorem dX2_agree_62 : decode cX2_agree 62 = .ok (.istore 9, 2) := by decide +kernel
theorem dX2_agree_64 : decode cX2_agree 64 = .ok (.iload 5, 2) := by decide +kernel
theorem dX2_agree_66 : decode cX2_agree 66 = .ok (.ifCond .ne 21, 3) := by decide +kernel
theorem dX2_agree_69 : decode cX2_agree 69 = .ok (.iload 9, 2) := by decide +kernel
theorem dX2_agree_71 : decode cX2_agree 71 = .ok (.aload_n 0, 1) := by decide +kernel
theorem dX2_agree_72 : decode cX2_agree 72 = .ok (.getfield 9, 3) := by decide +kernel
theorem dX2_agree_75 : decode cX2_agree 75 = .ok (.iload_n 3, 1) := by decide +kernel
theorem dX2_agree_76 : decode cX2_agree 76 = .ok (.iaload, 1) := by decide +kernel
theorem dX2_agree_77 : decode cX2_agree 77 = .ok (.iand, 1) := by decide +kernel
theorem dX2_agree_78 : decode cX2_agree 78 = .ok (.aload_n 0, 1) := by decide +kernel
theorem dX2_agree_79 : decode cX2_agree 79 = .ok (.getfield 9, 3) := by decide +kernel
theorem dX2_agree_82 : decode cX2_agree 82 = .ok (.iload_n 3, 1) := by decide +kernel
theorem dX2_agree_83 : decode cX2_agree 83 = .ok (.iaload, 1) := by decide +kernel
theorem dX2_agree_84 : decode cX2_agree 84 = .ok (.if_icmp .ne 7, 3) := by decide +kernel
theorem dX2_agree_87 : decode cX2_agree 87 = .ok (.iconst 1, 1) := by decide +kernel
theorem dX2_agree_88 : decode cX2_agree 88 = .ok (.goto 4, 3) := by decide +kernel
theorem dX2_agree_91 : decode cX2_agree 91 = .ok (.iconst 0, 1) := by decide +kernel
theorem dX2_agree_92 : decode cX2_agree 92 = .ok (.istore 5, 2) := by decide +kernel
theorem dX2_agree_94 : decode cX2_agree 94 = .ok (.iinc 8 1, 3) := by decide +kernel
theorem dX2_agree_97 : decode cX2_agree 97 = .ok (.goto (-47), 3) := by decide +kernel
theorem dX2_agree_100 : decode cX2_agree 100 = .ok (.iload 4, 2) := by decide +kernel
theorem dX2_agree_102 : decode cX2_agree 102 = .ok (.ifCond .ne 16, 3) := by decide +kernel
theorem dX2_agree_105 : decode cX2_agree 105 = .ok (.iload 5, 2) := by decide +kernel
theorem dX2_agree_107 : decode cX2_agree 107 = .ok (.aload_n 0, 1) := by decide +kernel
theorem dX2_agree_108 : decode cX2_agree 108 = .ok (.getfield 13, 3) := by decide +kernel
theorem dX2_agree_111 : decode cX2_agree 111 = .ok (.iload_n 3, 1) := by decide +kernel
theorem dX2_agree_112 : decode cX2_agree 112 = .ok (.baload, 1) := by decide +kernel
theorem dX2_agree_113 : decode cX2_agree 113 = .ok (.if_icmp .eq 5, 3) := by decide +kernel
theorem dX2_agree_116 : decode cX2_agree 116 = .ok (.iconst 0, 1) := by decide +kernel
theorem dX2_agree_117 : decode cX2_agree 117 = .ok (.ireturn, 1) := by decide +kernel
theorem dX2_agree_118 : decode cX2_agree 118 = .ok (.iinc 3 1, 3) := by decide +kernel
theorem dX2_agree_121 : decode cX2_agree 121 = .ok (.goto (-119), 3) := by decide +kernel
theorem dX2_agree_124 : decode cX2_agree 124 = .ok (.iconst 1, 1) := by decide +kernel
theorem dX2_agree_125 : decode cX2_agree 125 = .ok (.ireturn, 1) := by decide +kernel
theorem dX3_init_0 : decode cX3_init 0 = .ok (.aload_n 0, 1) := by decide +kernel
theorem dX3_init_1 : decode cX3_init 1 = .ok (.invokespecial 3, 3) := by decide +kernel
theorem dX3_init_4 : decode cX3_init 4 = .ok (.aload_n 0, 1) := by decide +kernel
theorem dX3_init_5 : decode cX3_init 5 = .ok (.bipush 16, 2) := by decide +kernel
theorem dX3_init_7 : decode cX3_init 7 = .ok (.newarray .int, 2) := by decide +kernel
theorem dX3_init_9 : decode cX3_init 9 = .ok (.putfield 11, 3) := by decide +kernel
theorem dX3_init_12 : decode cX3_init 12 = .ok (.aload_n 0, 1) := by decide +kernel
theorem dX3_init_13 : decode cX3_init 13 = .ok (.bipush 11, 2) := by decide +kernel
theorem dX3_init_15 : decode cX3_init 15 = .ok (.newarray .int, 2) := by decide +kernel
theorem dX3_init_17 : decode cX3_init 17 = .ok (.putfield 15, 3) := by decide +kernel
theorem dX3_init_20 : decode cX3_init 20 = .ok (.aload_n 0, 1) := by decide +kernel
theorem dX3_init_21 : decode cX3_init 21 = .ok (.iconst 3, 1) := by decide +kernel
theorem dX3_init_22 : decode cX3_init 22 = .ok (.newarray .int, 2) := by decide +kernel
theorem dX3_init_24 : decode cX3_init 24 = .ok (.putfield 18, 3) := by decide +kernel
theorem dX3_init_27 : decode cX3_init 27 = .ok (.return_, 1) := by decide +kernel
theorem dX3_start_0 : decode cX3_start 0 = .ok (.aload_n 0, 1) := by decide +kernel
theorem dX3_start_1 : decode cX3_start 1 = .ok (.iload_n 1, 1) := by decide +kernel
theorem dX3_start_2 : decode cX3_start 2 = .ok (.putfield 21, 3) := by decide +kernel
theorem dX3_start_5 : decode cX3_start 5 = .ok (.aload_n 0, 1) := by decide +kernel
theorem dX3_start_6 : decode cX3_start 6 = .ok (.iload_n 2, 1) := by decide +kernel
theorem dX3_start_7 : decode cX3_start 7 = .ok (.putfield 25, 3) := by decide +kernel
theorem dX3_start_10 : decode cX3_start 10 = .ok (.aload_n 0, 1) := by decide +kernel
theorem dX3_start_11 : decode cX3_start 11 = .ok (.iconst 0, 1) := by decide +kernel
theorem dX3_start_12 : decode cX3_start 12 = .ok (.putfield 28, 3) := by decide +kernel
theorem dX3_start_15 : decode cX3_start 15 = .ok (.aload_n 0, 1) := by decide +kernel
theorem dX3_start_16 : decode cX3_start 16 = .ok (.iconst 0, 1) := by decide +kernel
theorem dX3_start_17 : decode cX3_start 17 = .ok (.putfield 31, 3) := by decide +kernel
theorem dX3_start_20 : decode cX3_start 20 = .ok (.aload_n 0, 1) := by decide +kernel
theorem dX3_start_21 : decode cX3_start 21 = .ok (.invokevirtual 35, 3) := by decide +kernel
theorem dX3_start_24 : decode cX3_start 24 = .ok (.aload_n 0, 1) := by decide +kernel
theorem dX3_start_25 : decode cX3_start 25 = .ok (.getfield 18, 3) := by decide +kernel
theorem dX3_start_28 : decode cX3_start 28 = .ok (.iconst 0, 1) := by decide +kernel
theorem dX3_start_29 : decode cX3_start 29 = .ok (.invokestatic 38, 3) := by decide +kernel
theorem dX3_start_32 : decode cX3_start 32 = .ok (.return_, 1) := by decide +kernel
theorem dX3_copy_0 : decode cX3_copy 0 = .ok (.aload_n 0, 1) := by decide +kernel
theorem dX3_copy_1 : decode cX3_copy 1 = .ok (.aload_n 1, 1) := by decide +kernel
theorem dX3_copy_2 : decode cX3_copy 2 = .ok (.getfield 21, 3) := by decide +kernel
theorem dX3_copy_5 : decode cX3_copy 5 = .ok (.putfield 21, 3) := by decide +kernel
theorem dX3_copy_8 : decode cX3_copy 8 = .ok (.aload_n 0, 1) := by decide +kernel
theorem dX3_copy_9 : decode cX3_copy 9 = .ok (.aload_n 1, 1) := by decide +kernel
theorem dX3_copy_10 : decode cX3_copy 10 = .ok (.getfield 25, 3) := by decide +kernel
theorem dX3_copy_13 : decode cX3_copy 13 = .ok (.putfield 25, 3) := by decide +kernel
theorem dX3_copy_16 : decode cX3_copy 16 = .ok (.aload_n 0, 1) := by decide +kernel
theorem dX3_copy_17 : decode cX3_copy 17 = .ok (.aload_n 1, 1) := by decide +kernel
theorem dX3_copy_18 : decode cX3_copy 18 = .ok (.getfield 28, 3) := by decide +kernel
theorem dX3_copy_21 : decode cX3_copy 21 = .ok (.putfield 28, 3) := by decide +kernel
theorem dX3_copy_24 : decode cX3_copy 24 = .ok (.aload_n 0, 1) := by decide +kernel
theorem dX3_copy_25 : decode cX3_copy 25 = .ok (.aload_n 1, 1) := by decide +kernel
theorem dX3_copy_26 : decode cX3_copy 26 = .ok (.getfield 31, 3) := by decide +kernel
theorem dX3_copy_29 : decode cX3_copy 29 = .ok (.putfield 31, 3) := by decide +kernel
theorem dX3_copy_32 : decode cX3_copy 32 = .ok (.aload_n 1, 1) := by decide +kernel
theorem dX3_copy_33 : decode cX3_copy 33 = .ok (.getfield 11, 3) := by decide +kernel
theorem dX3_copy_36 : decode cX3_copy 36 = .ok (.iconst 0, 1) := by decide +kernel
theorem dX3_copy_37 : decode cX3_copy 37 = .ok (.aload_n 0, 1) := by decide +kernel
theorem dX3_copy_38 : decode cX3_copy 38 = .ok (.getfield 11, 3) := by decide +kernel
theorem dX3_copy_41 : decode cX3_copy 41 = .ok (.iconst 0, 1) := by decide +kernel
theorem dX3_copy_42 : decode cX3_copy 42 = .ok (.bipush 16, 2) := by decide +kernel
theorem dX3_copy_44 : decode cX3_copy 44 = .ok (.invokestatic 44, 3) := by decide +kernel
theorem dX3_copy_47 : decode cX3_copy 47 = .ok (.aload_n 1, 1) := by decide +kernel
theorem dX3_copy_48 : decode cX3_copy 48 = .ok (.getfield 15, 3) := by decide +kernel
theorem dX3_copy_51 : decode cX3_copy 51 = .ok (.iconst 0, 1) := by decide +kernel
theorem dX3_copy_52 : decode cX3_copy 52 = .ok (.aload_n 0, 1) := by decide +kernel
theorem dX3_copy_53 : decode cX3_copy 53 = .ok (.getfield 15, 3) := by decide +kernel
theorem dX3_copy_56 : decode cX3_copy 56 = .ok (.iconst 0, 1) := by decide +kernel
theorem dX3_copy_57 : decode cX3_copy 57 = .ok (.bipush 11, 2) := by decide +kernel
theorem dX3_copy_59 : decode cX3_copy 59 = .ok (.invokestatic 44, 3) := by decide +kernel
theorem dX3_copy_62 : decode cX3_copy 62 = .ok (.aload_n 1, 1) := by decide +kernel
theorem dX3_copy_63 : decode cX3_copy 63 = .ok (.getfield 18, 3) := by decide +kernel
theorem dX3_copy_66 : decode cX3_copy 66 = .ok (.iconst 0, 1) := by decide +kernel
theorem dX3_copy_67 : decode cX3_copy 67 = .ok (.aload_n 0, 1) := by decide +kernel
theorem dX3_copy_68 : decode cX3_copy 68 = .ok (.getfield 18, 3) := by decide +kernel
theorem dX3_copy_71 : decode cX3_copy 71 = .ok (.iconst 0, 1) := by decide +kernel
theorem dX3_copy_72 : decode cX3_copy 72 = .ok (.iconst 3, 1) := by decide +kernel
theorem dX3_copy_73 : decode cX3_copy 73 = .ok (.invokestatic 44, 3) := by decide +kernel
theorem dX3_copy_76 : decode cX3_copy 76 = .ok (.return_, 1) := by decide +kernel
theorem dX3_has_0 : decode cX3_has 0 = .ok (.iload_n 1, 1) := by decide +kernel
theorem dX3_has_1 : decode cX3_has 1 = .ok (.iconst 1, 1) := by decide +kernel
theorem dX3_has_2 : decode cX3_has 2 = .ok (.if_icmp .lt 21, 3) := by decide +kernel
theorem dX3_has_5 : decode cX3_has 5 = .ok (.iload_n 1, 1) := by decide +kernel
theorem dX3_has_6 : decode cX3_has 6 = .ok (.aload_n 0, 1) := by decide +kernel
theorem dX3_has_7 : decode cX3_has 7 = .ok (.getfield 21, 3) := by decide +kernel
theorem dX3_has_10 : decode cX3_has 10 = .ok (.if_icmp .gt 13, 3) := by decide +kernel
theorem dX3_has_13 : decode cX3_has 13 = .ok (.iload_n 1, 1) := by decide +kernel
theorem dX3_has_14 : decode cX3_has 14 = .ok (.bipush 10, 2) := by decide +kernel
theorem dX3_has_16 : decode cX3_has 16 = .ok (.if_icmp .gt 7, 3) := by decide +kernel
theorem dX3_has_19 : decode cX3_has 19 = .ok (.iconst 1, 1) := by decide +kernel
theorem dX3_has_20 : decode cX3_has 20 = .ok (.goto 4, 3) := by decide +kernel
theorem dX3_has_23 : decode cX3_has 23 = .ok (.iconst 0, 1) := by decide +kernel
theorem dX3_has_24 : decode cX3_has 24 = .ok (.ireturn, 1) := by decide +kernel
theorem dX3_hasColour_0 : decode cX3_hasColour 0 = .ok (.iload_n 1, 1) := by decide +kernel
theorem dX3_hasColour_1 : decode cX3_hasColour 1 = .ok (.ifCond .lt 20, 3) := by decide +kernel
theorem dX3_hasColour_4 : decode cX3_hasColour 4 = .ok (.iload_n 1, 1) := by decide +kernel
theorem dX3_hasColour_5 : decode cX3_hasColour 5 = .ok (.aload_n 0, 1) := by decide +kernel
theorem dX3_hasColour_6 : decode cX3_hasColour 6 = .ok (.getfield 25, 3) := by decide +kernel
theorem dX3_hasColour_9 : decode cX3_hasColour 9 = .ok (.if_icmp .ge 12, 3) := by decide +kernel
theorem dX3_hasColour_12 : decode cX3_hasColour 12 = .ok (.iload_n 1, 1) := by decide +kernel
theorem dX3_hasColour_13 : decode cX3_hasColour 13 = .ok (.iconst 3, 1) := by decide +kernel
theorem dX3_hasColour_14 : decode cX3_hasColour 14 = .ok (.if_icmp .ge 7, 3) := by decide +kernel
theorem dX3_hasColour_17 : decode cX3_hasColour 17 = .ok (.iconst 1, 1) := by decide +kernel
theorem dX3_hasColour_18 : decode cX3_hasColour 18 = .ok (.goto 4, 3) := by decide +kernel
theorem dX3_hasColour_21 : decode cX3_hasColour 21 = .ok (.iconst 0, 1) := by decide +kernel
theorem dX3_hasColour_22 : decode cX3_hasColour 22 = .ok (.ireturn, 1) := by decide +kernel
theorem dX3_hasEquation_0 : decode cX3_hasEquation 0 = .ok (.iload_n 1, 1) := by decide +kernel
theorem dX3_hasEquation_1 : decode cX3_hasEquation 1 = .ok (.ifCond .lt 20, 3) := by decide +kernel
theorem dX3_hasEquation_4 : decode cX3_hasEquation 4 = .ok (.iload_n 1, 1) := by decide +kernel
theorem dX3_hasEquation_5 : decode cX3_hasEquation 5 = .ok (.aload_n 0, 1) := by decide +kernel
theorem dX3_hasEquation_6 : decode cX3_hasEquation 6 = .ok (.getfield 28, 3) := by decide +kernel
theorem dX3_hasEquation_9 : decode cX3_hasEquation 9 = .ok (.if_icmp .ge 12, 3) := by decide +kernel
theorem dX3_hasEquation_12 : decode cX3_hasEquation 12 = .ok (.iload_n 1, 1) := by decide +kernel
theorem dX3_hasEquation_13 : decode cX3_hasEquation 13 = .ok (.iconst 4, 1) := by decide +kernel
theorem dX3_hasEquation_14 : decode cX3_hasEquation 14 = .ok (.if_icmp .ge 7, 3) := by decide +kernel
theorem dX3_hasEquation_17 : decode cX3_hasEquation 17 = .ok (.iconst 1, 1) := by decide +kernel
theorem dX3_hasEquation_18 : decode cX3_hasEquation 18 = .ok (.goto 4, 3) := by decide +kernel
theorem dX3_hasEquation_21 : decode cX3_hasEquation 21 = .ok (.iconst 0, 1) := by decide +kernel
theorem dX3_hasEquation_22 : decode cX3_hasEquation 22 = .ok (.ireturn, 1) := by decide +kernel
theorem dX3_part_0 : decode cX3_part 0 = .ok (.aload_n 0, 1) := by decide +kernel
theorem dX3_part_1 : decode cX3_part 1 = .ok (.iload_n 1, 1) := by decide +kernel
theorem dX3_part_2 : decode cX3_part 2 = .ok (.invokevirtual 50, 3) := by decide +kernel
theorem dX3_part_5 : decode cX3_part 5 = .ok (.ifCond .eq 16, 3) := by decide +kernel
theorem dX3_part_8 : decode cX3_part 8 = .ok (.iload_n 2, 1) := by decide +kernel
theorem dX3_part_9 : decode cX3_part 9 = .ok (.ifCond .lt 12, 3) := by decide +kernel
theorem dX3_part_12 : decode cX3_part 12 = .ok (.iload_n 2, 1) := by decide +kernel
theorem dX3_part_13 : decode cX3_part 13 = .ok (.iconst 4, 1) := by decide +kernel
theorem dX3_part_14 : decode cX3_part 14 = .ok (.if_icmp .ge 7, 3) := by decide +kernel
theorem dX3_part_17 : decode cX3_part 17 = .ok (.iconst 1, 1) := by decide +kernel
theorem dX3_part_18 : decode cX3_part 18 = .ok (.goto 4, 3) := by decide +kernel
theorem dX3_part_21 : decode cX3_part 21 = .ok (.iconst 0, 1) := by decide +kernel
theorem dX3_part_22 : decode cX3_part 22 = .ok (.istore_n 3, 1) := by decide +kernel
theorem dX3_part_23 : decode cX3_part 23 = .ok (.iload_n 3, 1) := by decide +kernel
theorem dX3_part_24 : decode cX3_part 24 = .ok (.ifCond .eq 16, 3) := by decide +kernel
theorem dX3_part_27 : decode cX3_part 27 = .ok (.aload_n 0, 1) := by decide +kernel
theorem dX3_part_28 : decode cX3_part 28 = .ok (.getfield 11, 3) := by decide +kernel
theorem dX3_part_31 : decode cX3_part 31 = .ok (.iconst 4, 1) := by decide +kernel
theorem dX3_part_32 : decode cX3_part 32 = .ok (.iload_n 1, 1) := by decide +kernel
theorem dX3_part_33 : decode cX3_part 33 = .ok (.imul, 1) := by decide +kernel
theorem dX3_part_34 : decode cX3_part 34 = .ok (.iload_n 2, 1) := by decide +kernel
theorem dX3_part_35 : decode cX3_part 35 = .ok (.iadd, 1) := by decide +kernel
theorem dX3_part_36 : decode cX3_part 36 = .ok (.iaload, 1) := by decide +kernel
theorem dX3_part_37 : decode cX3_part 37 = .ok (.goto 4, 3) := by decide +kernel
theorem dX3_part_40 : decode cX3_part 40 = .ok (.iconst 0, 1) := by decide +kernel
theorem dX3_part_41 : decode cX3_part 41 = .ok (.ireturn, 1) := by decide +kernel
theorem dX3_append_0 : decode cX3_append 0 = .ok (.aload_n 0, 1) := by decide +kernel
theorem dX3_append_1 : decode cX3_append 1 = .ok (.getfield 28, 3) := by decide +kernel
theorem dX3_append_4 : decode cX3_append 4 = .ok (.ifCond .lt 11, 3) := by decide +kernel
theorem dX3_append_7 : decode cX3_append 7 = .ok (.aload_n 0, 1) := by decide +kernel
theorem dX3_append_8 : decode cX3_append 8 = .ok (.getfield 28, 3) := by decide +kernel
theorem dX3_append_11 : decode cX3_append 11 = .ok (.iconst 4, 1) := by decide +kernel
theorem dX3_append_12 : decode cX3_append 12 = .ok (.if_icmp .lt 4, 3) := by decide +kernel
theorem dX3_append_15 : decode cX3_append 15 = .ok (.return_, 1) := by decide +kernel
theorem dX3_append_16 : decode cX3_append 16 = .ok (.iconst 4, 1) := by decide +kernel
theorem dX3_append_17 : decode cX3_append 17 = .ok (.aload_n 0, 1) := by decide +kernel
theorem dX3_append_18 : decode cX3_append 18 = .ok (.getfield 28, 3) := by decide +kernel
theorem dX3_append_21 : decode cX3_append 21 = .ok (.imul, 1) := by decide +kernel
theorem dX3_append_22 : decode cX3_append 22 = .ok (.istore 5, 2) := by decide +kernel
theorem dX3_append_24 : decode cX3_append 24 = .ok (.aload_n 0, 1) := by decide +kernel
theorem dX3_append_25 : decode cX3_append 25 = .ok (.getfield 11, 3) := by decide +kernel
theorem dX3_append_28 : decode cX3_append 28 = .ok (.iload 5, 2) := by decide +kernel
theorem dX3_append_30 : decode cX3_append 30 = .ok (.iload_n 1, 1) := by decide +kernel
theorem dX3_append_31 : decode cX3_append 31 = .ok (.iastore, 1) := by decide +kernel
theorem dX3_append_32 : decode cX3_append 32 = .ok (.aload_n 0, 1) := by decide +kernel
theorem dX3_append_33 : decode cX3_append 33 = .ok (.getfield 11, 3) := by decide +kernel
theorem dX3_append_36 : decode cX3_append 36 = .ok (.iload 5, 2) := by decide +kernel
theorem dX3_append_38 : decode cX3_append 38 = .ok (.iconst 1, 1) := by decide +kernel
theorem dX3_append_39 : decode cX3_append 39 = .ok (.iadd, 1) := by decide +kernel
theorem dX3_append_40 : decode cX3_append 40 = .ok (.iload_n 2, 1) := by decide +kernel
theorem dX3_append_41 : decode cX3_append 41 = .ok (.iastore, 1) := by decide +kernel
theorem dX3_append_42 : decode cX3_append 42 = .ok (.aload_n 0, 1) := by decide +kernel
theorem dX3_append_43 : decode cX3_append 43 = .ok (.getfield 11, 3) := by decide +kernel
theorem dX3_append_46 : decode cX3_append 46 = .ok (.iload 5, 2) := by decide +kernel
theorem dX3_append_48 : decode cX3_append 48 = .ok (.iconst 2, 1) := by decide +kernel
theorem dX3_append_49 : decode cX3_append 49 = .ok (.iadd, 1) := by decide +kernel
theorem dX3_append_50 : decode cX3_append 50 = .ok (.iload_n 3, 1) := by decide +kernel
theorem dX3_append_51 : decode cX3_append 51 = .ok (.iastore, 1) := by decide +kernel
theorem dX3_append_52 : decode cX3_append 52 = .ok (.aload_n 0, 1) := by decide +kernel
theorem dX3_append_53 : decode cX3_append 53 = .ok (.getfield 11, 3) := by decide +kernel
theorem dX3_append_56 : decode cX3_append 56 = .ok (.iload 5, 2) := by decide +kernel
theorem dX3_append_58 : decode cX3_append 58 = .ok (.iconst 3, 1) := by decide +kernel
theorem dX3_append_59 : decode cX3_append 59 = .ok (.iadd, 1) := by decide +kernel
theorem dX3_append_60 : decode cX3_append 60 = .ok (.iload 4, 2) := by decide +kernel
theorem dX3_append_62 : decode cX3_append 62 = .ok (.iastore, 1) := by decide +kernel
theorem dX3_append_63 : decode cX3_append 63 = .ok (.aload_n 0, 1) := by decide +kernel
theorem dX3_append_64 : decode cX3_append 64 = .ok (.dup, 1) := by decide +kernel
theorem dX3_append_65 : decode cX3_append 65 = .ok (.getfield 28, 3) := by decide +kernel
theorem dX3_append_68 : decode cX3_append 68 = .ok (.iconst 1, 1) := by decide +kernel
theorem dX3_append_69 : decode cX3_append 69 = .ok (.iadd, 1) := by decide +kernel
theorem dX3_append_70 : decode cX3_append 70 = .ok (.putfield 28, 3) := by decide +kernel
theorem dX3_append_73 : decode cX3_append 73 = .ok (.return_, 1) := by decide +kernel
theorem dX3_regular_0 : decode cX3_regular 0 = .ok (.aload_n 0, 1) := by decide +kernel
theorem dX3_regular_1 : decode cX3_regular 1 = .ok (.iload_n 1, 1) := by decide +kernel
theorem dX3_regular_2 : decode cX3_regular 2 = .ok (.iconst 0, 1) := by decide +kernel
theorem dX3_regular_3 : decode cX3_regular 3 = .ok (.invokevirtual 54, 3) := by decide +kernel
theorem dX3_regular_6 : decode cX3_regular 6 = .ok (.istore_n 2, 1) := by decide +kernel
theorem dX3_regular_7 : decode cX3_regular 7 = .ok (.aload_n 0, 1) := by decide +kernel
theorem dX3_regular_8 : decode cX3_regular 8 = .ok (.iload_n 1, 1) := by decide +kernel
theorem dX3_regular_9 : decode cX3_regular 9 = .ok (.iconst 1, 1) := by decide +kernel
theorem dX3_regular_10 : decode cX3_regular 10 = .ok (.invokevirtual 54, 3) := by decide +kernel
theorem dX3_regular_13 : decode cX3_regular 13 = .ok (.istore_n 3, 1) := by decide +kernel
theorem dX3_regular_14 : decode cX3_regular 14 = .ok (.aload_n 0, 1) := by decide +kernel
theorem dX3_regular_15 : decode cX3_regular 15 = .ok (.iload_n 1, 1) := by decide +kernel
theorem dX3_regular_16 : decode cX3_regular 16 = .ok (.iconst 2, 1) := by decide +kernel
theorem dX3_regular_17 : decode cX3_regular 17 = .ok (.invokevirtual 54, 3) := by decide +kernel
theorem dX3_regular_20 : decode cX3_regular 20 = .ok (.istore 4, 2) := by decide +kernel
theorem dX3_regular_22 : decode cX3_regular 22 = .ok (.iload_n 2, 1) := by decide +kernel
theorem dX3_regular_23 : decode cX3_regular 23 = .ok (.iload_n 3, 1) := by decide +kernel
theorem dX3_regular_24 : decode cX3_regular 24 = .ok (.iadd, 1) := by decide +kernel
theorem dX3_regular_25 : decode cX3_regular 25 = .ok (.ifCond .eq 26, 3) := by decide +kernel
theorem dX3_regular_28 : decode cX3_regular 28 = .ok (.iload_n 2, 1) := by decide +kernel
theorem dX3_regular_29 : decode cX3_regular 29 = .ok (.iload 4, 2) := by decide +kernel
theorem dX3_regular_31 : decode cX3_regular 31 = .ok (.isub, 1) := by decide +kernel
theorem dX3_regular_32 : decode cX3_regular 32 = .ok (.ifCond .eq 19, 3) := by decide +kernel
theorem dX3_regular_35 : decode cX3_regular 35 = .ok (.iload_n 3, 1) := by decide +kernel
theorem dX3_regular_36 : decode cX3_regular 36 = .ok (.iload 4, 2) := by decide +kernel
theorem dX3_regular_38 : decode cX3_regular 38 = .ok (.isub, 1) := by decide +kernel
theorem dX3_regular_39 : decode cX3_regular 39 = .ok (.ifCond .eq 12, 3) := by decide +kernel
theorem dX3_regular_42 : decode cX3_regular 42 = .ok (.iload_n 2, 1) := by decide +kernel
theorem dX3_regular_43 : decode cX3_regular 43 = .ok (.iload_n 3, 1) := by decide +kernel
theorem dX3_regular_44 : decode cX3_regular 44 = .ok (.iadd, 1) := by decide +kernel
theorem dX3_regular_45 : decode cX3_regular 45 = .ok (.iload 4, 2) := by decide +kernel
theorem dX3_regular_47 : decode cX3_regular 47 = .ok (.isub, 1) := by decide +kernel
theorem dX3_regular_48 : decode cX3_regular 48 = .ok (.ifCond .ne 7, 3) := by decide +kernel
theorem dX3_regular_51 : decode cX3_regular 51 = .ok (.iconst 1, 1) := by decide +kernel
theorem dX3_regular_52 : decode cX3_regular 52 = .ok (.goto 4, 3) := by decide +kernel
theorem dX3_regular_55 : decode cX3_regular 55 = .ok (.iconst 0, 1) := by decide +kernel
theorem dX3_regular_56 : decode cX3_regular 56 = .ok (.ireturn, 1) := by decide +kernel
theorem dX3_third_0 : decode cX3_third 0 = .ok (.iload_n 1, 1) := by decide +kernel
theorem dX3_third_1 : decode cX3_third 1 = .ok (.ifCond .lt 8, 3) := by decide +kernel
theorem dX3_third_4 : decode cX3_third 4 = .ok (.iload_n 1, 1) := by decide +kernel
theorem dX3_third_5 : decode cX3_third 5 = .ok (.iconst 4, 1) := by decide +kernel
theorem dX3_third_6 : decode cX3_third 6 = .ok (.if_icmp .lt 5, 3) := by decide +kernel
theorem dX3_third_9 : decode cX3_third 9 = .ok (.iconst 0, 1) := by decide +kernel
theorem dX3_third_10 : decode cX3_third 10 = .ok (.ireturn, 1) := by decide +kernel
theorem dX3_third_11 : decode cX3_third 11 = .ok (.iconst 4, 1) := by decide +kernel
theorem dX3_third_12 : decode cX3_third 12 = .ok (.iload_n 1, 1) := by decide +kernel
theorem dX3_third_13 : decode cX3_third 13 = .ok (.imul, 1) := by decide +kernel
theorem dX3_third_14 : decode cX3_third 14 = .ok (.istore 5, 2) := by decide +kernel
theorem dX3_third_16 : decode cX3_third 16 = .ok (.aload_n 0, 1) := by decide +kernel
theorem dX3_third_17 : decode cX3_third 17 = .ok (.getfield 11, 3) := by decide +kernel
theorem dX3_third_20 : decode cX3_third 20 = .ok (.iload 5, 2) := by decide +kernel
theorem dX3_third_22 : decode cX3_third 22 = .ok (.iconst 2, 1) := by decide +kernel
theorem dX3_third_23 : decode cX3_third 23 = .ok (.iadd, 1) := by decide +kernel
theorem dX3_third_24 : decode cX3_third 24 = .ok (.iaload, 1) := by decide +kernel
theorem dX3_third_25 : decode cX3_third 25 = .ok (.istore 6, 2) := by decide +kernel
theorem dX3_third_27 : decode cX3_third 27 = .ok (.aload_n 0, 1) := by decide +kernel
theorem dX3_third_28 : decode cX3_third 28 = .ok (.getfield 11, 3) := by decide +kernel
theorem dX3_third_31 : decode cX3_third 31 = .ok (.iload 5, 2) := by decide +kernel
theorem dX3_third_33 : decode cX3_third 33 = .ok (.iaload, 1) := by decide +kernel
theorem dX3_third_34 : decode cX3_third 34 = .ok (.iload_n 2, 1) := by decide +kernel
theorem dX3_third_35 : decode cX3_third 35 = .ok (.imul, 1) := by decide +kernel
theorem dX3_third_36 : decode cX3_third 36 = .ok (.aload_n 0, 1) := by decide +kernel
theorem dX3_third_37 : decode cX3_third 37 = .ok (.getfield 11, 3) := by decide +kernel
theorem dX3_third_40 : decode cX3_third 40 = .ok (.iload 5, 2) := by decide +kernel
theorem dX3_third_42 : decode cX3_third 42 = .ok (.iconst 1, 1) := by decide +kernel
theorem dX3_third_43 : decode cX3_third 43 = .ok (.iadd, 1) := by decide +kernel
theorem dX3_third_44 : decode cX3_third 44 = .ok (.iaload, 1) := by decide +kernel
theorem dX3_third_45 : decode cX3_third 45 = .ok (.iload_n 3, 1) := by decide +kernel
theorem dX3_third_46 : decode cX3_third 46 = .ok (.imul, 1) := by decide +kernel
theorem dX3_third_47 : decode cX3_third 47 = .ok (.iadd, 1) := by decide +kernel
theorem dX3_third_48 : decode cX3_third 48 = .ok (.istore 7, 2) := by decide +kernel
theorem dX3_third_50 : decode cX3_third 50 = .ok (.iload 6, 2) := by decide +kernel
theorem dX3_third_52 : decode cX3_third 52 = .ok (.ifCond .eq 11, 3) := by decide +kernel
theorem dX3_third_55 : decode cX3_third 55 = .ok (.iload 7, 2) := by decide +kernel
theorem dX3_third_57 : decode cX3_third 57 = .ok (.iload 6, 2) := by decide +kernel
theorem dX3_third_59 : decode cX3_third 59 = .ok (.irem, 1) := by decide +kernel
theorem dX3_third_60 : decode cX3_third 60 = .ok (.ifCond .eq 5, 3) := by decide +kernel
theorem dX3_third_63 : decode cX3_third 63 = .ok (.iconst 0, 1) := by decide +kernel
theorem dX3_third_64 : decode cX3_third 64 = .ok (.ireturn, 1) := by decide +kernel
theorem dX3_third_65 : decode cX3_third 65 = .ok (.iload 7, 2) := by decide +kernel
theorem dX3_third_67 : decode cX3_third 67 = .ok (.iload 6, 2) := by decide +kernel
theorem dX3_third_69 : decode cX3_third 69 = .ok (.idiv, 1) := by decide +kernel
theorem dX3_third_70 : decode cX3_third 70 = .ok (.istore 8, 2) := by decide +kernel
theorem dX3_third_72 : decode cX3_third 72 = .ok (.iload_n 2, 1) := by decide +kernel
theorem dX3_third_73 : decode cX3_third 73 = .ok (.iload_n 3, 1) := by decide +kernel
theorem dX3_third_74 : decode cX3_third 74 = .ok (.if_icmp .eq 15, 3) := by decide +kernel
theorem dX3_third_77 : decode cX3_third 77 = .ok (.iload_n 2, 1) := by decide +kernel
theorem dX3_third_78 : decode cX3_third 78 = .ok (.iload 8, 2) := by decide +kernel
theorem dX3_third_80 : decode cX3_third 80 = .ok (.if_icmp .eq 9, 3) := by decide +kernel
theorem dX3_third_83 : decode cX3_third 83 = .ok (.iload_n 3, 1) := by decide +kernel
theorem dX3_third_84 : decode cX3_third 84 = .ok (.iload 8, 2) := by decide +kernel
theorem dX3_third_86 : decode cX3_third 86 = .ok (.if_icmp .ne 7, 3) := by decide +kernel
theorem dX3_third_89 : decode cX3_third 89 = .ok (.iconst 1, 1) := by decide +kernel
theorem dX3_third_90 : decode cX3_third 90 = .ok (.goto 4, 3) := by decide +kernel
theorem dX3_third_93 : decode cX3_third 93 = .ok (.iconst 0, 1) := by decide +kernel
theorem dX3_third_94 : decode cX3_third 94 = .ok (.istore 9, 2) := by decide +kernel
theorem dX3_third_96 : decode cX3_third 96 = .ok (.iload 8, 2) := by decide +kernel
theorem dX3_third_98 : decode cX3_third 98 = .ok (.iconst 1, 1) := by decide +kernel
theorem dX3_third_99 : decode cX3_third 99 = .ok (.if_icmp .lt 28, 3) := by decide +kernel
theorem dX3_third_102 : decode cX3_third 102 = .ok (.iload 8, 2) := by decide +kernel
theorem dX3_third_104 : decode cX3_third 104 = .ok (.iload 4, 2) := by decide +kernel
theorem dX3_third_106 : decode cX3_third 106 = .ok (.if_icmp .gt 21, 3) := by decide +kernel
theorem dX3_third_109 : decode cX3_third 109 = .ok (.iload 9, 2) := by decide +kernel
theorem dX3_third_111 : decode cX3_third 111 = .ok (.ifCond .eq 18, 3) := by decide +kernel
theorem dX3_third_114 : decode cX3_third 114 = .ok (.aload_n 0, 1) := by decide +kernel
theorem dX3_third_115 : decode cX3_third 115 = .ok (.getfield 11, 3) := by decide +kernel
theorem dX3_third_118 : decode cX3_third 118 = .ok (.iload 5, 2) := by decide +kernel
theorem dX3_third_120 : decode cX3_third 120 = .ok (.iconst 3, 1) := by decide +kernel
theorem dX3_third_121 : decode cX3_third 121 = .ok (.iadd, 1) := by decide +kernel
theorem dX3_third_122 : decode cX3_third 122 = .ok (.iaload, 1) := by decide +kernel
theorem dX3_third_123 : decode cX3_third 123 = .ok (.iconst 1, 1) := by decide +kernel
theorem dX3_third_124 : decode cX3_third 124 = .ok (.if_icmp .ne 5, 3) := by decide +kernel
theorem dX3_third_127 : decode cX3_third 127 = .ok (.iconst 0, 1) := by decide +kernel
theorem dX3_third_128 : decode cX3_third 128 = .ok (.ireturn, 1) := by decide +kernel
theorem dX3_third_129 : decode cX3_third 129 = .ok (.iload 8, 2) := by decide +kernel
theorem dX3_third_131 : decode cX3_third 131 = .ok (.ireturn, 1) := by decide +kernel
theorem dX3_solutions_0 : decode cX3_solutions 0 = .ok (.iconst 0, 1) := by decide +kernel
theorem dX3_solutions_1 : decode cX3_solutions 1 = .ok (.istore_n 2, 1) := by decide +kernel
theorem dX3_solutions_2 : decode cX3_solutions 2 = .ok (.iconst 1, 1) := by decide +kernel
theorem dX3_solutions_3 : decode cX3_solutions 3 = .ok (.istore_n 3, 1) := by decide +kernel
theorem dX3_solutions_4 : decode cX3_solutions 4 = .ok (.iload_n 3, 1) := by decide +kernel
theorem dX3_solutions_5 : decode cX3_solutions 5 = .ok (.aload_n 0, 1) := by decide +kernel
theorem dX3_solutions_6 : decode cX3_solutions 6 = .ok (.getfield 21, 3) := by decide +kernel
theorem dX3_solutions_9 : decode cX3_solutions 9 = .ok (.if_icmp .gt 45, 3) := by decide +kernel
theorem dX3_solutions_12 : decode cX3_solutions 12 = .ok (.iconst 1, 1) := by decide +kernel
theorem dX3_solutions_13 : decode cX3_solutions 13 = .ok (.istore 4, 2) := by decide +kernel
theorem dX3_solutions_15 : decode cX3_solutions 15 = .ok (.iload 4, 2) := by decide +kernel
theorem dX3_solutions_17 : decode cX3_solutions 17 = .ok (.aload_n 0, 1) := by decide +kernel
theorem dX3_solutions_18 : decode cX3_solutions 18 = .ok (.getfield 21, 3) := by decide +kernel
theorem dX3_solutions_21 : decode cX3_solutions 21 = .ok (.if_icmp .gt 27, 3) := by decide +kernel
theorem dX3_solutions_24 : decode cX3_solutions 24 = .ok (.aload_n 0, 1) := by decide +kernel
theorem dX3_solutions_25 : decode cX3_solutions 25 = .ok (.iload_n 1, 1) := by decide +kernel
theorem dX3_solutions_26 : decode cX3_solutions 26 = .ok (.iload_n 3, 1) := by decide +kernel
theorem dX3_solutions_27 : decode cX3_solutions 27 = .ok (.iload 4, 2) := by decide +kernel
theorem dX3_solutions_29 : decode cX3_solutions 29 = .ok (.aload_n 0, 1) := by decide +kernel
theorem dX3_solutions_30 : decode cX3_solutions 30 = .ok (.getfield 21, 3) := by decide +kernel
theorem dX3_solutions_33 : decode cX3_solutions 33 = .ok (.invokevirtual 58, 3) := by decide +kernel
theorem dX3_solutions_36 : decode cX3_solutions 36 = .ok (.ifCond .le 6, 3) := by decide +kernel
theorem dX3_solutions_39 : decode cX3_solutions 39 = .ok (.iinc 2 1, 3) := by decide +kernel
theorem dX3_solutions_42 : decode cX3_solutions 42 = .ok (.iinc 4 1, 3) := by decide +kernel
theorem dX3_solutions_45 : decode cX3_solutions 45 = .ok (.goto (-30), 3) := by decide +kernel
theorem dX3_solutions_48 : decode cX3_solutions 48 = .ok (.iinc 3 1, 3) := by decide +kernel
theorem dX3_solutions_51 : decode cX3_solutions 51 = .ok (.goto (-47), 3) := by decide +kernel
theorem dX3_solutions_54 : decode cX3_solutions 54 = .ok (.iload_n 2, 1) := by decide +kernel
theorem dX3_solutions_55 : decode cX3_solutions 55 = .ok (.ireturn, 1) := by decide +kernel
theorem dX3_solutionAt_0 : decode cX3_solutionAt 0 = .ok (.iconst 0, 1) := by decide +kernel
theorem dX3_solutionAt_1 : decode cX3_solutionAt 1 = .ok (.istore_n 3, 1) := by decide +kernel
theorem dX3_solutionAt_2 : decode cX3_solutionAt 2 = .ok (.iconst 1, 1) := by decide +kernel
theorem dX3_solutionAt_3 : decode cX3_solutionAt 3 = .ok (.istore 4, 2) := by decide +kernel
theorem dX3_solutionAt_5 : decode cX3_solutionAt 5 = .ok (.iload 4, 2) := by decide +kernel
theorem dX3_solutionAt_7 : decode cX3_solutionAt 7 = .ok (.aload_n 0, 1) := by decide +kernel
theorem dX3_solutionAt_8 : decode cX3_solutionAt 8 = .ok (.getfield 21, 3) := by decide +kernel
theorem dX3_solutionAt_11 : decode cX3_solutionAt 11 = .ok (.if_icmp .gt 71, 3) := by decide +kernel
theorem dX3_solutionAt_14 : decode cX3_solutionAt 14 = .ok (.iconst 1, 1) := by decide +kernel
theorem dX3_solutionAt_15 : decode cX3_solutionAt 15 = .ok (.istore 5, 2) := by decide +kernel
theorem dX3_solutionAt_17 : decode cX3_solutionAt 17 = .ok (.iload 5, 2) := by decide +kernel
theorem dX3_solutionAt_19 : decode cX3_solutionAt 19 = .ok (.aload_n 0, 1) := by decide +kernel
theorem dX3_solutionAt_20 : decode cX3_solutionAt 20 = .ok (.getfield 21, 3) := by decide +kernel
theorem dX3_solutionAt_23 : decode cX3_solutionAt 23 = .ok (.if_icmp .gt 53, 3) := by decide +kernel
theorem dX3_solutionAt_26 : decode cX3_solutionAt 26 = .ok (.aload_n 0, 1) := by decide +kernel
theorem dX3_solutionAt_27 : decode cX3_solutionAt 27 = .ok (.iload_n 1, 1) := by decide +kernel
theorem dX3_solutionAt_28 : decode cX3_solutionAt 28 = .ok (.iload 4, 2) := by decide +kernel
theorem dX3_solutionAt_30 : decode cX3_solutionAt 30 = .ok (.iload 5, 2) := by decide +kernel
theorem dX3_solutionAt_32 : decode cX3_solutionAt 32 = .ok (.aload_n 0, 1) := by decide +kernel
theorem dX3_solutionAt_33 : decode cX3_solutionAt 33 = .ok (.getfield 21, 3) := by decide +kernel
theorem dX3_solutionAt_36 : decode cX3_solutionAt 36 = .ok (.invokevirtual 58, 3) := by decide +kernel
theorem dX3_solutionAt_39 : decode cX3_solutionAt 39 = .ok (.istore 6, 2) := by decide +kernel
theorem dX3_solutionAt_41 : decode cX3_solutionAt 41 = .ok (.iload 6, 2) := by decide +kernel
theorem dX3_solutionAt_43 : decode cX3_solutionAt 43 = .ok (.ifCond .le 27, 3) := by decide +kernel
theorem dX3_solutionAt_46 : decode cX3_solutionAt 46 = .ok (.iload_n 3, 1) := by decide +kernel
theorem dX3_solutionAt_47 : decode cX3_solutionAt 47 = .ok (.iload_n 2, 1) := by decide +kernel
theorem dX3_solutionAt_48 : decode cX3_solutionAt 48 = .ok (.if_icmp .ne 19, 3) := by decide +kernel
theorem dX3_solutionAt_51 : decode cX3_solutionAt 51 = .ok (.sipush 10000, 3) := by decide +kernel
theorem dX3_solutionAt_54 : decode cX3_solutionAt 54 = .ok (.iload 4, 2) := by decide +kernel
theorem dX3_solutionAt_56 : decode cX3_solutionAt 56 = .ok (.imul, 1) := by decide +kernel
theorem dX3_solutionAt_57 : decode cX3_solutionAt 57 = .ok (.bipush 100, 2) := by decide +kernel
theorem dX3_solutionAt_59 : decode cX3_solutionAt 59 = .ok (.iload 5, 2) := by decide +kernel
theorem dX3_solutionAt_61 : decode cX3_solutionAt 61 = .ok (.imul, 1) := by decide +kernel
theorem dX3_solutionAt_62 : decode cX3_solutionAt 62 = .ok (.iadd, 1) := by decide +kernel
theorem dX3_solutionAt_63 : decode cX3_solutionAt 63 = .ok (.iload 6, 2) := by decide +kernel
theorem dX3_solutionAt_65 : decode cX3_solutionAt 65 = .ok (.iadd, 1) := by decide +kernel
theorem dX3_solutionAt_66 : decode cX3_solutionAt 66 = .ok (.ireturn, 1) := by decide +kernel
theorem dX3_solutionAt_67 : decode cX3_solutionAt 67 = .ok (.iinc 3 1, 3) := by decide +kernel
theorem dX3_solutionAt_70 : decode cX3_solutionAt 70 = .ok (.iinc 5 1, 3) := by decide +kernel
theorem dX3_solutionAt_73 : decode cX3_solutionAt 73 = .ok (.goto (-56), 3) := by decide +kernel
theorem dX3_solutionAt_76 : decode cX3_solutionAt 76 = .ok (.iinc 4 1, 3) := by decide +kernel
theorem dX3_solutionAt_79 : decode cX3_solutionAt 79 = .ok (.goto (-74), 3) := by decide +kernel
theorem dX3_solutionAt_82 : decode cX3_solutionAt 82 = .ok (.bipush (-9), 2) := by decide +kernel
theorem dX3_solutionAt_84 : decode cX3_solutionAt 84 = .ok (.ireturn, 1) := by decide +kernel
theorem dX3_pinOf_0 : decode cX3_pinOf 0 = .ok (.iload_n 1, 1) := by decide +kernel
theorem dX3_pinOf_1 : decode cX3_pinOf 1 = .ok (.iconst 1, 1) := by decide +kernel
theorem dX3_pinOf_2 : decode cX3_pinOf 2 = .ok (.if_icmp .lt 26, 3) := by decide +kernel
theorem dX3_pinOf_5 : decode cX3_pinOf 5 = .ok (.iload_n 1, 1) := by decide +kernel
theorem dX3_pinOf_6 : decode cX3_pinOf 6 = .ok (.aload_n 0, 1) := by decide +kernel
theorem dX3_pinOf_7 : decode cX3_pinOf 7 = .ok (.getfield 21, 3) := by decide +kernel
theorem dX3_pinOf_10 : decode cX3_pinOf 10 = .ok (.if_icmp .gt 18, 3) := by decide +kernel
theorem dX3_pinOf_13 : decode cX3_pinOf 13 = .ok (.iload_n 1, 1) := by decide +kernel
theorem dX3_pinOf_14 : decode cX3_pinOf 14 = .ok (.bipush 10, 2) := by decide +kernel
theorem dX3_pinOf_16 : decode cX3_pinOf 16 = .ok (.if_icmp .gt 12, 3) := by decide +kernel
theorem dX3_pinOf_19 : decode cX3_pinOf 19 = .ok (.aload_n 0, 1) := by decide +kernel
theorem dX3_pinOf_20 : decode cX3_pinOf 20 = .ok (.getfield 15, 3) := by decide +kernel
theorem dX3_pinOf_23 : decode cX3_pinOf 23 = .ok (.iload_n 1, 1) := by decide +kernel
theorem dX3_pinOf_24 : decode cX3_pinOf 24 = .ok (.iaload, 1) := by decide +kernel
theorem dX3_pinOf_25 : decode cX3_pinOf 25 = .ok (.goto 4, 3) := by decide +kernel
theorem dX3_pinOf_28 : decode cX3_pinOf 28 = .ok (.iconst (-1), 1) := by decide +kernel
theorem dX3_pinOf_29 : decode cX3_pinOf 29 = .ok (.ireturn, 1) := by decide +kernel
theorem dX3_setPin_0 : decode cX3_setPin 0 = .ok (.aload_n 0, 1) := by decide +kernel
theorem dX3_setPin_1 : decode cX3_setPin 1 = .ok (.iload_n 1, 1) := by decide +kernel
theorem dX3_setPin_2 : decode cX3_setPin 2 = .ok (.invokevirtual 62, 3) := by decide +kernel
theorem dX3_setPin_5 : decode cX3_setPin 5 = .ok (.ifCond .eq 22, 3) := by decide +kernel
theorem dX3_setPin_8 : decode cX3_setPin 8 = .ok (.aload_n 0, 1) := by decide +kernel
theorem dX3_setPin_9 : decode cX3_setPin 9 = .ok (.getfield 15, 3) := by decide +kernel
theorem dX3_setPin_12 : decode cX3_setPin 12 = .ok (.iload_n 1, 1) := by decide +kernel
theorem dX3_setPin_13 : decode cX3_setPin 13 = .ok (.aload_n 0, 1) := by decide +kernel
theorem dX3_setPin_14 : decode cX3_setPin 14 = .ok (.iload_n 2, 1) := by decide +kernel
theorem dX3_setPin_15 : decode cX3_setPin 15 = .ok (.invokevirtual 65, 3) := by decide +kernel
theorem dX3_setPin_18 : decode cX3_setPin 18 = .ok (.ifCond .eq 7, 3) := by decide +kernel
theorem dX3_setPin_21 : decode cX3_setPin 21 = .ok (.iload_n 2, 1) := by decide +kernel
theorem dX3_setPin_22 : decode cX3_setPin 22 = .ok (.goto 4, 3) := by decide +kernel
theorem dX3_setPin_25 : decode cX3_setPin 25 = .ok (.iconst (-1), 1) := by decide +kernel
theorem dX3_setPin_26 : decode cX3_setPin 26 = .ok (.iastore, 1) := by decide +kernel
theorem dX3_setPin_27 : decode cX3_setPin 27 = .ok (.return_, 1) := by decide +kernel
theorem dX3_unpin_0 : decode cX3_unpin 0 = .ok (.aload_n 0, 1) := by decide +kernel
theorem dX3_unpin_1 : decode cX3_unpin 1 = .ok (.getfield 15, 3) := by decide +kernel
theorem dX3_unpin_4 : decode cX3_unpin 4 = .ok (.iconst (-1), 1) := by decide +kernel
theorem dX3_unpin_5 : decode cX3_unpin 5 = .ok (.invokestatic 38, 3) := by decide +kernel
theorem dX3_unpin_8 : decode cX3_unpin 8 = .ok (.return_, 1) := by decide +kernel
theorem dX3_pinned_0 : decode cX3_pinned 0 = .ok (.iconst 0, 1) := by decide +kernel
theorem dX3_pinned_1 : decode cX3_pinned 1 = .ok (.istore_n 1, 1) := by decide +kernel
theorem dX3_pinned_2 : decode cX3_pinned 2 = .ok (.iconst 1, 1) := by decide +kernel
theorem dX3_pinned_3 : decode cX3_pinned 3 = .ok (.istore_n 2, 1) := by decide +kernel
theorem dX3_pinned_4 : decode cX3_pinned 4 = .ok (.iload_n 2, 1) := by decide +kernel
theorem dX3_pinned_5 : decode cX3_pinned 5 = .ok (.aload_n 0, 1) := by decide +kernel
theorem dX3_pinned_6 : decode cX3_pinned 6 = .ok (.getfield 21, 3) := by decide +kernel
theorem dX3_pinned_9 : decode cX3_pinned 9 = .ok (.if_icmp .gt 21, 3) := by decide +kernel
theorem dX3_pinned_12 : decode cX3_pinned 12 = .ok (.aload_n 0, 1) := by decide +kernel
theorem dX3_pinned_13 : decode cX3_pinned 13 = .ok (.iload_n 2, 1) := by decide +kernel
theorem dX3_pinned_14 : decode cX3_pinned 14 = .ok (.invokevirtual 68, 3) := by decide +kernel
theorem dX3_pinned_17 : decode cX3_pinned 17 = .ok (.iconst (-1), 1) := by decide +kernel
theorem dX3_pinned_18 : decode cX3_pinned 18 = .ok (.if_icmp .eq 6, 3) := by decide +kernel
theorem dX3_pinned_21 : decode cX3_pinned 21 = .ok (.iinc 1 1, 3) := by decide +kernel
theorem dX3_pinned_24 : decode cX3_pinned 24 = .ok (.iinc 2 1, 3) := by decide +kernel
theorem dX3_pinned_27 : decode cX3_pinned 27 = .ok (.goto (-23), 3) := by decide +kernel
theorem dX3_pinned_30 : decode cX3_pinned 30 = .ok (.iload_n 1, 1) := by decide +kernel
theorem dX3_pinned_31 : decode cX3_pinned 31 = .ok (.ireturn, 1) := by decide +kernel
theorem dX3_free_0 : decode cX3_free 0 = .ok (.iload_n 1, 1) := by decide +kernel
theorem dX3_free_1 : decode cX3_free 1 = .ok (.iconst 1, 1) := by decide +kernel
theorem dX3_free_2 : decode cX3_free 2 = .ok (.if_icmp .lt 31, 3) := by decide +kernel
theorem dX3_free_5 : decode cX3_free 5 = .ok (.iload_n 1, 1) := by decide +kernel
theorem dX3_free_6 : decode cX3_free 6 = .ok (.aload_n 0, 1) := by decide +kernel
theorem dX3_free_7 : decode cX3_free 7 = .ok (.getfield 21, 3) := by decide +kernel
theorem dX3_free_10 : decode cX3_free 10 = .ok (.if_icmp .gt 23, 3) := by decide +kernel
theorem dX3_free_13 : decode cX3_free 13 = .ok (.iload_n 1, 1) := by decide +kernel
theorem dX3_free_14 : decode cX3_free 14 = .ok (.bipush 10, 2) := by decide +kernel
theorem dX3_free_16 : decode cX3_free 16 = .ok (.if_icmp .gt 17, 3) := by decide +kernel
theorem dX3_free_19 : decode cX3_free 19 = .ok (.aload_n 0, 1) := by decide +kernel
theorem dX3_free_20 : decode cX3_free 20 = .ok (.getfield 15, 3) := by decide +kernel
theorem dX3_free_23 : decode cX3_free 23 = .ok (.iload_n 1, 1) := by decide +kernel
theorem dX3_free_24 : decode cX3_free 24 = .ok (.iaload, 1) := by decide +kernel
theorem dX3_free_25 : decode cX3_free 25 = .ok (.iconst (-1), 1) := by decide +kernel
theorem dX3_free_26 : decode cX3_free 26 = .ok (.if_icmp .ne 7, 3) := by decide +kernel
theorem dX3_free_29 : decode cX3_free 29 = .ok (.iconst 1, 1) := by decide +kernel
theorem dX3_free_30 : decode cX3_free 30 = .ok (.goto 4, 3) := by decide +kernel
theorem dX3_free_33 : decode cX3_free 33 = .ok (.iconst 0, 1) := by decide +kernel
theorem dX3_free_34 : decode cX3_free 34 = .ok (.ireturn, 1) := by decide +kernel
theorem dX3_allows_0 : decode cX3_allows 0 = .ok (.iload_n 1, 1) := by decide +kernel
theorem dX3_allows_1 : decode cX3_allows 1 = .ok (.iconst 1, 1) := by decide +kernel
theorem dX3_allows_2 : decode cX3_allows 2 = .ok (.if_icmp .lt 33, 3) := by decide +kernel
theorem dX3_allows_5 : decode cX3_allows 5 = .ok (.iload_n 1, 1) := by decide +kernel
theorem dX3_allows_6 : decode cX3_allows 6 = .ok (.aload_n 0, 1) := by decide +kernel
theorem dX3_allows_7 : decode cX3_allows 7 = .ok (.getfield 21, 3) := by decide +kernel
theorem dX3_allows_10 : decode cX3_allows 10 = .ok (.if_icmp .gt 25, 3) := by decide +kernel
theorem dX3_allows_13 : decode cX3_allows 13 = .ok (.iload_n 1, 1) := by decide +kernel
theorem dX3_allows_14 : decode cX3_allows 14 = .ok (.bipush 10, 2) := by decide +kernel
theorem dX3_allows_16 : decode cX3_allows 16 = .ok (.if_icmp .gt 19, 3) := by decide +kernel
theorem dX3_allows_19 : decode cX3_allows 19 = .ok (.iload_n 2, 1) := by decide +kernel
theorem dX3_allows_20 : decode cX3_allows 20 = .ok (.ifCond .lt 15, 3) := by decide +kernel
theorem dX3_allows_23 : decode cX3_allows 23 = .ok (.iload_n 2, 1) := by decide +kernel
theorem dX3_allows_24 : decode cX3_allows 24 = .ok (.aload_n 0, 1) := by decide +kernel
theorem dX3_allows_25 : decode cX3_allows 25 = .ok (.getfield 25, 3) := by decide +kernel
theorem dX3_allows_28 : decode cX3_allows 28 = .ok (.if_icmp .ge 7, 3) := by decide +kernel
theorem dX3_allows_31 : decode cX3_allows 31 = .ok (.iconst 1, 1) := by decide +kernel
theorem dX3_allows_32 : decode cX3_allows 32 = .ok (.goto 4, 3) := by decide +kernel
theorem dX3_allows_35 : decode cX3_allows 35 = .ok (.iconst 0, 1) := by decide +kernel
theorem dX3_allows_36 : decode cX3_allows 36 = .ok (.istore_n 3, 1) := by decide +kernel
theorem dX3_allows_37 : decode cX3_allows 37 = .ok (.iload_n 3, 1) := by decide +kernel
theorem dX3_allows_38 : decode cX3_allows 38 = .ok (.ifCond .eq 27, 3) := by decide +kernel
theorem dX3_allows_41 : decode cX3_allows 41 = .ok (.aload_n 0, 1) := by decide +kernel
theorem dX3_allows_42 : decode cX3_allows 42 = .ok (.getfield 15, 3) := by decide +kernel
theorem dX3_allows_45 : decode cX3_allows 45 = .ok (.iload_n 1, 1) := by decide +kernel
theorem dX3_allows_46 : decode cX3_allows 46 = .ok (.iaload, 1) := by decide +kernel
theorem dX3_allows_47 : decode cX3_allows 47 = .ok (.iconst (-1), 1) := by decide +kernel
theorem dX3_allows_48 : decode cX3_allows 48 = .ok (.if_icmp .eq 13, 3) := by decide +kernel
theorem dX3_allows_51 : decode cX3_allows 51 = .ok (.aload_n 0, 1) := by decide +kernel
theorem dX3_allows_52 : decode cX3_allows 52 = .ok (.getfield 15, 3) := by decide +kernel
theorem dX3_allows_55 : decode cX3_allows 55 = .ok (.iload_n 1, 1) := by decide +kernel
theorem dX3_allows_56 : decode cX3_allows 56 = .ok (.iaload, 1) := by decide +kernel
theorem dX3_allows_57 : decode cX3_allows 57 = .ok (.iload_n 2, 1) := by decide +kernel
theorem dX3_allows_58 : decode cX3_allows 58 = .ok (.if_icmp .ne 7, 3) := by decide +kernel
theorem dX3_allows_61 : decode cX3_allows 61 = .ok (.iconst 1, 1) := by decide +kernel
theorem dX3_allows_62 : decode cX3_allows 62 = .ok (.goto 4, 3) := by decide +kernel
theorem dX3_allows_65 : decode cX3_allows 65 = .ok (.iconst 0, 1) := by decide +kernel
theorem dX3_allows_66 : decode cX3_allows 66 = .ok (.ireturn, 1) := by decide +kernel
theorem dX3_resize_0 : decode cX3_resize 0 = .ok (.iload_n 1, 1) := by decide +kernel
theorem dX3_resize_1 : decode cX3_resize 1 = .ok (.iconst 1, 1) := by decide +kernel
theorem dX3_resize_2 : decode cX3_resize 2 = .ok (.iadd, 1) := by decide +kernel
theorem dX3_resize_3 : decode cX3_resize 3 = .ok (.istore_n 2, 1) := by decide +kernel
theorem dX3_resize_4 : decode cX3_resize 4 = .ok (.iload_n 2, 1) := by decide +kernel
theorem dX3_resize_5 : decode cX3_resize 5 = .ok (.aload_n 0, 1) := by decide +kernel
theorem dX3_resize_6 : decode cX3_resize 6 = .ok (.getfield 21, 3) := by decide +kernel
theorem dX3_resize_9 : decode cX3_resize 9 = .ok (.if_icmp .gt 15, 3) := by decide +kernel
theorem dX3_resize_12 : decode cX3_resize 12 = .ok (.aload_n 0, 1) := by decide +kernel
theorem dX3_resize_13 : decode cX3_resize 13 = .ok (.iload_n 2, 1) := by decide +kernel
theorem dX3_resize_14 : decode cX3_resize 14 = .ok (.iconst (-1), 1) := by decide +kernel
theorem dX3_resize_15 : decode cX3_resize 15 = .ok (.invokevirtual 72, 3) := by decide +kernel
theorem dX3_resize_18 : decode cX3_resize 18 = .ok (.iinc 2 1, 3) := by decide +kernel
theorem dX3_resize_21 : decode cX3_resize 21 = .ok (.goto (-17), 3) := by decide +kernel
theorem dX3_resize_24 : decode cX3_resize 24 = .ok (.aload_n 0, 1) := by decide +kernel
theorem dX3_resize_25 : decode cX3_resize 25 = .ok (.aload_n 0, 1) := by decide +kernel
theorem dX3_resize_26 : decode cX3_resize 26 = .ok (.getfield 31, 3) := by decide +kernel
theorem dX3_resize_29 : decode cX3_resize 29 = .ok (.ifCond .eq 15, 3) := by decide +kernel
theorem dX3_resize_32 : decode cX3_resize 32 = .ok (.iload_n 1, 1) := by decide +kernel
theorem dX3_resize_33 : decode cX3_resize 33 = .ok (.aload_n 0, 1) := by decide +kernel
theorem dX3_resize_34 : decode cX3_resize 34 = .ok (.getfield 21, 3) := by decide +kernel
theorem dX3_resize_37 : decode cX3_resize 37 = .ok (.if_icmp .ne 7, 3) := by decide +kernel
theorem dX3_resize_40 : decode cX3_resize 40 = .ok (.iconst 1, 1) := by decide +kernel
theorem dX3_resize_41 : decode cX3_resize 41 = .ok (.goto 4, 3) := by decide +kernel
theorem dX3_resize_44 : decode cX3_resize 44 = .ok (.iconst 0, 1) := by decide +kernel
theorem dX3_resize_45 : decode cX3_resize 45 = .ok (.putfield 31, 3) := by decide +kernel
theorem dX3_resize_48 : decode cX3_resize 48 = .ok (.aload_n 0, 1) := by decide +kernel
theorem dX3_resize_49 : decode cX3_resize 49 = .ok (.iload_n 1, 1) := by decide +kernel
theorem dX3_resize_50 : decode cX3_resize 50 = .ok (.putfield 21, 3) := by decide +kernel
theorem dX3_resize_53 : decode cX3_resize 53 = .ok (.return_, 1) := by decide +kernel
theorem dX3_classOf_0 : decode cX3_classOf 0 = .ok (.aload_n 0, 1) := by decide +kernel
theorem dX3_classOf_1 : decode cX3_classOf 1 = .ok (.iload_n 1, 1) := by decide +kernel
theorem dX3_classOf_2 : decode cX3_classOf 2 = .ok (.invokevirtual 65, 3) := by decide +kernel
theorem dX3_classOf_5 : decode cX3_classOf 5 = .ok (.ifCond .eq 12, 3) := by decide +kernel
theorem dX3_classOf_8 : decode cX3_classOf 8 = .ok (.aload_n 0, 1) := by decide +kernel
theorem dX3_classOf_9 : decode cX3_classOf 9 = .ok (.getfield 18, 3) := by decide +kernel
theorem dX3_classOf_12 : decode cX3_classOf 12 = .ok (.iload_n 1, 1) := by decide +kernel
theorem dX3_classOf_13 : decode cX3_classOf 13 = .ok (.iaload, 1) := by decide +kernel
theorem dX3_classOf_14 : decode cX3_classOf 14 = .ok (.goto 4, 3) := by decide +kernel
theorem dX3_classOf_17 : decode cX3_classOf 17 = .ok (.iconst 0, 1) := by decide +kernel
theorem dX3_classOf_18 : decode cX3_classOf 18 = .ok (.ireturn, 1) := by decide +kernel
theorem dX3_colourOf_0 : decode cX3_colourOf 0 = .ok (.iconst 0, 1) := by decide +kernel
theorem dX3_colourOf_1 : decode cX3_colourOf 1 = .ok (.istore_n 2, 1) := by decide +kernel
theorem dX3_colourOf_2 : decode cX3_colourOf 2 = .ok (.iload_n 2, 1) := by decide +kernel
theorem dX3_colourOf_3 : decode cX3_colourOf 3 = .ok (.iconst 3, 1) := by decide +kernel
theorem dX3_colourOf_4 : decode cX3_colourOf 4 = .ok (.if_icmp .ge 24, 3) := by decide +kernel
theorem dX3_colourOf_7 : decode cX3_colourOf 7 = .ok (.aload_n 0, 1) := by decide +kernel
theorem dX3_colourOf_8 : decode cX3_colourOf 8 = .ok (.iload_n 2, 1) := by decide +kernel
theorem dX3_colourOf_9 : decode cX3_colourOf 9 = .ok (.invokevirtual 76, 3) := by decide +kernel
theorem dX3_colourOf_12 : decode cX3_colourOf 12 = .ok (.iload_n 1, 1) := by decide +kernel
theorem dX3_colourOf_13 : decode cX3_colourOf 13 = .ok (.ishr, 1) := by decide +kernel
theorem dX3_colourOf_14 : decode cX3_colourOf 14 = .ok (.iconst 1, 1) := by decide +kernel
theorem dX3_colourOf_15 : decode cX3_colourOf 15 = .ok (.iand, 1) := by decide +kernel
theorem dX3_colourOf_16 : decode cX3_colourOf 16 = .ok (.iconst 1, 1) := by decide +kernel
theorem dX3_colourOf_17 : decode cX3_colourOf 17 = .ok (.if_icmp .ne 5, 3) := by decide +kernel
theorem dX3_colourOf_20 : decode cX3_colourOf 20 = .ok (.iload_n 2, 1) := by decide +kernel
theorem dX3_colourOf_21 : decode cX3_colourOf 21 = .ok (.ireturn, 1) := by decide +kernel
theorem dX3_colourOf_22 : decode cX3_colourOf 22 = .ok (.iinc 2 1, 3) := by decide +kernel
theorem dX3_colourOf_25 : decode cX3_colourOf 25 = .ok (.goto (-23), 3) := by decide +kernel
theorem dX3_colourOf_28 : decode cX3_colourOf 28 = .ok (.bipush (-9), 2) := by decide +kernel
theorem dX3_colourOf_30 : decode cX3_colourOf 30 = .ok (.ireturn, 1) := by decide +kernel
theorem dX3_repaint_0 : decode cX3_repaint 0 = .ok (.aload_n 0, 1) := by decide +kernel
theorem dX3_repaint_1 : decode cX3_repaint 1 = .ok (.iload_n 1, 1) := by decide +kernel
theorem dX3_repaint_2 : decode cX3_repaint 2 = .ok (.invokevirtual 62, 3) := by decide +kernel
theorem dX3_repaint_5 : decode cX3_repaint 5 = .ok (.ifCond .eq 11, 3) := by decide +kernel
theorem dX3_repaint_8 : decode cX3_repaint 8 = .ok (.aload_n 0, 1) := by decide +kernel
theorem dX3_repaint_9 : decode cX3_repaint 9 = .ok (.iload_n 2, 1) := by decide +kernel
theorem dX3_repaint_10 : decode cX3_repaint 10 = .ok (.invokevirtual 65, 3) := by decide +kernel
theorem dX3_repaint_13 : decode cX3_repaint 13 = .ok (.ifCond .ne 4, 3) := by decide +kernel
theorem dX3_repaint_16 : decode cX3_repaint 16 = .ok (.return_, 1) := by decide +kernel
theorem dX3_repaint_17 : decode cX3_repaint 17 = .ok (.iconst 0, 1) := by decide +kernel
theorem dX3_repaint_18 : decode cX3_repaint 18 = .ok (.istore_n 3, 1) := by decide +kernel
theorem dX3_repaint_19 : decode cX3_repaint 19 = .ok (.iload_n 3, 1) := by decide +kernel
theorem dX3_repaint_20 : decode cX3_repaint 20 = .ok (.iconst 3, 1) := by decide +kernel
theorem dX3_repaint_21 : decode cX3_repaint 21 = .ok (.if_icmp .ge 23, 3) := by decide +kernel
theorem dX3_repaint_24 : decode cX3_repaint 24 = .ok (.aload_n 0, 1) := by decide +kernel
theorem dX3_repaint_25 : decode cX3_repaint 25 = .ok (.getfield 18, 3) := by decide +kernel
theorem dX3_repaint_28 : decode cX3_repaint 28 = .ok (.iload_n 3, 1) := by decide +kernel
theorem dX3_repaint_29 : decode cX3_repaint 29 = .ok (.dup2, 1) := by decide +kernel
theorem dX3_repaint_30 : decode cX3_repaint 30 = .ok (.iaload, 1) := by decide +kernel
theorem dX3_repaint_31 : decode cX3_repaint 31 = .ok (.iconst 1, 1) := by decide +kernel
theorem dX3_repaint_32 : decode cX3_repaint 32 = .ok (.iload_n 1, 1) := by decide +kernel
theorem dX3_repaint_33 : decode cX3_repaint 33 = .ok (.ishl, 1) := by decide +kernel
theorem dX3_repaint_34 : decode cX3_repaint 34 = .ok (.iconst (-1), 1) := by decide +kernel
theorem dX3_repaint_35 : decode cX3_repaint 35 = .ok (.ixor, 1) := by decide +kernel
theorem dX3_repaint_36 : decode cX3_repaint 36 = .ok (.iand, 1) := by decide +kernel
theorem dX3_repaint_37 : decode cX3_repaint 37 = .ok (.iastore, 1) := by decide +kernel
theorem dX3_repaint_38 : decode cX3_repaint 38 = .ok (.iinc 3 1, 3) := by decide +kernel
theorem dX3_repaint_41 : decode cX3_repaint 41 = .ok (.goto (-22), 3) := by decide +kernel
theorem dX3_repaint_44 : decode cX3_repaint 44 = .ok (.aload_n 0, 1) := by decide +kernel
theorem dX3_repaint_45 : decode cX3_repaint 45 = .ok (.getfield 18, 3) := by decide +kernel
theorem dX3_repaint_48 : decode cX3_repaint 48 = .ok (.iload_n 2, 1) := by decide +kernel
theorem dX3_repaint_49 : decode cX3_repaint 49 = .ok (.dup2, 1) := by decide +kernel
theorem dX3_repaint_50 : decode cX3_repaint 50 = .ok (.iaload, 1) := by decide +kernel
theorem dX3_repaint_51 : decode cX3_repaint 51 = .ok (.iconst 1, 1) := by decide +kernel
theorem dX3_repaint_52 : decode cX3_repaint 52 = .ok (.iload_n 1, 1) := by decide +kernel
theorem dX3_repaint_53 : decode cX3_repaint 53 = .ok (.ishl, 1) := by decide +kernel
theorem dX3_repaint_54 : decode cX3_repaint 54 = .ok (.ior, 1) := by decide +kernel
theorem dX3_repaint_55 : decode cX3_repaint 55 = .ok (.iastore, 1) := by decide +kernel
theorem dX3_repaint_56 : decode cX3_repaint 56 = .ok (.return_, 1) := by decide +kernel
theorem dX3_recolour_0 : decode cX3_recolour 0 = .ok (.aload_n 0, 1) := by decide +kernel
theorem dX3_recolour_1 : decode cX3_recolour 1 = .ok (.iload_n 2, 1) := by decide +kernel
theorem dX3_recolour_2 : decode cX3_recolour 2 = .ok (.putfield 31, 3) := by decide +kernel
theorem dX3_recolour_5 : decode cX3_recolour 5 = .ok (.iconst 0, 1) := by decide +kernel
theorem dX3_recolour_6 : decode cX3_recolour 6 = .ok (.istore_n 3, 1) := by decide +kernel
theorem dX3_recolour_7 : decode cX3_recolour 7 = .ok (.iload_n 3, 1) := by decide +kernel
theorem dX3_recolour_8 : decode cX3_recolour 8 = .ok (.iconst 3, 1) := by decide +kernel
theorem dX3_recolour_9 : decode cX3_recolour 9 = .ok (.if_icmp .ge 32, 3) := by decide +kernel
theorem dX3_recolour_12 : decode cX3_recolour 12 = .ok (.iload_n 3, 1) := by decide +kernel
theorem dX3_recolour_13 : decode cX3_recolour 13 = .ok (.aload_n 1, 1) := by decide +kernel
theorem dX3_recolour_14 : decode cX3_recolour 14 = .ok (.arraylength, 1) := by decide +kernel
theorem dX3_recolour_15 : decode cX3_recolour 15 = .ok (.if_icmp .ge 26, 3) := by decide +kernel
theorem dX3_recolour_18 : decode cX3_recolour 18 = .ok (.aload_n 0, 1) := by decide +kernel
theorem dX3_recolour_19 : decode cX3_recolour 19 = .ok (.getfield 18, 3) := by decide +kernel
theorem dX3_recolour_22 : decode cX3_recolour 22 = .ok (.iload_n 3, 1) := by decide +kernel
theorem dX3_recolour_23 : decode cX3_recolour 23 = .ok (.iload_n 2, 1) := by decide +kernel
theorem dX3_recolour_24 : decode cX3_recolour 24 = .ok (.ifCond .eq 9, 3) := by decide +kernel
theorem dX3_recolour_27 : decode cX3_recolour 27 = .ok (.aload_n 1, 1) := by decide +kernel
theorem dX3_recolour_28 : decode cX3_recolour 28 = .ok (.iload_n 3, 1) := by decide +kernel
theorem dX3_recolour_29 : decode cX3_recolour 29 = .ok (.iaload, 1) := by decide +kernel
theorem dX3_recolour_30 : decode cX3_recolour 30 = .ok (.goto 4, 3) := by decide +kernel
theorem dX3_recolour_33 : decode cX3_recolour 33 = .ok (.iconst 0, 1) := by decide +kernel
theorem dX3_recolour_34 : decode cX3_recolour 34 = .ok (.iastore, 1) := by decide +kernel
theorem dX3_recolour_35 : decode cX3_recolour 35 = .ok (.iinc 3 1, 3) := by decide +kernel
theorem dX3_recolour_38 : decode cX3_recolour 38 = .ok (.goto (-31), 3) := by decide +kernel
theorem dX3_recolour_41 : decode cX3_recolour 41 = .ok (.return_, 1) := by decide +kernel
theorem dX3_hasClasses_0 : decode cX3_hasClasses 0 = .ok (.iconst 0, 1) := by decide +kernel
theorem dX3_hasClasses_1 : decode cX3_hasClasses 1 = .ok (.istore_n 2, 1) := by decide +kernel
theorem dX3_hasClasses_2 : decode cX3_hasClasses 2 = .ok (.iload_n 2, 1) := by decide +kernel
theorem dX3_hasClasses_3 : decode cX3_hasClasses 3 = .ok (.iconst 3, 1) := by decide +kernel
theorem dX3_hasClasses_4 : decode cX3_hasClasses 4 = .ok (.if_icmp .ge 29, 3) := by decide +kernel
theorem dX3_hasClasses_7 : decode cX3_hasClasses 7 = .ok (.iload_n 2, 1) := by decide +kernel
theorem dX3_hasClasses_8 : decode cX3_hasClasses 8 = .ok (.aload_n 1, 1) := by decide +kernel
theorem dX3_hasClasses_9 : decode cX3_hasClasses 9 = .ok (.arraylength, 1) := by decide +kernel
theorem dX3_hasClasses_10 : decode cX3_hasClasses 10 = .ok (.if_icmp .ge 23, 3) := by decide +kernel
theorem dX3_hasClasses_13 : decode cX3_hasClasses 13 = .ok (.aload_n 0, 1) := by decide +kernel
theorem dX3_hasClasses_14 : decode cX3_hasClasses 14 = .ok (.getfield 18, 3) := by decide +kernel
theorem dX3_hasClasses_17 : decode cX3_hasClasses 17 = .ok (.iload_n 2, 1) := by decide +kernel
theorem dX3_hasClasses_18 : decode cX3_hasClasses 18 = .ok (.iaload, 1) := by decide +kernel
theorem dX3_hasClasses_19 : decode cX3_hasClasses 19 = .ok (.aload_n 1, 1) := by decide +kernel
theorem dX3_hasClasses_20 : decode cX3_hasClasses 20 = .ok (.iload_n 2, 1) := by decide +kernel
theorem dX3_hasClasses_21 : decode cX3_hasClasses 21 = .ok (.iaload, 1) := by decide +kernel
theorem dX3_hasClasses_22 : decode cX3_hasClasses 22 = .ok (.if_icmp .eq 5, 3) := by decide +kernel
theorem dX3_hasClasses_25 : decode cX3_hasClasses 25 = .ok (.iconst 0, 1) := by decide +kernel
theorem dX3_hasClasses_26 : decode cX3_hasClasses 26 = .ok (.ireturn, 1) := by decide +kernel
theorem dX3_hasClasses_27 : decode cX3_hasClasses 27 = .ok (.iinc 2 1, 3) := by decide +kernel
theorem dX3_hasClasses_30 : decode cX3_hasClasses 30 = .ok (.goto (-28), 3) := by decide +kernel
theorem dX3_hasClasses_33 : decode cX3_hasClasses 33 = .ok (.iconst 1, 1) := by decide +kernel
theorem dX3_hasClasses_34 : decode cX3_hasClasses 34 = .ok (.ireturn, 1) := by decide +kernel
theorem dX3_alike_0 : decode cX3_alike 0 = .ok (.iconst 0, 1) := by decide +kernel
theorem dX3_alike_1 : decode cX3_alike 1 = .ok (.istore_n 2, 1) := by decide +kernel
theorem dX3_alike_2 : decode cX3_alike 2 = .ok (.iconst 0, 1) := by decide +kernel
theorem dX3_alike_3 : decode cX3_alike 3 = .ok (.istore_n 3, 1) := by decide +kernel
theorem dX3_alike_4 : decode cX3_alike 4 = .ok (.iload_n 3, 1) := by decide +kernel
theorem dX3_alike_5 : decode cX3_alike 5 = .ok (.iconst 3, 1) := by decide +kernel
theorem dX3_alike_6 : decode cX3_alike 6 = .ok (.if_icmp .ge 31, 3) := by decide +kernel
theorem dX3_alike_9 : decode cX3_alike 9 = .ok (.iload_n 3, 1) := by decide +kernel
theorem dX3_alike_10 : decode cX3_alike 10 = .ok (.aload_n 1, 1) := by decide +kernel
theorem dX3_alike_11 : decode cX3_alike 11 = .ok (.arraylength, 1) := by decide +kernel
theorem dX3_alike_12 : decode cX3_alike 12 = .ok (.if_icmp .ge 25, 3) := by decide +kernel
theorem dX3_alike_15 : decode cX3_alike 15 = .ok (.iload_n 2, 1) := by decide +kernel
theorem dX3_alike_16 : decode cX3_alike 16 = .ok (.aload_n 0, 1) := by decide +kernel
theorem dX3_alike_17 : decode cX3_alike 17 = .ok (.getfield 18, 3) := by decide +kernel
theorem dX3_alike_20 : decode cX3_alike 20 = .ok (.iload_n 3, 1) := by decide +kernel
theorem dX3_alike_21 : decode cX3_alike 21 = .ok (.iaload, 1) := by decide +kernel
theorem dX3_alike_22 : decode cX3_alike 22 = .ok (.aload_n 1, 1) := by decide +kernel
theorem dX3_alike_23 : decode cX3_alike 23 = .ok (.iload_n 3, 1) := by decide +kernel
theorem dX3_alike_24 : decode cX3_alike 24 = .ok (.iaload, 1) := by decide +kernel
theorem dX3_alike_25 : decode cX3_alike 25 = .ok (.iand, 1) := by decide +kernel
theorem dX3_alike_26 : decode cX3_alike 26 = .ok (.invokestatic 79, 3) := by decide +kernel
theorem dX3_alike_29 : decode cX3_alike 29 = .ok (.iadd, 1) := by decide +kernel
theorem dX3_alike_30 : decode cX3_alike 30 = .ok (.istore_n 2, 1) := by decide +kernel
theorem dX3_alike_31 : decode cX3_alike 31 = .ok (.iinc 3 1, 3) := by decide +kernel
theorem dX3_alike_34 : decode cX3_alike 34 = .ok (.goto (-30), 3) := by decide +kernel
theorem dX3_alike_37 : decode cX3_alike 37 = .ok (.iload_n 2, 1) := by decide +kernel
theorem dX3_alike_38 : decode cX3_alike 38 = .ok (.ireturn, 1) := by decide +kernel
theorem dX4_init_0 : decode cX4_init 0 = .ok (.aload_n 0, 1) := by decide +kernel
theorem dX4_init_1 : decode cX4_init 1 = .ok (.invokespecial 3, 3) := by decide +kernel
theorem dX4_init_4 : decode cX4_init 4 = .ok (.aload_n 0, 1) := by decide +kernel
theorem dX4_init_5 : decode cX4_init 5 = .ok (.bipush 60, 2) := by decide +kernel
theorem dX4_init_7 : decode cX4_init 7 = .ok (.newarray .int, 2) := by decide +kernel
theorem dX4_init_9 : decode cX4_init 9 = .ok (.putfield 11, 3) := by decide +kernel
theorem dX4_init_12 : decode cX4_init 12 = .ok (.return_, 1) := by decide +kernel
theorem dX4_append_0 : decode cX4_append 0 = .ok (.aload_n 0, 1) := by decide +kernel
theorem dX4_append_1 : decode cX4_append 1 = .ok (.getfield 15, 3) := by decide +kernel
theorem dX4_append_4 : decode cX4_append 4 = .ok (.ifCond .lt 12, 3) := by decide +kernel
theorem dX4_append_7 : decode cX4_append 7 = .ok (.aload_n 0, 1) := by decide +kernel
theorem dX4_append_8 : decode cX4_append 8 = .ok (.getfield 15, 3) := by decide +kernel
theorem dX4_append_11 : decode cX4_append 11 = .ok (.bipush 60, 2) := by decide +kernel
theorem dX4_append_13 : decode cX4_append 13 = .ok (.if_icmp .lt 5, 3) := by decide +kernel
theorem dX4_append_16 : decode cX4_append 16 = .ok (.iconst 0, 1) := by decide +kernel
theorem dX4_append_17 : decode cX4_append 17 = .ok (.ireturn, 1) := by decide +kernel
theorem dX4_append_18 : decode cX4_append 18 = .ok (.aload_n 0, 1) := by decide +kernel
theorem dX4_append_19 : decode cX4_append 19 = .ok (.getfield 11, 3) := by decide +kernel
theorem dX4_append_22 : decode cX4_append 22 = .ok (.aload_n 0, 1) := by decide +kernel
theorem dX4_append_23 : decode cX4_append 23 = .ok (.getfield 15, 3) := by decide +kernel
theorem dX4_append_26 : decode cX4_append 26 = .ok (.iload_n 1, 1) := by decide +kernel
theorem dX4_append_27 : decode cX4_append 27 = .ok (.iastore, 1) := by decide +kernel
theorem dX4_append_28 : decode cX4_append 28 = .ok (.aload_n 0, 1) := by decide +kernel
theorem dX4_append_29 : decode cX4_append 29 = .ok (.dup, 1) := by decide +kernel
theorem dX4_append_30 : decode cX4_append 30 = .ok (.getfield 15, 3) := by decide +kernel
theorem dX4_append_33 : decode cX4_append 33 = .ok (.iconst 1, 1) := by decide +kernel
theorem dX4_append_34 : decode cX4_append 34 = .ok (.iadd, 1) := by decide +kernel
theorem dX4_append_35 : decode cX4_append 35 = .ok (.putfield 15, 3) := by decide +kernel
theorem dX4_append_38 : decode cX4_append 38 = .ok (.iconst 1, 1) := by decide +kernel
theorem dX4_append_39 : decode cX4_append 39 = .ok (.ireturn, 1) := by decide +kernel
theorem dX4_read_0 : decode cX4_read 0 = .ok (.aload_n 0, 1) := by decide +kernel
theorem dX4_read_1 : decode cX4_read 1 = .ok (.iconst 0, 1) := by decide +kernel
theorem dX4_read_2 : decode cX4_read 2 = .ok (.putfield 19, 3) := by decide +kernel
theorem dX4_read_5 : decode cX4_read 5 = .ok (.aload_n 0, 1) := by decide +kernel
theorem dX4_read_6 : decode cX4_read 6 = .ok (.aload_n 1, 1) := by decide +kernel
theorem dX4_read_7 : decode cX4_read 7 = .ok (.invokevirtual 22, 3) := by decide +kernel
theorem dX4_read_10 : decode cX4_read 10 = .ok (.ifCond .ne 8, 3) := by decide +kernel
theorem dX4_read_13 : decode cX4_read 13 = .ok (.aload_n 0, 1) := by decide +kernel
theorem dX4_read_14 : decode cX4_read 14 = .ok (.getfield 19, 3) := by decide +kernel
theorem dX4_read_17 : decode cX4_read 17 = .ok (.ireturn, 1) := by decide +kernel
theorem dX4_read_18 : decode cX4_read 18 = .ok (.iconst 0, 1) := by decide +kernel
theorem dX4_read_19 : decode cX4_read 19 = .ok (.istore_n 2, 1) := by decide +kernel
theorem dX4_read_20 : decode cX4_read 20 = .ok (.iload_n 2, 1) := by decide +kernel
theorem dX4_read_21 : decode cX4_read 21 = .ok (.bipush 60, 2) := by decide +kernel
theorem dX4_read_23 : decode cX4_read 23 = .ok (.if_icmp .ge 33, 3) := by decide +kernel
theorem dX4_read_26 : decode cX4_read 26 = .ok (.aload_n 0, 1) := by decide +kernel
theorem dX4_read_27 : decode cX4_read 27 = .ok (.getfield 19, 3) := by decide +kernel
theorem dX4_read_30 : decode cX4_read 30 = .ok (.aload_n 0, 1) := by decide +kernel
theorem dX4_read_31 : decode cX4_read 31 = .ok (.getfield 15, 3) := by decide +kernel
theorem dX4_read_34 : decode cX4_read 34 = .ok (.if_icmp .ge 22, 3) := by decide +kernel
theorem dX4_read_37 : decode cX4_read 37 = .ok (.aload_n 0, 1) := by decide +kernel
theorem dX4_read_38 : decode cX4_read 38 = .ok (.aload_n 1, 1) := by decide +kernel
theorem dX4_read_39 : decode cX4_read 39 = .ok (.invokevirtual 26, 3) := by decide +kernel
theorem dX4_read_42 : decode cX4_read 42 = .ok (.ifCond .ne 8, 3) := by decide +kernel
theorem dX4_read_45 : decode cX4_read 45 = .ok (.aload_n 0, 1) := by decide +kernel
theorem dX4_read_46 : decode cX4_read 46 = .ok (.getfield 19, 3) := by decide +kernel
theorem dX4_read_49 : decode cX4_read 49 = .ok (.ireturn, 1) := by decide +kernel
theorem dX4_read_50 : decode cX4_read 50 = .ok (.iinc 2 1, 3) := by decide +kernel
theorem dX4_read_53 : decode cX4_read 53 = .ok (.goto (-33), 3) := by decide +kernel
theorem dX4_read_56 : decode cX4_read 56 = .ok (.bipush (-9), 2) := by decide +kernel
theorem dX4_read_58 : decode cX4_read 58 = .ok (.ireturn, 1) := by decide +kernel
theorem dX4_readPart_0 : decode cX4_readPart 0 = .ok (.aload_n 1, 1) := by decide +kernel
theorem dX4_readPart_1 : decode cX4_readPart 1 = .ok (.getfield 29, 3) := by decide +kernel
theorem dX4_readPart_4 : decode cX4_readPart 4 = .ok (.iconst 4, 1) := by decide +kernel
theorem dX4_readPart_5 : decode cX4_readPart 5 = .ok (.if_icmp .ge 20, 3) := by decide +kernel
theorem dX4_readPart_8 : decode cX4_readPart 8 = .ok (.aload_n 0, 1) := by decide +kernel
theorem dX4_readPart_9 : decode cX4_readPart 9 = .ok (.bipush 101, 2) := by decide +kernel
theorem dX4_readPart_11 : decode cX4_readPart 11 = .ok (.bipush 101, 2) := by decide +kernel
theorem dX4_readPart_13 : decode cX4_readPart 13 = .ok (.invokevirtual 34, 3) := by decide +kernel
theorem dX4_readPart_16 : decode cX4_readPart 16 = .ok (.ifCond .lt 9, 3) := by decide +kernel
theorem dX4_readPart_19 : decode cX4_readPart 19 = .ok (.aload_n 0, 1) := by decide +kernel
theorem dX4_readPart_20 : decode cX4_readPart 20 = .ok (.aload_n 1, 1) := by decide +kernel
theorem dX4_readPart_21 : decode cX4_readPart 21 = .ok (.invokevirtual 38, 3) := by decide +kernel
theorem dX4_readPart_24 : decode cX4_readPart 24 = .ok (.ireturn, 1) := by decide +kernel
theorem dX4_readPart_25 : decode cX4_readPart 25 = .ok (.aload_n 1, 1) := by decide +kernel
theorem dX4_readPart_26 : decode cX4_readPart 26 = .ok (.invokevirtual 41, 3) := by decide +kernel
theorem dX4_readPart_29 : decode cX4_readPart 29 = .ok (.aload_n 1, 1) := by decide +kernel
theorem dX4_readPart_30 : decode cX4_readPart 30 = .ok (.getfield 45, 3) := by decide +kernel
theorem dX4_readPart_33 : decode cX4_readPart 33 = .ok (.if_icmp .ge 26, 3) := by decide +kernel
theorem dX4_readPart_36 : decode cX4_readPart 36 = .ok (.aload_n 0, 1) := by decide +kernel
theorem dX4_readPart_37 : decode cX4_readPart 37 = .ok (.bipush 112, 2) := by decide +kernel
theorem dX4_readPart_39 : decode cX4_readPart 39 = .ok (.bipush 112, 2) := by decide +kernel
theorem dX4_readPart_41 : decode cX4_readPart 41 = .ok (.invokevirtual 34, 3) := by decide +kernel
theorem dX4_readPart_44 : decode cX4_readPart 44 = .ok (.ifCond .lt 15, 3) := by decide +kernel
theorem dX4_readPart_47 : decode cX4_readPart 47 = .ok (.aload_n 0, 1) := by decide +kernel
theorem dX4_readPart_48 : decode cX4_readPart 48 = .ok (.aload_n 1, 1) := by decide +kernel
theorem dX4_readPart_49 : decode cX4_readPart 49 = .ok (.invokevirtual 48, 3) := by decide +kernel
theorem dX4_readPart_52 : decode cX4_readPart 52 = .ok (.ifCond .eq 7, 3) := by decide +kernel
theorem dX4_readPart_55 : decode cX4_readPart 55 = .ok (.iconst 1, 1) := by decide +kernel
theorem dX4_readPart_56 : decode cX4_readPart 56 = .ok (.goto 4, 3) := by decide +kernel
theorem dX4_readPart_59 : decode cX4_readPart 59 = .ok (.iconst 0, 1) := by decide +kernel
theorem dX4_readPart_60 : decode cX4_readPart 60 = .ok (.ireturn, 1) := by decide +kernel
theorem dX4_readHead_0 : decode cX4_readHead 0 = .ok (.aload_n 0, 1) := by decide +kernel
theorem dX4_readHead_1 : decode cX4_readHead 1 = .ok (.bipush 82, 2) := by decide +kernel
theorem dX4_readHead_3 : decode cX4_readHead 3 = .ok (.bipush 82, 2) := by decide +kernel
theorem dX4_readHead_5 : decode cX4_readHead 5 = .ok (.invokevirtual 34, 3) := by decide +kernel
theorem dX4_readHead_8 : decode cX4_readHead 8 = .ok (.ifCond .ge 5, 3) := by decide +kernel
theorem dX4_readHead_11 : decode cX4_readHead 11 = .ok (.iconst 0, 1) := by decide +kernel
theorem dX4_readHead_12 : decode cX4_readHead 12 = .ok (.ireturn, 1) := by decide +kernel
theorem dX4_readHead_13 : decode cX4_readHead 13 = .ok (.aload_n 0, 1) := by decide +kernel
theorem dX4_readHead_14 : decode cX4_readHead 14 = .ok (.bipush 48, 2) := by decide +kernel
theorem dX4_readHead_16 : decode cX4_readHead 16 = .ok (.bipush 49, 2) := by decide +kernel
theorem dX4_readHead_18 : decode cX4_readHead 18 = .ok (.invokevirtual 34, 3) := by decide +kernel
theorem dX4_readHead_21 : decode cX4_readHead 21 = .ok (.istore_n 2, 1) := by decide +kernel
theorem dX4_readHead_22 : decode cX4_readHead 22 = .ok (.iload_n 2, 1) := by decide +kernel
theorem dX4_readHead_23 : decode cX4_readHead 23 = .ok (.ifCond .ge 5, 3) := by decide +kernel
theorem dX4_readHead_26 : decode cX4_readHead 26 = .ok (.iconst 0, 1) := by decide +kernel
theorem dX4_readHead_27 : decode cX4_readHead 27 = .ok (.ireturn, 1) := by decide +kernel
theorem dX4_readHead_28 : decode cX4_readHead 28 = .ok (.iload_n 2, 1) := by decide +kernel
theorem dX4_readHead_29 : decode cX4_readHead 29 = .ok (.bipush 49, 2) := by decide +kernel
theorem dX4_readHead_31 : decode cX4_readHead 31 = .ok (.if_icmp .ne 14, 3) := by decide +kernel
theorem dX4_readHead_34 : decode cX4_readHead 34 = .ok (.aload_n 0, 1) := by decide +kernel
theorem dX4_readHead_35 : decode cX4_readHead 35 = .ok (.bipush 48, 2) := by decide +kernel
theorem dX4_readHead_37 : decode cX4_readHead 37 = .ok (.bipush 48, 2) := by decide +kernel
theorem dX4_readHead_39 : decode cX4_readHead 39 = .ok (.invokevirtual 34, 3) := by decide +kernel
theorem dX4_readHead_42 : decode cX4_readHead 42 = .ok (.goto 11, 3) := by decide +kernel
theorem dX4_readHead_45 : decode cX4_readHead 45 = .ok (.aload_n 0, 1) := by decide +kernel
theorem dX4_readHead_46 : decode cX4_readHead 46 = .ok (.bipush 49, 2) := by decide +kernel
theorem dX4_readHead_48 : decode cX4_readHead 48 = .ok (.bipush 57, 2) := by decide +kernel
theorem dX4_readHead_50 : decode cX4_readHead 50 = .ok (.invokevirtual 34, 3) := by decide +kernel
theorem dX4_readHead_53 : decode cX4_readHead 53 = .ok (.istore_n 3, 1) := by decide +kernel
theorem dX4_readHead_54 : decode cX4_readHead 54 = .ok (.iload_n 3, 1) := by decide +kernel
theorem dX4_readHead_55 : decode cX4_readHead 55 = .ok (.ifCond .ge 5, 3) := by decide +kernel
theorem dX4_readHead_58 : decode cX4_readHead 58 = .ok (.iconst 0, 1) := by decide +kernel
theorem dX4_readHead_59 : decode cX4_readHead 59 = .ok (.ireturn, 1) := by decide +kernel
theorem dX4_readHead_60 : decode cX4_readHead 60 = .ok (.aload_n 0, 1) := by decide +kernel
theorem dX4_readHead_61 : decode cX4_readHead 61 = .ok (.bipush 50, 2) := by decide +kernel
theorem dX4_readHead_63 : decode cX4_readHead 63 = .ok (.bipush 51, 2) := by decide +kernel
theorem dX4_readHead_65 : decode cX4_readHead 65 = .ok (.invokevirtual 34, 3) := by decide +kernel
theorem dX4_readHead_68 : decode cX4_readHead 68 = .ok (.istore 4, 2) := by decide +kernel
theorem dX4_readHead_70 : decode cX4_readHead 70 = .ok (.iload 4, 2) := by decide +kernel
theorem dX4_readHead_72 : decode cX4_readHead 72 = .ok (.ifCond .ge 5, 3) := by decide +kernel
theorem dX4_readHead_75 : decode cX4_readHead 75 = .ok (.iconst 0, 1) := by decide +kernel
theorem dX4_readHead_76 : decode cX4_readHead 76 = .ok (.ireturn, 1) := by decide +kernel
theorem dX4_readHead_77 : decode cX4_readHead 77 = .ok (.aload_n 1, 1) := by decide +kernel
theorem dX4_readHead_78 : decode cX4_readHead 78 = .ok (.bipush 10, 2) := by decide +kernel
theorem dX4_readHead_80 : decode cX4_readHead 80 = .ok (.iload_n 2, 1) := by decide +kernel
theorem dX4_readHead_81 : decode cX4_readHead 81 = .ok (.bipush 48, 2) := by decide +kernel
theorem dX4_readHead_83 : decode cX4_readHead 83 = .ok (.isub, 1) := by decide +kernel
theorem dX4_readHead_84 : decode cX4_readHead 84 = .ok (.imul, 1) := by decide +kernel
theorem dX4_readHead_85 : decode cX4_readHead 85 = .ok (.iload_n 3, 1) := by decide +kernel
theorem dX4_readHead_86 : decode cX4_readHead 86 = .ok (.iadd, 1) := by decide +kernel
theorem dX4_readHead_87 : decode cX4_readHead 87 = .ok (.bipush 48, 2) := by decide +kernel
theorem dX4_readHead_89 : decode cX4_readHead 89 = .ok (.isub, 1) := by decide +kernel
theorem dX4_readHead_90 : decode cX4_readHead 90 = .ok (.iload 4, 2) := by decide +kernel
theorem dX4_readHead_92 : decode cX4_readHead 92 = .ok (.bipush 48, 2) := by decide +kernel
theorem dX4_readHead_94 : decode cX4_readHead 94 = .ok (.isub, 1) := by decide +kernel
theorem dX4_readHead_95 : decode cX4_readHead 95 = .ok (.invokevirtual 51, 3) := by decide +kernel
theorem dX4_readHead_98 : decode cX4_readHead 98 = .ok (.iconst 1, 1) := by decide +kernel
theorem dX4_readHead_99 : decode cX4_readHead 99 = .ok (.ireturn, 1) := by decide +kernel
theorem dX4_readEquation_0 : decode cX4_readEquation 0 = .ok (.aload_n 0, 1) := by decide +kernel
theorem dX4_readEquation_1 : decode cX4_readEquation 1 = .ok (.invokevirtual 55, 3) := by decide +kernel
theorem dX4_readEquation_4 : decode cX4_readEquation 4 = .ok (.istore_n 2, 1) := by decide +kernel
theorem dX4_readEquation_5 : decode cX4_readEquation 5 = .ok (.iload_n 2, 1) := by decide +kernel
theorem dX4_readEquation_6 : decode cX4_readEquation 6 = .ok (.ifCond .ne 7, 3) := by decide +kernel
theorem dX4_readEquation_9 : decode cX4_readEquation 9 = .ok (.iconst 0, 1) := by decide +kernel
theorem dX4_readEquation_10 : decode cX4_readEquation 10 = .ok (.goto 7, 3) := by decide +kernel
theorem dX4_readEquation_13 : decode cX4_readEquation 13 = .ok (.aload_n 0, 1) := by decide +kernel
theorem dX4_readEquation_14 : decode cX4_readEquation 14 = .ok (.invokevirtual 55, 3) := by decide +kernel
theorem dX4_readEquation_17 : decode cX4_readEquation 17 = .ok (.istore_n 3, 1) := by decide +kernel
theorem dX4_readEquation_18 : decode cX4_readEquation 18 = .ok (.iload_n 3, 1) := by decide +kernel
theorem dX4_readEquation_19 : decode cX4_readEquation 19 = .ok (.ifCond .ne 7, 3) := by decide +kernel
theorem dX4_readEquation_22 : decode cX4_readEquation 22 = .ok (.iconst 0, 1) := by decide +kernel
theorem dX4_readEquation_23 : decode cX4_readEquation 23 = .ok (.goto 7, 3) := by decide +kernel
theorem dX4_readEquation_26 : decode cX4_readEquation 26 = .ok (.aload_n 0, 1) := by decide +kernel
theorem dX4_readEquation_27 : decode cX4_readEquation 27 = .ok (.invokevirtual 55, 3) := by decide +kernel
theorem dX4_readEquation_30 : decode cX4_readEquation 30 = .ok (.istore 4, 2) := by decide +kernel
theorem dX4_readEquation_32 : decode cX4_readEquation 32 = .ok (.iload 4, 2) := by decide +kernel
theorem dX4_readEquation_34 : decode cX4_readEquation 34 = .ok (.ifCond .ne 5, 3) := by decide +kernel
theorem dX4_readEquation_37 : decode cX4_readEquation 37 = .ok (.iconst 0, 1) := by decide +kernel
theorem dX4_readEquation_38 : decode cX4_readEquation 38 = .ok (.ireturn, 1) := by decide +kernel
theorem dX4_readEquation_39 : decode cX4_readEquation 39 = .ok (.aload_n 0, 1) := by decide +kernel
theorem dX4_readEquation_40 : decode cX4_readEquation 40 = .ok (.bipush 33, 2) := by decide +kernel
theorem dX4_readEquation_42 : decode cX4_readEquation 42 = .ok (.bipush 33, 2) := by decide +kernel
theorem dX4_readEquation_44 : decode cX4_readEquation 44 = .ok (.invokevirtual 34, 3) := by decide +kernel
theorem dX4_readEquation_47 : decode cX4_readEquation 47 = .ok (.ifCond .lt 7, 3) := by decide +kernel
theorem dX4_readEquation_50 : decode cX4_readEquation 50 = .ok (.iconst 1, 1) := by decide +kernel
theorem dX4_readEquation_51 : decode cX4_readEquation 51 = .ok (.goto 4, 3) := by decide +kernel
theorem dX4_readEquation_54 : decode cX4_readEquation 54 = .ok (.iconst 0, 1) := by decide +kernel
theorem dX4_readEquation_55 : decode cX4_readEquation 55 = .ok (.istore 5, 2) := by decide +kernel
theorem dX4_readEquation_57 : decode cX4_readEquation 57 = .ok (.iload 5, 2) := by decide +kernel
theorem dX4_readEquation_59 : decode cX4_readEquation 59 = .ok (.ifCond .ne 16, 3) := by decide +kernel
theorem dX4_readEquation_62 : decode cX4_readEquation 62 = .ok (.aload_n 0, 1) := by decide +kernel
theorem dX4_readEquation_63 : decode cX4_readEquation 63 = .ok (.bipush 61, 2) := by decide +kernel
theorem dX4_readEquation_65 : decode cX4_readEquation 65 = .ok (.bipush 61, 2) := by decide +kernel
theorem dX4_readEquation_67 : decode cX4_readEquation 67 = .ok (.invokevirtual 34, 3) := by decide +kernel
theorem dX4_readEquation_70 : decode cX4_readEquation 70 = .ok (.ifCond .ge 5, 3) := by decide +kernel
theorem dX4_readEquation_73 : decode cX4_readEquation 73 = .ok (.iconst 0, 1) := by decide +kernel
theorem dX4_readEquation_74 : decode cX4_readEquation 74 = .ok (.ireturn, 1) := by decide +kernel
theorem dX4_readEquation_75 : decode cX4_readEquation 75 = .ok (.aload_n 1, 1) := by decide +kernel
theorem dX4_readEquation_76 : decode cX4_readEquation 76 = .ok (.iload_n 2, 1) := by decide +kernel
theorem dX4_readEquation_77 : decode cX4_readEquation 77 = .ok (.iload_n 3, 1) := by decide +kernel
theorem dX4_readEquation_78 : decode cX4_readEquation 78 = .ok (.iload 4, 2) := by decide +kernel
theorem dX4_readEquation_80 : decode cX4_readEquation 80 = .ok (.iload 5, 2) := by decide +kernel
theorem dX4_readEquation_82 : decode cX4_readEquation 82 = .ok (.ifCond .eq 7, 3) := by decide +kernel
theorem dX4_readEquation_85 : decode cX4_readEquation 85 = .ok (.iconst 1, 1) := by decide +kernel
theorem dX4_readEquation_86 : decode cX4_readEquation 86 = .ok (.goto 4, 3) := by decide +kernel
theorem dX4_readEquation_89 : decode cX4_readEquation 89 = .ok (.iconst 0, 1) := by decide +kernel
theorem dX4_readEquation_90 : decode cX4_readEquation 90 = .ok (.invokevirtual 58, 3) := by decide +kernel
theorem dX4_readEquation_93 : decode cX4_readEquation 93 = .ok (.iconst 1, 1) := by decide +kernel
theorem dX4_readEquation_94 : decode cX4_readEquation 94 = .ok (.ireturn, 1) := by decide +kernel
theorem dX4_readFactor_0 : decode cX4_readFactor 0 = .ok (.aload_n 0, 1) := by decide +kernel
theorem dX4_readFactor_1 : decode cX4_readFactor 1 = .ok (.bipush 49, 2) := by decide +kernel
theorem dX4_readFactor_3 : decode cX4_readFactor 3 = .ok (.bipush 52, 2) := by decide +kernel
theorem dX4_readFactor_5 : decode cX4_readFactor 5 = .ok (.invokevirtual 34, 3) := by decide +kernel
theorem dX4_readFactor_8 : decode cX4_readFactor 8 = .ok (.istore_n 1, 1) := by decide +kernel
theorem dX4_readFactor_9 : decode cX4_readFactor 9 = .ok (.iload_n 1, 1) := by decide +kernel
theorem dX4_readFactor_10 : decode cX4_readFactor 10 = .ok (.ifCond .lt 8, 3) := by decide +kernel
theorem dX4_readFactor_13 : decode cX4_readFactor 13 = .ok (.iload_n 1, 1) := by decide +kernel
theorem dX4_readFactor_14 : decode cX4_readFactor 14 = .ok (.bipush 48, 2) := by decide +kernel
theorem dX4_readFactor_16 : decode cX4_readFactor 16 = .ok (.isub, 1) := by decide +kernel
theorem dX4_readFactor_17 : decode cX4_readFactor 17 = .ok (.ireturn, 1) := by decide +kernel
theorem dX4_readFactor_18 : decode cX4_readFactor 18 = .ok (.aload_n 0, 1) := by decide +kernel
theorem dX4_readFactor_19 : decode cX4_readFactor 19 = .ok (.bipush 97, 2) := by decide +kernel
theorem dX4_readFactor_21 : decode cX4_readFactor 21 = .ok (.bipush 100, 2) := by decide +kernel
theorem dX4_readFactor_23 : decode cX4_readFactor 23 = .ok (.invokevirtual 34, 3) := by decide +kernel
theorem dX4_readFactor_26 : decode cX4_readFactor 26 = .ok (.istore_n 2, 1) := by decide +kernel
theorem dX4_readFactor_27 : decode cX4_readFactor 27 = .ok (.iload_n 2, 1) := by decide +kernel
theorem dX4_readFactor_28 : decode cX4_readFactor 28 = .ok (.ifCond .lt 10, 3) := by decide +kernel
theorem dX4_readFactor_31 : decode cX4_readFactor 31 = .ok (.bipush 96, 2) := by decide +kernel
theorem dX4_readFactor_33 : decode cX4_readFactor 33 = .ok (.iload_n 2, 1) := by decide +kernel
theorem dX4_readFactor_34 : decode cX4_readFactor 34 = .ok (.isub, 1) := by decide +kernel
theorem dX4_readFactor_35 : decode cX4_readFactor 35 = .ok (.goto 4, 3) := by decide +kernel
theorem dX4_readFactor_38 : decode cX4_readFactor 38 = .ok (.iconst 0, 1) := by decide +kernel
theorem dX4_readFactor_39 : decode cX4_readFactor 39 = .ok (.ireturn, 1) := by decide +kernel
theorem dX4_readPin_0 : decode cX4_readPin 0 = .ok (.aload_n 0, 1) := by decide +kernel
theorem dX4_readPin_1 : decode cX4_readPin 1 = .ok (.aload_n 1, 1) := by decide +kernel
theorem dX4_readPin_2 : decode cX4_readPin 2 = .ok (.invokevirtual 62, 3) := by decide +kernel
theorem dX4_readPin_5 : decode cX4_readPin 5 = .ok (.istore_n 2, 1) := by decide +kernel
theorem dX4_readPin_6 : decode cX4_readPin 6 = .ok (.iload_n 2, 1) := by decide +kernel
theorem dX4_readPin_7 : decode cX4_readPin 7 = .ok (.ifCond .ne 5, 3) := by decide +kernel
theorem dX4_readPin_10 : decode cX4_readPin 10 = .ok (.iconst 0, 1) := by decide +kernel
theorem dX4_readPin_11 : decode cX4_readPin 11 = .ok (.ireturn, 1) := by decide +kernel
theorem dX4_readPin_12 : decode cX4_readPin 12 = .ok (.aload_n 0, 1) := by decide +kernel
theorem dX4_readPin_13 : decode cX4_readPin 13 = .ok (.bipush 48, 2) := by decide +kernel
theorem dX4_readPin_15 : decode cX4_readPin 15 = .ok (.bipush 48, 2) := by decide +kernel
theorem dX4_readPin_17 : decode cX4_readPin 17 = .ok (.aload_n 1, 1) := by decide +kernel
theorem dX4_readPin_18 : decode cX4_readPin 18 = .ok (.getfield 66, 3) := by decide +kernel
theorem dX4_readPin_21 : decode cX4_readPin 21 = .ok (.iadd, 1) := by decide +kernel
theorem dX4_readPin_22 : decode cX4_readPin 22 = .ok (.iconst 1, 1) := by decide +kernel
theorem dX4_readPin_23 : decode cX4_readPin 23 = .ok (.isub, 1) := by decide +kernel
theorem dX4_readPin_24 : decode cX4_readPin 24 = .ok (.invokevirtual 34, 3) := by decide +kernel
theorem dX4_readPin_27 : decode cX4_readPin 27 = .ok (.istore_n 3, 1) := by decide +kernel
theorem dX4_readPin_28 : decode cX4_readPin 28 = .ok (.iload_n 3, 1) := by decide +kernel
theorem dX4_readPin_29 : decode cX4_readPin 29 = .ok (.ifCond .ge 5, 3) := by decide +kernel
theorem dX4_readPin_32 : decode cX4_readPin 32 = .ok (.iconst 0, 1) := by decide +kernel
theorem dX4_readPin_33 : decode cX4_readPin 33 = .ok (.ireturn, 1) := by decide +kernel
theorem dX4_readPin_34 : decode cX4_readPin 34 = .ok (.aload_n 1, 1) := by decide +kernel
theorem dX4_readPin_35 : decode cX4_readPin 35 = .ok (.iload_n 2, 1) := by decide +kernel
theorem dX4_readPin_36 : decode cX4_readPin 36 = .ok (.iload_n 3, 1) := by decide +kernel
theorem dX4_readPin_37 : decode cX4_readPin 37 = .ok (.bipush 48, 2) := by decide +kernel
theorem dX4_readPin_39 : decode cX4_readPin 39 = .ok (.isub, 1) := by decide +kernel
theorem dX4_readPin_40 : decode cX4_readPin 40 = .ok (.invokevirtual 69, 3) := by decide +kernel
theorem dX4_readPin_43 : decode cX4_readPin 43 = .ok (.iconst 1, 1) := by decide +kernel
theorem dX4_readPin_44 : decode cX4_readPin 44 = .ok (.ireturn, 1) := by decide +kernel
theorem dX4_readNumber_0 : decode cX4_readNumber 0 = .ok (.aload_n 1, 1) := by decide +kernel
theorem dX4_readNumber_1 : decode cX4_readNumber 1 = .ok (.invokestatic 72, 3) := by decide +kernel
theorem dX4_readNumber_4 : decode cX4_readNumber 4 = .ok (.ifCond .eq 8, 3) := by decide +kernel
theorem dX4_readNumber_7 : decode cX4_readNumber 7 = .ok (.bipush 48, 2) := by decide +kernel
theorem dX4_readNumber_9 : decode cX4_readNumber 9 = .ok (.goto 5, 3) := by decide +kernel
theorem dX4_readNumber_12 : decode cX4_readNumber 12 = .ok (.bipush 49, 2) := by decide +kernel
theorem dX4_readNumber_14 : decode cX4_readNumber 14 = .ok (.istore_n 2, 1) := by decide +kernel
theorem dX4_readNumber_15 : decode cX4_readNumber 15 = .ok (.aload_n 1, 1) := by decide +kernel
theorem dX4_readNumber_16 : decode cX4_readNumber 16 = .ok (.bipush 10, 2) := by decide +kernel
theorem dX4_readNumber_18 : decode cX4_readNumber 18 = .ok (.invokevirtual 75, 3) := by decide +kernel
theorem dX4_readNumber_21 : decode cX4_readNumber 21 = .ok (.ifCond .eq 8, 3) := by decide +kernel
theorem dX4_readNumber_24 : decode cX4_readNumber 24 = .ok (.bipush 49, 2) := by decide +kernel
theorem dX4_readNumber_26 : decode cX4_readNumber 26 = .ok (.goto 5, 3) := by decide +kernel
theorem dX4_readNumber_29 : decode cX4_readNumber 29 = .ok (.bipush 48, 2) := by decide +kernel
theorem dX4_readNumber_31 : decode cX4_readNumber 31 = .ok (.istore_n 3, 1) := by decide +kernel
theorem dX4_readNumber_32 : decode cX4_readNumber 32 = .ok (.aload_n 0, 1) := by decide +kernel
theorem dX4_readNumber_33 : decode cX4_readNumber 33 = .ok (.iload_n 2, 1) := by decide +kernel
theorem dX4_readNumber_34 : decode cX4_readNumber 34 = .ok (.iload_n 3, 1) := by decide +kernel
theorem dX4_readNumber_35 : decode cX4_readNumber 35 = .ok (.invokevirtual 34, 3) := by decide +kernel
theorem dX4_readNumber_38 : decode cX4_readNumber 38 = .ok (.istore 4, 2) := by decide +kernel
theorem dX4_readNumber_40 : decode cX4_readNumber 40 = .ok (.iload 4, 2) := by decide +kernel
theorem dX4_readNumber_42 : decode cX4_readNumber 42 = .ok (.ifCond .ge 5, 3) := by decide +kernel
theorem dX4_readNumber_45 : decode cX4_readNumber 45 = .ok (.iconst 0, 1) := by decide +kernel
theorem dX4_readNumber_46 : decode cX4_readNumber 46 = .ok (.ireturn, 1) := by decide +kernel
theorem dX4_readNumber_47 : decode cX4_readNumber 47 = .ok (.iconst 0, 1) := by decide +kernel
theorem dX4_readNumber_48 : decode cX4_readNumber 48 = .ok (.istore 5, 2) := by decide +kernel
theorem dX4_readNumber_50 : decode cX4_readNumber 50 = .ok (.iload 5, 2) := by decide +kernel
theorem dX4_readNumber_52 : decode cX4_readNumber 52 = .ok (.bipush 9, 2) := by decide +kernel
theorem dX4_readNumber_54 : decode cX4_readNumber 54 = .ok (.if_icmp .gt 51, 3) := by decide +kernel
theorem dX4_readNumber_57 : decode cX4_readNumber 57 = .ok (.bipush 10, 2) := by decide +kernel
theorem dX4_readNumber_59 : decode cX4_readNumber 59 = .ok (.iload 4, 2) := by decide +kernel
theorem dX4_readNumber_61 : decode cX4_readNumber 61 = .ok (.bipush 48, 2) := by decide +kernel
theorem dX4_readNumber_63 : decode cX4_readNumber 63 = .ok (.isub, 1) := by decide +kernel
theorem dX4_readNumber_64 : decode cX4_readNumber 64 = .ok (.imul, 1) := by decide +kernel
theorem dX4_readNumber_65 : decode cX4_readNumber 65 = .ok (.iload 5, 2) := by decide +kernel
theorem dX4_readNumber_67 : decode cX4_readNumber 67 = .ok (.iadd, 1) := by decide +kernel
theorem dX4_readNumber_68 : decode cX4_readNumber 68 = .ok (.istore 6, 2) := by decide +kernel
theorem dX4_readNumber_70 : decode cX4_readNumber 70 = .ok (.aload_n 1, 1) := by decide +kernel
theorem dX4_readNumber_71 : decode cX4_readNumber 71 = .ok (.iload 6, 2) := by decide +kernel
theorem dX4_readNumber_73 : decode cX4_readNumber 73 = .ok (.invokevirtual 75, 3) := by decide +kernel
theorem dX4_readNumber_76 : decode cX4_readNumber 76 = .ok (.ifCond .eq 23, 3) := by decide +kernel
theorem dX4_readNumber_79 : decode cX4_readNumber 79 = .ok (.aload_n 0, 1) := by decide +kernel
theorem dX4_readNumber_80 : decode cX4_readNumber 80 = .ok (.bipush 48, 2) := by decide +kernel
theorem dX4_readNumber_82 : decode cX4_readNumber 82 = .ok (.iload 5, 2) := by decide +kernel
theorem dX4_readNumber_84 : decode cX4_readNumber 84 = .ok (.iadd, 1) := by decide +kernel
theorem dX4_readNumber_85 : decode cX4_readNumber 85 = .ok (.bipush 48, 2) := by decide +kernel
theorem dX4_readNumber_87 : decode cX4_readNumber 87 = .ok (.iload 5, 2) := by decide +kernel
theorem dX4_readNumber_89 : decode cX4_readNumber 89 = .ok (.iadd, 1) := by decide +kernel
theorem dX4_readNumber_90 : decode cX4_readNumber 90 = .ok (.invokevirtual 34, 3) := by decide +kernel
theorem dX4_readNumber_93 : decode cX4_readNumber 93 = .ok (.ifCond .lt 6, 3) := by decide +kernel
theorem dX4_readNumber_96 : decode cX4_readNumber 96 = .ok (.iload 6, 2) := by decide +kernel
theorem dX4_readNumber_98 : decode cX4_readNumber 98 = .ok (.ireturn, 1) := by decide +kernel
theorem dX4_readNumber_99 : decode cX4_readNumber 99 = .ok (.iinc 5 1, 3) := by decide +kernel
theorem dX4_readNumber_102 : decode cX4_readNumber 102 = .ok (.goto (-52), 3) := by decide +kernel
theorem dX4_readNumber_105 : decode cX4_readNumber 105 = .ok (.iconst 0, 1) := by decide +kernel
theorem dX4_readNumber_106 : decode cX4_readNumber 106 = .ok (.ireturn, 1) := by decide +kernel
theorem dX4_lowNumberFree_0 : decode cX4_lowNumberFree 0 = .ok (.iconst 1, 1) := by decide +kernel
theorem dX4_lowNumberFree_1 : decode cX4_lowNumberFree 1 = .ok (.istore_n 1, 1) := by decide +kernel
theorem dX4_lowNumberFree_2 : decode cX4_lowNumberFree 2 = .ok (.iload_n 1, 1) := by decide +kernel
theorem dX4_lowNumberFree_3 : decode cX4_lowNumberFree 3 = .ok (.bipush 10, 2) := by decide +kernel
theorem dX4_lowNumberFree_5 : decode cX4_lowNumberFree 5 = .ok (.if_icmp .ge 19, 3) := by decide +kernel
theorem dX4_lowNumberFree_8 : decode cX4_lowNumberFree 8 = .ok (.aload_n 0, 1) := by decide +kernel
theorem dX4_lowNumberFree_9 : decode cX4_lowNumberFree 9 = .ok (.iload_n 1, 1) := by decide +kernel
theorem dX4_lowNumberFree_10 : decode cX4_lowNumberFree 10 = .ok (.invokevirtual 75, 3) := by decide +kernel
theorem dX4_lowNumberFree_13 : decode cX4_lowNumberFree 13 = .ok (.ifCond .eq 5, 3) := by decide +kernel
theorem dX4_lowNumberFree_16 : decode cX4_lowNumberFree 16 = .ok (.iconst 1, 1) := by decide +kernel
theorem dX4_lowNumberFree_17 : decode cX4_lowNumberFree 17 = .ok (.ireturn, 1) := by decide +kernel
theorem dX4_lowNumberFree_18 : decode cX4_lowNumberFree 18 = .ok (.iinc 1 1, 3) := by decide +kernel
theorem dX4_lowNumberFree_21 : decode cX4_lowNumberFree 21 = .ok (.goto (-19), 3) := by decide +kernel
theorem dX4_lowNumberFree_24 : decode cX4_lowNumberFree 24 = .ok (.iconst 0, 1) := by decide +kernel
theorem dX4_lowNumberFree_25 : decode cX4_lowNumberFree 25 = .ok (.ireturn, 1) := by decide +kernel
theorem dX4_accept_0 : decode cX4_accept 0 = .ok (.aload_n 0, 1) := by decide +kernel
theorem dX4_accept_1 : decode cX4_accept 1 = .ok (.getfield 19, 3) := by decide +kernel
theorem dX4_accept_4 : decode cX4_accept 4 = .ok (.ifCond .lt 23, 3) := by decide +kernel
theorem dX4_accept_7 : decode cX4_accept 7 = .ok (.aload_n 0, 1) := by decide +kernel
theorem dX4_accept_8 : decode cX4_accept 8 = .ok (.getfield 19, 3) := by decide +kernel
theorem dX4_accept_11 : decode cX4_accept 11 = .ok (.aload_n 0, 1) := by decide +kernel
theorem dX4_accept_12 : decode cX4_accept 12 = .ok (.getfield 15, 3) := by decide +kernel
theorem dX4_accept_15 : decode cX4_accept 15 = .ok (.if_icmp .ge 12, 3) := by decide +kernel
theorem dX4_accept_18 : decode cX4_accept 18 = .ok (.aload_n 0, 1) := by decide +kernel
theorem dX4_accept_19 : decode cX4_accept 19 = .ok (.getfield 19, 3) := by decide +kernel
theorem dX4_accept_22 : decode cX4_accept 22 = .ok (.bipush 60, 2) := by decide +kernel
theorem dX4_accept_24 : decode cX4_accept 24 = .ok (.if_icmp .lt 5, 3) := by decide +kernel
theorem dX4_accept_27 : decode cX4_accept 27 = .ok (.iconst (-1), 1) := by decide +kernel
theorem dX4_accept_28 : decode cX4_accept 28 = .ok (.ireturn, 1) := by decide +kernel
theorem dX4_accept_29 : decode cX4_accept 29 = .ok (.aload_n 0, 1) := by decide +kernel
theorem dX4_accept_30 : decode cX4_accept 30 = .ok (.getfield 11, 3) := by decide +kernel
theorem dX4_accept_33 : decode cX4_accept 33 = .ok (.aload_n 0, 1) := by decide +kernel
theorem dX4_accept_34 : decode cX4_accept 34 = .ok (.getfield 19, 3) := by decide +kernel
theorem dX4_accept_37 : decode cX4_accept 37 = .ok (.iaload, 1) := by decide +kernel
theorem dX4_accept_38 : decode cX4_accept 38 = .ok (.istore_n 3, 1) := by decide +kernel
theorem dX4_accept_39 : decode cX4_accept 39 = .ok (.iload_n 3, 1) := by decide +kernel
theorem dX4_accept_40 : decode cX4_accept 40 = .ok (.iload_n 1, 1) := by decide +kernel
theorem dX4_accept_41 : decode cX4_accept 41 = .ok (.if_icmp .lt 8, 3) := by decide +kernel
theorem dX4_accept_44 : decode cX4_accept 44 = .ok (.iload_n 3, 1) := by decide +kernel
theorem dX4_accept_45 : decode cX4_accept 45 = .ok (.iload_n 2, 1) := by decide +kernel
theorem dX4_accept_46 : decode cX4_accept 46 = .ok (.if_icmp .le 5, 3) := by decide +kernel
theorem dX4_accept_49 : decode cX4_accept 49 = .ok (.iconst (-1), 1) := by decide +kernel
theorem dX4_accept_50 : decode cX4_accept 50 = .ok (.ireturn, 1) := by decide +kernel
theorem dX4_accept_51 : decode cX4_accept 51 = .ok (.aload_n 0, 1) := by decide +kernel
theorem dX4_accept_52 : decode cX4_accept 52 = .ok (.dup, 1) := by decide +kernel
theorem dX4_accept_53 : decode cX4_accept 53 = .ok (.getfield 19, 3) := by decide +kernel
theorem dX4_accept_56 : decode cX4_accept 56 = .ok (.iconst 1, 1) := by decide +kernel
theorem dX4_accept_57 : decode cX4_accept 57 = .ok (.iadd, 1) := by decide +kernel
theorem dX4_accept_58 : decode cX4_accept 58 = .ok (.putfield 19, 3) := by decide +kernel
theorem dX4_accept_61 : decode cX4_accept 61 = .ok (.iload_n 3, 1) := by decide +kernel
theorem dX4_accept_62 : decode cX4_accept 62 = .ok (.ireturn, 1) := by decide +kernel
theorem dX5_init_0 : decode cX5_init 0 = .ok (.aload_n 0, 1) := by decide +kernel
theorem dX5_init_1 : decode cX5_init 1 = .ok (.invokespecial 3, 3) := by decide +kernel
theorem dX5_init_4 : decode cX5_init 4 = .ok (.aload_n 0, 1) := by decide +kernel
theorem dX5_init_5 : decode cX5_init 5 = .ok (.new 9, 3) := by decide +kernel
theorem dX5_init_8 : decode cX5_init 8 = .ok (.dup, 1) := by decide +kernel
theorem dX5_init_9 : decode cX5_init 9 = .ok (.invokespecial 11, 3) := by decide +kernel
theorem dX5_init_12 : decode cX5_init 12 = .ok (.putfield 12, 3) := by decide +kernel
theorem dX5_init_15 : decode cX5_init 15 = .ok (.aload_n 0, 1) := by decide +kernel
theorem dX5_init_16 : decode cX5_init 16 = .ok (.new 18, 3) := by decide +kernel
theorem dX5_init_19 : decode cX5_init 19 = .ok (.dup, 1) := by decide +kernel
theorem dX5_init_20 : decode cX5_init 20 = .ok (.invokespecial 20, 3) := by decide +kernel
theorem dX5_init_23 : decode cX5_init 23 = .ok (.putfield 21, 3) := by decide +kernel
theorem dX5_init_26 : decode cX5_init 26 = .ok (.aload_n 0, 1) := by decide +kernel
theorem dX5_init_27 : decode cX5_init 27 = .ok (.new 25, 3) := by decide +kernel
theorem dX5_init_30 : decode cX5_init 30 = .ok (.dup, 1) := by decide +kernel
theorem dX5_init_31 : decode cX5_init 31 = .ok (.invokespecial 27, 3) := by decide +kernel
theorem dX5_init_34 : decode cX5_init 34 = .ok (.putfield 28, 3) := by decide +kernel
theorem dX5_init_37 : decode cX5_init 37 = .ok (.aload_n 0, 1) := by decide +kernel
theorem dX5_init_38 : decode cX5_init 38 = .ok (.iconst 3, 1) := by decide +kernel
theorem dX5_init_39 : decode cX5_init 39 = .ok (.newarray .int, 2) := by decide +kernel
theorem dX5_init_41 : decode cX5_init 41 = .ok (.putfield 32, 3) := by decide +kernel
theorem dX5_init_44 : decode cX5_init 44 = .ok (.aload_n 0, 1) := by decide +kernel
theorem dX5_init_45 : decode cX5_init 45 = .ok (.iconst 3, 1) := by decide +kernel
theorem dX5_init_46 : decode cX5_init 46 = .ok (.newarray .int, 2) := by decide +kernel
theorem dX5_init_48 : decode cX5_init 48 = .ok (.putfield 36, 3) := by decide +kernel
theorem dX5_init_51 : decode cX5_init 51 = .ok (.aload_n 0, 1) := by decide +kernel
theorem dX5_init_52 : decode cX5_init 52 = .ok (.bipush 11, 2) := by decide +kernel
theorem dX5_init_54 : decode cX5_init 54 = .ok (.newarray .int, 2) := by decide +kernel
theorem dX5_init_56 : decode cX5_init 56 = .ok (.putfield 39, 3) := by decide +kernel
theorem dX5_init_59 : decode cX5_init 59 = .ok (.aload_n 0, 1) := by decide +kernel
theorem dX5_init_60 : decode cX5_init 60 = .ok (.bipush 16, 2) := by decide +kernel
theorem dX5_init_62 : decode cX5_init 62 = .ok (.newarray .int, 2) := by decide +kernel
theorem dX5_init_64 : decode cX5_init 64 = .ok (.putfield 42, 3) := by decide +kernel
theorem dX5_init_67 : decode cX5_init 67 = .ok (.return_, 1) := by decide +kernel
theorem dX5_begin_0 : decode cX5_begin 0 = .ok (.aload_n 0, 1) := by decide +kernel
theorem dX5_begin_1 : decode cX5_begin 1 = .ok (.getfield 28, 3) := by decide +kernel
theorem dX5_begin_4 : decode cX5_begin 4 = .ok (.aload_n 1, 1) := by decide +kernel
theorem dX5_begin_5 : decode cX5_begin 5 = .ok (.invokevirtual 45, 3) := by decide +kernel
theorem dX5_begin_8 : decode cX5_begin 8 = .ok (.aload_n 0, 1) := by decide +kernel
theorem dX5_begin_9 : decode cX5_begin 9 = .ok (.getfield 21, 3) := by decide +kernel
theorem dX5_begin_12 : decode cX5_begin 12 = .ok (.aload_n 0, 1) := by decide +kernel
theorem dX5_begin_13 : decode cX5_begin 13 = .ok (.getfield 28, 3) := by decide +kernel
theorem dX5_begin_16 : decode cX5_begin 16 = .ok (.invokevirtual 49, 3) := by decide +kernel
theorem dX5_begin_19 : decode cX5_begin 19 = .ok (.aload_n 0, 1) := by decide +kernel
theorem dX5_begin_20 : decode cX5_begin 20 = .ok (.getfield 32, 3) := by decide +kernel
theorem dX5_begin_23 : decode cX5_begin 23 = .ok (.iconst 0, 1) := by decide +kernel
theorem dX5_begin_24 : decode cX5_begin 24 = .ok (.invokestatic 52, 3) := by decide +kernel
theorem dX5_begin_27 : decode cX5_begin 27 = .ok (.return_, 1) := by decide +kernel
theorem dX5_survey_0 : decode cX5_survey 0 = .ok (.aload_n 0, 1) := by decide +kernel
theorem dX5_survey_1 : decode cX5_survey 1 = .ok (.aload_n 1, 1) := by decide +kernel
theorem dX5_survey_2 : decode cX5_survey 2 = .ok (.invokevirtual 58, 3) := by decide +kernel
theorem dX5_survey_5 : decode cX5_survey 5 = .ok (.aload_n 0, 1) := by decide +kernel
theorem dX5_survey_6 : decode cX5_survey 6 = .ok (.getfield 39, 3) := by decide +kernel
theorem dX5_survey_9 : decode cX5_survey 9 = .ok (.iconst 0, 1) := by decide +kernel
theorem dX5_survey_10 : decode cX5_survey 10 = .ok (.invokestatic 52, 3) := by decide +kernel
theorem dX5_survey_13 : decode cX5_survey 13 = .ok (.aload_n 0, 1) := by decide +kernel
theorem dX5_survey_14 : decode cX5_survey 14 = .ok (.iload_n 2, 1) := by decide +kernel
theorem dX5_survey_15 : decode cX5_survey 15 = .ok (.putfield 61, 3) := by decide +kernel
theorem dX5_survey_18 : decode cX5_survey 18 = .ok (.aload_n 0, 1) := by decide +kernel
theorem dX5_survey_19 : decode cX5_survey 19 = .ok (.iconst 0, 1) := by decide +kernel
theorem dX5_survey_20 : decode cX5_survey 20 = .ok (.putfield 65, 3) := by decide +kernel
theorem dX5_survey_23 : decode cX5_survey 23 = .ok (.aload_n 0, 1) := by decide +kernel
theorem dX5_survey_24 : decode cX5_survey 24 = .ok (.bipush (-9), 2) := by decide +kernel
theorem dX5_survey_26 : decode cX5_survey 26 = .ok (.putfield 68, 3) := by decide +kernel
theorem dX5_survey_29 : decode cX5_survey 29 = .ok (.aload_n 0, 1) := by decide +kernel
theorem dX5_survey_30 : decode cX5_survey 30 = .ok (.iconst 0, 1) := by decide +kernel
theorem dX5_survey_31 : decode cX5_survey 31 = .ok (.putfield 71, 3) := by decide +kernel
theorem dX5_survey_34 : decode cX5_survey 34 = .ok (.aload_n 0, 1) := by decide +kernel
theorem dX5_survey_35 : decode cX5_survey 35 = .ok (.iconst 0, 1) := by decide +kernel
theorem dX5_survey_36 : decode cX5_survey 36 = .ok (.putfield 74, 3) := by decide +kernel
theorem dX5_survey_39 : decode cX5_survey 39 = .ok (.aload_n 0, 1) := by decide +kernel
theorem dX5_survey_40 : decode cX5_survey 40 = .ok (.iconst 0, 1) := by decide +kernel
theorem dX5_survey_41 : decode cX5_survey 41 = .ok (.putfield 77, 3) := by decide +kernel
theorem dX5_survey_44 : decode cX5_survey 44 = .ok (.aload_n 0, 1) := by decide +kernel
theorem dX5_survey_45 : decode cX5_survey 45 = .ok (.bipush (-9), 2) := by decide +kernel
theorem dX5_survey_47 : decode cX5_survey 47 = .ok (.putfield 80, 3) := by decide +kernel
theorem dX5_survey_50 : decode cX5_survey 50 = .ok (.aload_n 0, 1) := by decide +kernel
theorem dX5_survey_51 : decode cX5_survey 51 = .ok (.iconst 1, 1) := by decide +kernel
theorem dX5_survey_52 : decode cX5_survey 52 = .ok (.invokestatic 83, 3) := by decide +kernel
theorem dX5_survey_55 : decode cX5_survey 55 = .ok (.return_, 1) := by decide +kernel
theorem dX5_extend_0 : decode cX5_extend 0 = .ok (.aload_n 0, 1) := by decide +kernel
theorem dX5_extend_1 : decode cX5_extend 1 = .ok (.aload_n 0, 1) := by decide +kernel
theorem dX5_extend_2 : decode cX5_extend 2 = .ok (.getfield 74, 3) := by decide +kernel
theorem dX5_extend_5 : decode cX5_extend 5 = .ok (.iload_n 1, 1) := by decide +kernel
theorem dX5_extend_6 : decode cX5_extend 6 = .ok (.iconst 1, 1) := by decide +kernel
theorem dX5_extend_7 : decode cX5_extend 7 = .ok (.isub, 1) := by decide +kernel
theorem dX5_extend_8 : decode cX5_extend 8 = .ok (.invokestatic 87, 3) := by decide +kernel
theorem dX5_extend_11 : decode cX5_extend 11 = .ok (.putfield 74, 3) := by decide +kernel
theorem dX5_extend_14 : decode cX5_extend 14 = .ok (.aload_n 0, 1) := by decide +kernel
theorem dX5_extend_15 : decode cX5_extend 15 = .ok (.getfield 28, 3) := by decide +kernel
theorem dX5_extend_18 : decode cX5_extend 18 = .ok (.iload_n 1, 1) := by decide +kernel
theorem dX5_extend_19 : decode cX5_extend 19 = .ok (.invokevirtual 93, 3) := by decide +kernel
theorem dX5_extend_22 : decode cX5_extend 22 = .ok (.ifCond .ne 8, 3) := by decide +kernel
theorem dX5_extend_25 : decode cX5_extend 25 = .ok (.aload_n 0, 1) := by decide +kernel
theorem dX5_extend_26 : decode cX5_extend 26 = .ok (.invokevirtual 97, 3) := by decide +kernel
theorem dX5_extend_29 : decode cX5_extend 29 = .ok (.return_, 1) := by decide +kernel
theorem dX5_extend_30 : decode cX5_extend 30 = .ok (.iconst 1, 1) := by decide +kernel
theorem dX5_extend_31 : decode cX5_extend 31 = .ok (.istore_n 2, 1) := by decide +kernel
theorem dX5_extend_32 : decode cX5_extend 32 = .ok (.iconst 0, 1) := by decide +kernel
theorem dX5_extend_33 : decode cX5_extend 33 = .ok (.istore_n 3, 1) := by decide +kernel
theorem dX5_extend_34 : decode cX5_extend 34 = .ok (.iload_n 3, 1) := by decide +kernel
theorem dX5_extend_35 : decode cX5_extend 35 = .ok (.iconst 3, 1) := by decide +kernel
theorem dX5_extend_36 : decode cX5_extend 36 = .ok (.if_icmp .ge 59, 3) := by decide +kernel
theorem dX5_extend_39 : decode cX5_extend 39 = .ok (.aload_n 0, 1) := by decide +kernel
theorem dX5_extend_40 : decode cX5_extend 40 = .ok (.iload_n 1, 1) := by decide +kernel
theorem dX5_extend_41 : decode cX5_extend 41 = .ok (.iload_n 3, 1) := by decide +kernel
theorem dX5_extend_42 : decode cX5_extend 42 = .ok (.invokevirtual 100, 3) := by decide +kernel
theorem dX5_extend_45 : decode cX5_extend 45 = .ok (.ifCond .eq 44, 3) := by decide +kernel
theorem dX5_extend_48 : decode cX5_extend 48 = .ok (.aload_n 0, 1) := by decide +kernel
theorem dX5_extend_49 : decode cX5_extend 49 = .ok (.getfield 65, 3) := by decide +kernel
theorem dX5_extend_52 : decode cX5_extend 52 = .ok (.istore 4, 2) := by decide +kernel
theorem dX5_extend_54 : decode cX5_extend 54 = .ok (.aload_n 0, 1) := by decide +kernel
theorem dX5_extend_55 : decode cX5_extend 55 = .ok (.iload_n 1, 1) := by decide +kernel
theorem dX5_extend_56 : decode cX5_extend 56 = .ok (.iconst 1, 1) := by decide +kernel
theorem dX5_extend_57 : decode cX5_extend 57 = .ok (.iadd, 1) := by decide +kernel
theorem dX5_extend_58 : decode cX5_extend 58 = .ok (.invokestatic 83, 3) := by decide +kernel
theorem dX5_extend_61 : decode cX5_extend 61 = .ok (.aload_n 0, 1) := by decide +kernel
theorem dX5_extend_62 : decode cX5_extend 62 = .ok (.iload_n 1, 1) := by decide +kernel
theorem dX5_extend_63 : decode cX5_extend 63 = .ok (.iload_n 3, 1) := by decide +kernel
theorem dX5_extend_64 : decode cX5_extend 64 = .ok (.invokevirtual 104, 3) := by decide +kernel
theorem dX5_extend_67 : decode cX5_extend 67 = .ok (.aload_n 0, 1) := by decide +kernel
theorem dX5_extend_68 : decode cX5_extend 68 = .ok (.iload_n 1, 1) := by decide +kernel
theorem dX5_extend_69 : decode cX5_extend 69 = .ok (.iload_n 3, 1) := by decide +kernel
theorem dX5_extend_70 : decode cX5_extend 70 = .ok (.aload_n 0, 1) := by decide +kernel
theorem dX5_extend_71 : decode cX5_extend 71 = .ok (.getfield 65, 3) := by decide +kernel
theorem dX5_extend_74 : decode cX5_extend 74 = .ok (.iload 4, 2) := by decide +kernel
theorem dX5_extend_76 : decode cX5_extend 76 = .ok (.if_icmp .le 7, 3) := by decide +kernel
theorem dX5_extend_79 : decode cX5_extend 79 = .ok (.iconst 1, 1) := by decide +kernel
theorem dX5_extend_80 : decode cX5_extend 80 = .ok (.goto 4, 3) := by decide +kernel
theorem dX5_extend_83 : decode cX5_extend 83 = .ok (.iconst 0, 1) := by decide +kernel
theorem dX5_extend_84 : decode cX5_extend 84 = .ok (.invokevirtual 108, 3) := by decide +kernel
theorem dX5_extend_87 : decode cX5_extend 87 = .ok (.iconst 0, 1) := by decide +kernel
theorem dX5_extend_88 : decode cX5_extend 88 = .ok (.istore_n 2, 1) := by decide +kernel
theorem dX5_extend_89 : decode cX5_extend 89 = .ok (.iinc 3 1, 3) := by decide +kernel
theorem dX5_extend_92 : decode cX5_extend 92 = .ok (.goto (-58), 3) := by decide +kernel
theorem dX5_extend_95 : decode cX5_extend 95 = .ok (.iload_n 2, 1) := by decide +kernel
theorem dX5_extend_96 : decode cX5_extend 96 = .ok (.ifCond .eq 13, 3) := by decide +kernel
theorem dX5_extend_99 : decode cX5_extend 99 = .ok (.aload_n 0, 1) := by decide +kernel
theorem dX5_extend_100 : decode cX5_extend 100 = .ok (.dup, 1) := by decide +kernel
theorem dX5_extend_101 : decode cX5_extend 101 = .ok (.getfield 71, 3) := by decide +kernel
theorem dX5_extend_104 : decode cX5_extend 104 = .ok (.iconst 1, 1) := by decide +kernel
theorem dX5_extend_105 : decode cX5_extend 105 = .ok (.iadd, 1) := by decide +kernel
theorem dX5_extend_106 : decode cX5_extend 106 = .ok (.putfield 71, 3) := by decide +kernel
theorem dX5_extend_109 : decode cX5_extend 109 = .ok (.return_, 1) := by decide +kernel
theorem dX5_arrive_0 : decode cX5_arrive 0 = .ok (.aload_n 0, 1) := by decide +kernel
theorem dX5_arrive_1 : decode cX5_arrive 1 = .ok (.getfield 65, 3) := by decide +kernel
theorem dX5_arrive_4 : decode cX5_arrive 4 = .ok (.aload_n 0, 1) := by decide +kernel
theorem dX5_arrive_5 : decode cX5_arrive 5 = .ok (.getfield 61, 3) := by decide +kernel
theorem dX5_arrive_8 : decode cX5_arrive 8 = .ok (.if_icmp .ne 17, 3) := by decide +kernel
theorem dX5_arrive_11 : decode cX5_arrive 11 = .ok (.aload_n 0, 1) := by decide +kernel
theorem dX5_arrive_12 : decode cX5_arrive 12 = .ok (.getfield 32, 3) := by decide +kernel
theorem dX5_arrive_15 : decode cX5_arrive 15 = .ok (.iconst 0, 1) := by decide +kernel
theorem dX5_arrive_16 : decode cX5_arrive 16 = .ok (.aload_n 0, 1) := by decide +kernel
theorem dX5_arrive_17 : decode cX5_arrive 17 = .ok (.getfield 36, 3) := by decide +kernel
theorem dX5_arrive_20 : decode cX5_arrive 20 = .ok (.iconst 0, 1) := by decide +kernel
theorem dX5_arrive_21 : decode cX5_arrive 21 = .ok (.iconst 3, 1) := by decide +kernel
theorem dX5_arrive_22 : decode cX5_arrive 22 = .ok (.invokestatic 112, 3) := by decide +kernel
theorem dX5_arrive_25 : decode cX5_arrive 25 = .ok (.aload_n 0, 1) := by decide +kernel
theorem dX5_arrive_26 : decode cX5_arrive 26 = .ok (.getfield 28, 3) := by decide +kernel
theorem dX5_arrive_29 : decode cX5_arrive 29 = .ok (.getfield 118, 3) := by decide +kernel
theorem dX5_arrive_32 : decode cX5_arrive 32 = .ok (.ifCond .eq 25, 3) := by decide +kernel
theorem dX5_arrive_35 : decode cX5_arrive 35 = .ok (.aload_n 0, 1) := by decide +kernel
theorem dX5_arrive_36 : decode cX5_arrive 36 = .ok (.getfield 28, 3) := by decide +kernel
theorem dX5_arrive_39 : decode cX5_arrive 39 = .ok (.aload_n 0, 1) := by decide +kernel
theorem dX5_arrive_40 : decode cX5_arrive 40 = .ok (.getfield 32, 3) := by decide +kernel
theorem dX5_arrive_43 : decode cX5_arrive 43 = .ok (.invokevirtual 122, 3) := by decide +kernel
theorem dX5_arrive_46 : decode cX5_arrive 46 = .ok (.ifCond .eq 11, 3) := by decide +kernel
theorem dX5_arrive_49 : decode cX5_arrive 49 = .ok (.aload_n 0, 1) := by decide +kernel
theorem dX5_arrive_50 : decode cX5_arrive 50 = .ok (.aload_n 0, 1) := by decide +kernel
theorem dX5_arrive_51 : decode cX5_arrive 51 = .ok (.getfield 65, 3) := by decide +kernel
theorem dX5_arrive_54 : decode cX5_arrive 54 = .ok (.putfield 68, 3) := by decide +kernel
theorem dX5_arrive_57 : decode cX5_arrive 57 = .ok (.aload_n 0, 1) := by decide +kernel
theorem dX5_arrive_58 : decode cX5_arrive 58 = .ok (.getfield 12, 3) := by decide +kernel
theorem dX5_arrive_61 : decode cX5_arrive 61 = .ok (.aload_n 0, 1) := by decide +kernel
theorem dX5_arrive_62 : decode cX5_arrive 62 = .ok (.getfield 32, 3) := by decide +kernel
theorem dX5_arrive_65 : decode cX5_arrive 65 = .ok (.aload_n 0, 1) := by decide +kernel
theorem dX5_arrive_66 : decode cX5_arrive 66 = .ok (.getfield 28, 3) := by decide +kernel
theorem dX5_arrive_69 : decode cX5_arrive 69 = .ok (.getfield 126, 3) := by decide +kernel
theorem dX5_arrive_72 : decode cX5_arrive 72 = .ok (.invokevirtual 129, 3) := by decide +kernel
theorem dX5_arrive_75 : decode cX5_arrive 75 = .ok (.ifCond .eq 35, 3) := by decide +kernel
theorem dX5_arrive_78 : decode cX5_arrive 78 = .ok (.aload_n 0, 1) := by decide +kernel
theorem dX5_arrive_79 : decode cX5_arrive 79 = .ok (.aload_n 0, 1) := by decide +kernel
theorem dX5_arrive_80 : decode cX5_arrive 80 = .ok (.getfield 77, 3) := by decide +kernel
theorem dX5_arrive_83 : decode cX5_arrive 83 = .ok (.ifCond .ne 10, 3) := by decide +kernel
theorem dX5_arrive_86 : decode cX5_arrive 86 = .ok (.aload_n 0, 1) := by decide +kernel
theorem dX5_arrive_87 : decode cX5_arrive 87 = .ok (.getfield 65, 3) := by decide +kernel
theorem dX5_arrive_90 : decode cX5_arrive 90 = .ok (.goto 7, 3) := by decide +kernel
theorem dX5_arrive_93 : decode cX5_arrive 93 = .ok (.aload_n 0, 1) := by decide +kernel
theorem dX5_arrive_94 : decode cX5_arrive 94 = .ok (.getfield 80, 3) := by decide +kernel
theorem dX5_arrive_97 : decode cX5_arrive 97 = .ok (.putfield 80, 3) := by decide +kernel
theorem dX5_arrive_100 : decode cX5_arrive 100 = .ok (.aload_n 0, 1) := by decide +kernel
theorem dX5_arrive_101 : decode cX5_arrive 101 = .ok (.dup, 1) := by decide +kernel
theorem dX5_arrive_102 : decode cX5_arrive 102 = .ok (.getfield 77, 3) := by decide +kernel
theorem dX5_arrive_105 : decode cX5_arrive 105 = .ok (.iconst 1, 1) := by decide +kernel
theorem dX5_arrive_106 : decode cX5_arrive 106 = .ok (.iadd, 1) := by decide +kernel
theorem dX5_arrive_107 : decode cX5_arrive 107 = .ok (.putfield 77, 3) := by decide +kernel
theorem dX5_arrive_110 : decode cX5_arrive 110 = .ok (.aload_n 0, 1) := by decide +kernel
theorem dX5_arrive_111 : decode cX5_arrive 111 = .ok (.dup, 1) := by decide +kernel
theorem dX5_arrive_112 : decode cX5_arrive 112 = .ok (.getfield 65, 3) := by decide +kernel
theorem dX5_arrive_115 : decode cX5_arrive 115 = .ok (.iconst 1, 1) := by decide +kernel
theorem dX5_arrive_116 : decode cX5_arrive 116 = .ok (.iadd, 1) := by decide +kernel
theorem dX5_arrive_117 : decode cX5_arrive 117 = .ok (.putfield 65, 3) := by decide +kernel
theorem dX5_arrive_120 : decode cX5_arrive 120 = .ok (.return_, 1) := by decide +kernel
theorem dX5_put_0 : decode cX5_put 0 = .ok (.aload_n 0, 1) := by decide +kernel
theorem dX5_put_1 : decode cX5_put 1 = .ok (.getfield 28, 3) := by decide +kernel
theorem dX5_put_4 : decode cX5_put 4 = .ok (.iload_n 1, 1) := by decide +kernel
theorem dX5_put_5 : decode cX5_put 5 = .ok (.iload_n 2, 1) := by decide +kernel
theorem dX5_put_6 : decode cX5_put 6 = .ok (.invokevirtual 133, 3) := by decide +kernel
theorem dX5_put_9 : decode cX5_put 9 = .ok (.ifCond .eq 12, 3) := by decide +kernel
theorem dX5_put_12 : decode cX5_put 12 = .ok (.iload_n 2, 1) := by decide +kernel
theorem dX5_put_13 : decode cX5_put 13 = .ok (.ifCond .lt 8, 3) := by decide +kernel
theorem dX5_put_16 : decode cX5_put 16 = .ok (.iload_n 2, 1) := by decide +kernel
theorem dX5_put_17 : decode cX5_put 17 = .ok (.iconst 3, 1) := by decide +kernel
theorem dX5_put_18 : decode cX5_put 18 = .ok (.if_icmp .lt 5, 3) := by decide +kernel
theorem dX5_put_21 : decode cX5_put 21 = .ok (.iconst 0, 1) := by decide +kernel
theorem dX5_put_22 : decode cX5_put 22 = .ok (.ireturn, 1) := by decide +kernel
theorem dX5_put_23 : decode cX5_put 23 = .ok (.aload_n 0, 1) := by decide +kernel
theorem dX5_put_24 : decode cX5_put 24 = .ok (.getfield 32, 3) := by decide +kernel
theorem dX5_put_27 : decode cX5_put 27 = .ok (.iload_n 2, 1) := by decide +kernel
theorem dX5_put_28 : decode cX5_put 28 = .ok (.iaload, 1) := by decide +kernel
theorem dX5_put_29 : decode cX5_put 29 = .ok (.iconst 1, 1) := by decide +kernel
theorem dX5_put_30 : decode cX5_put 30 = .ok (.iload_n 1, 1) := by decide +kernel
theorem dX5_put_31 : decode cX5_put 31 = .ok (.ishl, 1) := by decide +kernel
theorem dX5_put_32 : decode cX5_put 32 = .ok (.ior, 1) := by decide +kernel
theorem dX5_put_33 : decode cX5_put 33 = .ok (.istore_n 3, 1) := by decide +kernel
theorem dX5_put_34 : decode cX5_put 34 = .ok (.aload_n 0, 1) := by decide +kernel
theorem dX5_put_35 : decode cX5_put 35 = .ok (.getfield 21, 3) := by decide +kernel
theorem dX5_put_38 : decode cX5_put 38 = .ok (.iload_n 3, 1) := by decide +kernel
theorem dX5_put_39 : decode cX5_put 39 = .ok (.invokevirtual 136, 3) := by decide +kernel
theorem dX5_put_42 : decode cX5_put 42 = .ok (.ifCond .eq 5, 3) := by decide +kernel
theorem dX5_put_45 : decode cX5_put 45 = .ok (.iconst 0, 1) := by decide +kernel
theorem dX5_put_46 : decode cX5_put 46 = .ok (.ireturn, 1) := by decide +kernel
theorem dX5_put_47 : decode cX5_put 47 = .ok (.aload_n 0, 1) := by decide +kernel
theorem dX5_put_48 : decode cX5_put 48 = .ok (.getfield 32, 3) := by decide +kernel
theorem dX5_put_51 : decode cX5_put 51 = .ok (.iload_n 2, 1) := by decide +kernel
theorem dX5_put_52 : decode cX5_put 52 = .ok (.iload_n 3, 1) := by decide +kernel
theorem dX5_put_53 : decode cX5_put 53 = .ok (.iastore, 1) := by decide +kernel
theorem dX5_put_54 : decode cX5_put 54 = .ok (.iconst 1, 1) := by decide +kernel
theorem dX5_put_55 : decode cX5_put 55 = .ok (.ireturn, 1) := by decide +kernel
theorem dX5_with_0 : decode cX5_with 0 = .ok (.iload_n 2, 1) := by decide +kernel
theorem dX5_with_1 : decode cX5_with 1 = .ok (.ifCond .lt 21, 3) := by decide +kernel
theorem dX5_with_4 : decode cX5_with 4 = .ok (.iload_n 2, 1) := by decide +kernel
theorem dX5_with_5 : decode cX5_with 5 = .ok (.iconst 3, 1) := by decide +kernel
theorem dX5_with_6 : decode cX5_with 6 = .ok (.if_icmp .ge 16, 3) := by decide +kernel
theorem dX5_with_9 : decode cX5_with 9 = .ok (.aload_n 0, 1) := by decide +kernel
theorem dX5_with_10 : decode cX5_with 10 = .ok (.getfield 32, 3) := by decide +kernel
theorem dX5_with_13 : decode cX5_with 13 = .ok (.iload_n 2, 1) := by decide +kernel
theorem dX5_with_14 : decode cX5_with 14 = .ok (.iaload, 1) := by decide +kernel
theorem dX5_with_15 : decode cX5_with 15 = .ok (.iconst 1, 1) := by decide +kernel
theorem dX5_with_16 : decode cX5_with 16 = .ok (.iload_n 1, 1) := by decide +kernel
theorem dX5_with_17 : decode cX5_with 17 = .ok (.ishl, 1) := by decide +kernel
theorem dX5_with_18 : decode cX5_with 18 = .ok (.ior, 1) := by decide +kernel
theorem dX5_with_19 : decode cX5_with 19 = .ok (.goto 4, 3) := by decide +kernel
theorem dX5_with_22 : decode cX5_with 22 = .ok (.iconst 0, 1) := by decide +kernel
theorem dX5_with_23 : decode cX5_with 23 = .ok (.ireturn, 1) := by decide +kernel
theorem dX5_lay_0 : decode cX5_lay 0 = .ok (.iload_n 2, 1) := by decide +kernel
theorem dX5_lay_1 : decode cX5_lay 1 = .ok (.ifCond .lt 20, 3) := by decide +kernel
theorem dX5_lay_4 : decode cX5_lay 4 = .ok (.iload_n 2, 1) := by decide +kernel
theorem dX5_lay_5 : decode cX5_lay 5 = .ok (.iconst 3, 1) := by decide +kernel
theorem dX5_lay_6 : decode cX5_lay 6 = .ok (.if_icmp .ge 15, 3) := by decide +kernel
theorem dX5_lay_9 : decode cX5_lay 9 = .ok (.aload_n 0, 1) := by decide +kernel
theorem dX5_lay_10 : decode cX5_lay 10 = .ok (.getfield 32, 3) := by decide +kernel
theorem dX5_lay_13 : decode cX5_lay 13 = .ok (.iload_n 2, 1) := by decide +kernel
theorem dX5_lay_14 : decode cX5_lay 14 = .ok (.dup2, 1) := by decide +kernel
theorem dX5_lay_15 : decode cX5_lay 15 = .ok (.iaload, 1) := by decide +kernel
theorem dX5_lay_16 : decode cX5_lay 16 = .ok (.iconst 1, 1) := by decide +kernel
theorem dX5_lay_17 : decode cX5_lay 17 = .ok (.iload_n 1, 1) := by decide +kernel
theorem dX5_lay_18 : decode cX5_lay 18 = .ok (.ishl, 1) := by decide +kernel
theorem dX5_lay_19 : decode cX5_lay 19 = .ok (.ior, 1) := by decide +kernel
theorem dX5_lay_20 : decode cX5_lay 20 = .ok (.iastore, 1) := by decide +kernel
theorem dX5_lay_21 : decode cX5_lay 21 = .ok (.return_, 1) := by decide +kernel
theorem dX5_lift_0 : decode cX5_lift 0 = .ok (.iload_n 2, 1) := by decide +kernel
theorem dX5_lift_1 : decode cX5_lift 1 = .ok (.ifCond .lt 22, 3) := by decide +kernel
theorem dX5_lift_4 : decode cX5_lift 4 = .ok (.iload_n 2, 1) := by decide +kernel
theorem dX5_lift_5 : decode cX5_lift 5 = .ok (.iconst 3, 1) := by decide +kernel
theorem dX5_lift_6 : decode cX5_lift 6 = .ok (.if_icmp .ge 17, 3) := by decide +kernel
theorem dX5_lift_9 : decode cX5_lift 9 = .ok (.aload_n 0, 1) := by decide +kernel
theorem dX5_lift_10 : decode cX5_lift 10 = .ok (.getfield 32, 3) := by decide +kernel
theorem dX5_lift_13 : decode cX5_lift 13 = .ok (.iload_n 2, 1) := by decide +kernel
theorem dX5_lift_14 : decode cX5_lift 14 = .ok (.dup2, 1) := by decide +kernel
theorem dX5_lift_15 : decode cX5_lift 15 = .ok (.iaload, 1) := by decide +kernel
theorem dX5_lift_16 : decode cX5_lift 16 = .ok (.iconst 1, 1) := by decide +kernel
theorem dX5_lift_17 : decode cX5_lift 17 = .ok (.iload_n 1, 1) := by decide +kernel
theorem dX5_lift_18 : decode cX5_lift 18 = .ok (.ishl, 1) := by decide +kernel
theorem dX5_lift_19 : decode cX5_lift 19 = .ok (.iconst (-1), 1) := by decide +kernel
theorem dX5_lift_20 : decode cX5_lift 20 = .ok (.ixor, 1) := by decide +kernel
theorem dX5_lift_21 : decode cX5_lift 21 = .ok (.iand, 1) := by decide +kernel
theorem dX5_lift_22 : decode cX5_lift 22 = .ok (.iastore, 1) := by decide +kernel
theorem dX5_lift_23 : decode cX5_lift 23 = .ok (.return_, 1) := by decide +kernel
theorem dX5_allow_0 : decode cX5_allow 0 = .ok (.iload_n 3, 1) := by decide +kernel
theorem dX5_allow_1 : decode cX5_allow 1 = .ok (.ifCond .eq 26, 3) := by decide +kernel
theorem dX5_allow_4 : decode cX5_allow 4 = .ok (.iload_n 1, 1) := by decide +kernel
theorem dX5_allow_5 : decode cX5_allow 5 = .ok (.iconst 1, 1) := by decide +kernel
theorem dX5_allow_6 : decode cX5_allow 6 = .ok (.if_icmp .lt 21, 3) := by decide +kernel
theorem dX5_allow_9 : decode cX5_allow 9 = .ok (.iload_n 1, 1) := by decide +kernel
theorem dX5_allow_10 : decode cX5_allow 10 = .ok (.bipush 10, 2) := by decide +kernel
theorem dX5_allow_12 : decode cX5_allow 12 = .ok (.if_icmp .gt 15, 3) := by decide +kernel
theorem dX5_allow_15 : decode cX5_allow 15 = .ok (.aload_n 0, 1) := by decide +kernel
theorem dX5_allow_16 : decode cX5_allow 16 = .ok (.getfield 39, 3) := by decide +kernel
theorem dX5_allow_19 : decode cX5_allow 19 = .ok (.iload_n 1, 1) := by decide +kernel
theorem dX5_allow_20 : decode cX5_allow 20 = .ok (.dup2, 1) := by decide +kernel
theorem dX5_allow_21 : decode cX5_allow 21 = .ok (.iaload, 1) := by decide +kernel
theorem dX5_allow_22 : decode cX5_allow 22 = .ok (.iconst 1, 1) := by decide +kernel
theorem dX5_allow_23 : decode cX5_allow 23 = .ok (.iload_n 2, 1) := by decide +kernel
theorem dX5_allow_24 : decode cX5_allow 24 = .ok (.ishl, 1) := by decide +kernel
theorem dX5_allow_25 : decode cX5_allow 25 = .ok (.ior, 1) := by decide +kernel
theorem dX5_allow_26 : decode cX5_allow 26 = .ok (.iastore, 1) := by decide +kernel
theorem dX5_allow_27 : decode cX5_allow 27 = .ok (.return_, 1) := by decide +kernel
theorem dX5_possibleOf_0 : decode cX5_possibleOf 0 = .ok (.iload_n 1, 1) := by decide +kernel
theorem dX5_possibleOf_1 : decode cX5_possibleOf 1 = .ok (.iconst 1, 1) := by decide +kernel
theorem dX5_possibleOf_2 : decode cX5_possibleOf 2 = .ok (.if_icmp .lt 18, 3) := by decide +kernel
theorem dX5_possibleOf_5 : decode cX5_possibleOf 5 = .ok (.iload_n 1, 1) := by decide +kernel
theorem dX5_possibleOf_6 : decode cX5_possibleOf 6 = .ok (.bipush 10, 2) := by decide +kernel
theorem dX5_possibleOf_8 : decode cX5_possibleOf 8 = .ok (.if_icmp .gt 12, 3) := by decide +kernel
theorem dX5_possibleOf_11 : decode cX5_possibleOf 11 = .ok (.aload_n 0, 1) := by decide +kernel
theorem dX5_possibleOf_12 : decode cX5_possibleOf 12 = .ok (.getfield 39, 3) := by decide +kernel
theorem dX5_possibleOf_15 : decode cX5_possibleOf 15 = .ok (.iload_n 1, 1) := by decide +kernel
theorem dX5_possibleOf_16 : decode cX5_possibleOf 16 = .ok (.iaload, 1) := by decide +kernel
theorem dX5_possibleOf_17 : decode cX5_possibleOf 17 = .ok (.goto 4, 3) := by decide +kernel
theorem dX5_possibleOf_20 : decode cX5_possibleOf 20 = .ok (.iconst 0, 1) := by decide +kernel
theorem dX5_possibleOf_21 : decode cX5_possibleOf 21 = .ok (.ireturn, 1) := by decide +kernel
theorem dX5_forces_0 : decode cX5_forces 0 = .ok (.aload_n 0, 1) := by decide +kernel
theorem dX5_forces_1 : decode cX5_forces 1 = .ok (.iload_n 1, 1) := by decide +kernel
theorem dX5_forces_2 : decode cX5_forces 2 = .ok (.invokevirtual 140, 3) := by decide +kernel
theorem dX5_forces_5 : decode cX5_forces 5 = .ok (.invokestatic 143, 3) := by decide +kernel
theorem dX5_forces_8 : decode cX5_forces 8 = .ok (.iconst 1, 1) := by decide +kernel
theorem dX5_forces_9 : decode cX5_forces 9 = .ok (.if_icmp .ne 7, 3) := by decide +kernel
theorem dX5_forces_12 : decode cX5_forces 12 = .ok (.iconst 1, 1) := by decide +kernel
theorem dX5_forces_13 : decode cX5_forces 13 = .ok (.goto 4, 3) := by decide +kernel
theorem dX5_forces_16 : decode cX5_forces 16 = .ok (.iconst 0, 1) := by decide +kernel
theorem dX5_forces_17 : decode cX5_forces 17 = .ok (.ireturn, 1) := by decide +kernel
theorem dX5_countKinds_0 : decode cX5_countKinds 0 = .ok (.aload_n 0, 1) := by decide +kernel
theorem dX5_countKinds_1 : decode cX5_countKinds 1 = .ok (.aload_n 1, 1) := by decide +kernel
theorem dX5_countKinds_2 : decode cX5_countKinds 2 = .ok (.invokevirtual 58, 3) := by decide +kernel
theorem dX5_countKinds_5 : decode cX5_countKinds 5 = .ok (.aload_n 0, 1) := by decide +kernel
theorem dX5_countKinds_6 : decode cX5_countKinds 6 = .ok (.iconst 0, 1) := by decide +kernel
theorem dX5_countKinds_7 : decode cX5_countKinds 7 = .ok (.putfield 148, 3) := by decide +kernel
theorem dX5_countKinds_10 : decode cX5_countKinds 10 = .ok (.aload_n 0, 1) := by decide +kernel
theorem dX5_countKinds_11 : decode cX5_countKinds 11 = .ok (.iconst 1, 1) := by decide +kernel
theorem dX5_countKinds_12 : decode cX5_countKinds 12 = .ok (.iconst 0, 1) := by decide +kernel
theorem dX5_countKinds_13 : decode cX5_countKinds 13 = .ok (.bipush 63, 2) := by decide +kernel
theorem dX5_countKinds_15 : decode cX5_countKinds 15 = .ok (.invokestatic 151, 3) := by decide +kernel
theorem dX5_countKinds_18 : decode cX5_countKinds 18 = .ok (.aload_n 0, 1) := by decide +kernel
theorem dX5_countKinds_19 : decode cX5_countKinds 19 = .ok (.getfield 148, 3) := by decide +kernel
theorem dX5_countKinds_22 : decode cX5_countKinds 22 = .ok (.ireturn, 1) := by decide +kernel
theorem dX5_group_0 : decode cX5_group 0 = .ok (.iload_n 3, 1) := by decide +kernel
theorem dX5_group_1 : decode cX5_group 1 = .ok (.ifCond .ne 4, 3) := by decide +kernel
theorem dX5_group_4 : decode cX5_group 4 = .ok (.return_, 1) := by decide +kernel
theorem dX5_group_5 : decode cX5_group 5 = .ok (.aload_n 0, 1) := by decide +kernel
theorem dX5_group_6 : decode cX5_group 6 = .ok (.getfield 28, 3) := by decide +kernel
theorem dX5_group_9 : decode cX5_group 9 = .ok (.iload_n 1, 1) := by decide +kernel
theorem dX5_group_10 : decode cX5_group 10 = .ok (.invokevirtual 93, 3) := by decide +kernel
theorem dX5_group_13 : decode cX5_group 13 = .ok (.ifCond .ne 14, 3) := by decide +kernel
theorem dX5_group_16 : decode cX5_group 16 = .ok (.aload_n 0, 1) := by decide +kernel
theorem dX5_group_17 : decode cX5_group 17 = .ok (.dup, 1) := by decide +kernel
theorem dX5_group_18 : decode cX5_group 18 = .ok (.getfield 148, 3) := by decide +kernel
theorem dX5_group_21 : decode cX5_group 21 = .ok (.iconst 1, 1) := by decide +kernel
theorem dX5_group_22 : decode cX5_group 22 = .ok (.iadd, 1) := by decide +kernel
theorem dX5_group_23 : decode cX5_group 23 = .ok (.putfield 148, 3) := by decide +kernel
theorem dX5_group_26 : decode cX5_group 26 = .ok (.return_, 1) := by decide +kernel
theorem dX5_group_27 : decode cX5_group 27 = .ok (.iconst 0, 1) := by decide +kernel
theorem dX5_group_28 : decode cX5_group 28 = .ok (.istore 4, 2) := by decide +kernel
theorem dX5_group_30 : decode cX5_group 30 = .ok (.iload 4, 2) := by decide +kernel
theorem dX5_group_32 : decode cX5_group 32 = .ok (.iload_n 2, 1) := by decide +kernel
theorem dX5_group_33 : decode cX5_group 33 = .ok (.if_icmp .gt 80, 3) := by decide +kernel
theorem dX5_group_36 : decode cX5_group 36 = .ok (.iload 4, 2) := by decide +kernel
theorem dX5_group_38 : decode cX5_group 38 = .ok (.aload_n 0, 1) := by decide +kernel
theorem dX5_group_39 : decode cX5_group 39 = .ok (.getfield 28, 3) := by decide +kernel
theorem dX5_group_42 : decode cX5_group 42 = .ok (.getfield 155, 3) := by decide +kernel
theorem dX5_group_45 : decode cX5_group 45 = .ok (.if_icmp .ge 68, 3) := by decide +kernel
theorem dX5_group_48 : decode cX5_group 48 = .ok (.aload_n 0, 1) := by decide +kernel
theorem dX5_group_49 : decode cX5_group 49 = .ok (.getfield 21, 3) := by decide +kernel
theorem dX5_group_52 : decode cX5_group 52 = .ok (.aload_n 0, 1) := by decide +kernel
theorem dX5_group_53 : decode cX5_group 53 = .ok (.iload_n 1, 1) := by decide +kernel
theorem dX5_group_54 : decode cX5_group 54 = .ok (.iload 4, 2) := by decide +kernel
theorem dX5_group_56 : decode cX5_group 56 = .ok (.invokevirtual 158, 3) := by decide +kernel
theorem dX5_group_59 : decode cX5_group 59 = .ok (.invokevirtual 136, 3) := by decide +kernel
theorem dX5_group_62 : decode cX5_group 62 = .ok (.ifCond .ne 45, 3) := by decide +kernel
theorem dX5_group_65 : decode cX5_group 65 = .ok (.iload_n 3, 1) := by decide +kernel
theorem dX5_group_66 : decode cX5_group 66 = .ok (.aload_n 0, 1) := by decide +kernel
theorem dX5_group_67 : decode cX5_group 67 = .ok (.iload_n 1, 1) := by decide +kernel
theorem dX5_group_68 : decode cX5_group 68 = .ok (.iload 4, 2) := by decide +kernel
theorem dX5_group_70 : decode cX5_group 70 = .ok (.invokevirtual 161, 3) := by decide +kernel
theorem dX5_group_73 : decode cX5_group 73 = .ok (.iand, 1) := by decide +kernel
theorem dX5_group_74 : decode cX5_group 74 = .ok (.istore 5, 2) := by decide +kernel
theorem dX5_group_76 : decode cX5_group 76 = .ok (.aload_n 0, 1) := by decide +kernel
theorem dX5_group_77 : decode cX5_group 77 = .ok (.iload_n 1, 1) := by decide +kernel
theorem dX5_group_78 : decode cX5_group 78 = .ok (.iload 4, 2) := by decide +kernel
theorem dX5_group_80 : decode cX5_group 80 = .ok (.invokevirtual 164, 3) := by decide +kernel
theorem dX5_group_83 : decode cX5_group 83 = .ok (.aload_n 0, 1) := by decide +kernel
theorem dX5_group_84 : decode cX5_group 84 = .ok (.iload_n 1, 1) := by decide +kernel
theorem dX5_group_85 : decode cX5_group 85 = .ok (.iconst 1, 1) := by decide +kernel
theorem dX5_group_86 : decode cX5_group 86 = .ok (.iadd, 1) := by decide +kernel
theorem dX5_group_87 : decode cX5_group 87 = .ok (.iload_n 2, 1) := by decide +kernel
theorem dX5_group_88 : decode cX5_group 88 = .ok (.iload 4, 2) := by decide +kernel
theorem dX5_group_90 : decode cX5_group 90 = .ok (.iconst 1, 1) := by decide +kernel
theorem dX5_group_91 : decode cX5_group 91 = .ok (.iadd, 1) := by decide +kernel
theorem dX5_group_92 : decode cX5_group 92 = .ok (.invokestatic 87, 3) := by decide +kernel
theorem dX5_group_95 : decode cX5_group 95 = .ok (.iload 5, 2) := by decide +kernel
theorem dX5_group_97 : decode cX5_group 97 = .ok (.invokestatic 151, 3) := by decide +kernel
theorem dX5_group_100 : decode cX5_group 100 = .ok (.aload_n 0, 1) := by decide +kernel
theorem dX5_group_101 : decode cX5_group 101 = .ok (.iload_n 1, 1) := by decide +kernel
theorem dX5_group_102 : decode cX5_group 102 = .ok (.iload 4, 2) := by decide +kernel
theorem dX5_group_104 : decode cX5_group 104 = .ok (.invokevirtual 104, 3) := by decide +kernel
theorem dX5_group_107 : decode cX5_group 107 = .ok (.iinc 4 1, 3) := by decide +kernel
theorem dX5_group_110 : decode cX5_group 110 = .ok (.goto (-80), 3) := by decide +kernel
theorem dX5_group_113 : decode cX5_group 113 = .ok (.return_, 1) := by decide +kernel
theorem dX5_namingsWith_0 : decode cX5_namingsWith 0 = .ok (.aload_n 0, 1) := by decide +kernel
theorem dX5_namingsWith_1 : decode cX5_namingsWith 1 = .ok (.getfield 28, 3) := by decide +kernel
theorem dX5_namingsWith_4 : decode cX5_namingsWith 4 = .ok (.iload_n 1, 1) := by decide +kernel
theorem dX5_namingsWith_5 : decode cX5_namingsWith 5 = .ok (.invokevirtual 167, 3) := by decide +kernel
theorem dX5_namingsWith_8 : decode cX5_namingsWith 8 = .ok (.istore_n 3, 1) := by decide +kernel
theorem dX5_namingsWith_9 : decode cX5_namingsWith 9 = .ok (.iload_n 3, 1) := by decide +kernel
theorem dX5_namingsWith_10 : decode cX5_namingsWith 10 = .ok (.iconst (-1), 1) := by decide +kernel
theorem dX5_namingsWith_11 : decode cX5_namingsWith 11 = .ok (.if_icmp .eq 12, 3) := by decide +kernel
theorem dX5_namingsWith_14 : decode cX5_namingsWith 14 = .ok (.iload_n 2, 1) := by decide +kernel
theorem dX5_namingsWith_15 : decode cX5_namingsWith 15 = .ok (.ifCond .lt 8, 3) := by decide +kernel
theorem dX5_namingsWith_18 : decode cX5_namingsWith 18 = .ok (.iload_n 2, 1) := by decide +kernel
theorem dX5_namingsWith_19 : decode cX5_namingsWith 19 = .ok (.iconst 3, 1) := by decide +kernel
theorem dX5_namingsWith_20 : decode cX5_namingsWith 20 = .ok (.if_icmp .lt 6, 3) := by decide +kernel
theorem dX5_namingsWith_23 : decode cX5_namingsWith 23 = .ok (.bipush 63, 2) := by decide +kernel
theorem dX5_namingsWith_25 : decode cX5_namingsWith 25 = .ok (.ireturn, 1) := by decide +kernel
theorem dX5_namingsWith_26 : decode cX5_namingsWith 26 = .ok (.iconst 0, 1) := by decide +kernel
theorem dX5_namingsWith_27 : decode cX5_namingsWith 27 = .ok (.istore 4, 2) := by decide +kernel
theorem dX5_namingsWith_29 : decode cX5_namingsWith 29 = .ok (.iconst 0, 1) := by decide +kernel
theorem dX5_namingsWith_30 : decode cX5_namingsWith 30 = .ok (.istore 5, 2) := by decide +kernel
theorem dX5_namingsWith_32 : decode cX5_namingsWith 32 = .ok (.iload 5, 2) := by decide +kernel
theorem dX5_namingsWith_34 : decode cX5_namingsWith 34 = .ok (.bipush 6, 2) := by decide +kernel
theorem dX5_namingsWith_36 : decode cX5_namingsWith 36 = .ok (.if_icmp .ge 32, 3) := by decide +kernel
theorem dX5_namingsWith_39 : decode cX5_namingsWith 39 = .ok (.getstatic 170, 3) := by decide +kernel
theorem dX5_namingsWith_42 : decode cX5_namingsWith 42 = .ok (.iconst 3, 1) := by decide +kernel
theorem dX5_namingsWith_43 : decode cX5_namingsWith 43 = .ok (.iload 5, 2) := by decide +kernel
theorem dX5_namingsWith_45 : decode cX5_namingsWith 45 = .ok (.imul, 1) := by decide +kernel
theorem dX5_namingsWith_46 : decode cX5_namingsWith 46 = .ok (.iload_n 2, 1) := by decide +kernel
theorem dX5_namingsWith_47 : decode cX5_namingsWith 47 = .ok (.iadd, 1) := by decide +kernel
theorem dX5_namingsWith_48 : decode cX5_namingsWith 48 = .ok (.iaload, 1) := by decide +kernel
theorem dX5_namingsWith_49 : decode cX5_namingsWith 49 = .ok (.iload_n 3, 1) := by decide +kernel
theorem dX5_namingsWith_50 : decode cX5_namingsWith 50 = .ok (.if_icmp .ne 12, 3) := by decide +kernel
theorem dX5_namingsWith_53 : decode cX5_namingsWith 53 = .ok (.iload 4, 2) := by decide +kernel
theorem dX5_namingsWith_55 : decode cX5_namingsWith 55 = .ok (.iconst 1, 1) := by decide +kernel
theorem dX5_namingsWith_56 : decode cX5_namingsWith 56 = .ok (.iload 5, 2) := by decide +kernel
theorem dX5_namingsWith_58 : decode cX5_namingsWith 58 = .ok (.ishl, 1) := by decide +kernel
theorem dX5_namingsWith_59 : decode cX5_namingsWith 59 = .ok (.ior, 1) := by decide +kernel
theorem dX5_namingsWith_60 : decode cX5_namingsWith 60 = .ok (.istore 4, 2) := by decide +kernel
theorem dX5_namingsWith_62 : decode cX5_namingsWith 62 = .ok (.iinc 5 1, 3) := by decide +kernel
theorem dX5_namingsWith_65 : decode cX5_namingsWith 65 = .ok (.goto (-33), 3) := by decide +kernel
theorem dX5_namingsWith_68 : decode cX5_namingsWith 68 = .ok (.iload 4, 2) := by decide +kernel
theorem dX5_namingsWith_70 : decode cX5_namingsWith 70 = .ok (.ireturn, 1) := by decide +kernel
theorem dX5_tally_0 : decode cX5_tally 0 = .ok (.aload_n 0, 1) := by decide +kernel
theorem dX5_tally_1 : decode cX5_tally 1 = .ok (.aload_n 1, 1) := by decide +kernel
theorem dX5_tally_2 : decode cX5_tally 2 = .ok (.invokevirtual 58, 3) := by decide +kernel
theorem dX5_tally_5 : decode cX5_tally 5 = .ok (.aload_n 0, 1) := by decide +kernel
theorem dX5_tally_6 : decode cX5_tally 6 = .ok (.getfield 42, 3) := by decide +kernel
theorem dX5_tally_9 : decode cX5_tally 9 = .ok (.iconst 0, 1) := by decide +kernel
theorem dX5_tally_10 : decode cX5_tally 10 = .ok (.invokestatic 52, 3) := by decide +kernel
theorem dX5_tally_13 : decode cX5_tally 13 = .ok (.aload_n 0, 1) := by decide +kernel
theorem dX5_tally_14 : decode cX5_tally 14 = .ok (.iconst 1, 1) := by decide +kernel
theorem dX5_tally_15 : decode cX5_tally 15 = .ok (.invokestatic 173, 3) := by decide +kernel
theorem dX5_tally_18 : decode cX5_tally 18 = .ok (.return_, 1) := by decide +kernel
theorem dX5_spread_0 : decode cX5_spread 0 = .ok (.aload_n 0, 1) := by decide +kernel
theorem dX5_spread_1 : decode cX5_spread 1 = .ok (.getfield 28, 3) := by decide +kernel
theorem dX5_spread_4 : decode cX5_spread 4 = .ok (.iload_n 1, 1) := by decide +kernel
theorem dX5_spread_5 : decode cX5_spread 5 = .ok (.invokevirtual 93, 3) := by decide +kernel
theorem dX5_spread_8 : decode cX5_spread 8 = .ok (.ifCond .ne 8, 3) := by decide +kernel
theorem dX5_spread_11 : decode cX5_spread 11 = .ok (.aload_n 0, 1) := by decide +kernel
theorem dX5_spread_12 : decode cX5_spread 12 = .ok (.invokevirtual 176, 3) := by decide +kernel
theorem dX5_spread_15 : decode cX5_spread 15 = .ok (.return_, 1) := by decide +kernel
theorem dX5_spread_16 : decode cX5_spread 16 = .ok (.iconst 0, 1) := by decide +kernel
theorem dX5_spread_17 : decode cX5_spread 17 = .ok (.istore_n 2, 1) := by decide +kernel
theorem dX5_spread_18 : decode cX5_spread 18 = .ok (.iload_n 2, 1) := by decide +kernel
theorem dX5_spread_19 : decode cX5_spread 19 = .ok (.iconst 3, 1) := by decide +kernel
theorem dX5_spread_20 : decode cX5_spread 20 = .ok (.if_icmp .ge 40, 3) := by decide +kernel
theorem dX5_spread_23 : decode cX5_spread 23 = .ok (.aload_n 0, 1) := by decide +kernel
theorem dX5_spread_24 : decode cX5_spread 24 = .ok (.getfield 28, 3) := by decide +kernel
theorem dX5_spread_27 : decode cX5_spread 27 = .ok (.iload_n 1, 1) := by decide +kernel
theorem dX5_spread_28 : decode cX5_spread 28 = .ok (.iload_n 2, 1) := by decide +kernel
theorem dX5_spread_29 : decode cX5_spread 29 = .ok (.invokevirtual 133, 3) := by decide +kernel
theorem dX5_spread_32 : decode cX5_spread 32 = .ok (.ifCond .eq 22, 3) := by decide +kernel
theorem dX5_spread_35 : decode cX5_spread 35 = .ok (.aload_n 0, 1) := by decide +kernel
theorem dX5_spread_36 : decode cX5_spread 36 = .ok (.iload_n 1, 1) := by decide +kernel
theorem dX5_spread_37 : decode cX5_spread 37 = .ok (.iload_n 2, 1) := by decide +kernel
theorem dX5_spread_38 : decode cX5_spread 38 = .ok (.invokevirtual 164, 3) := by decide +kernel
theorem dX5_spread_41 : decode cX5_spread 41 = .ok (.aload_n 0, 1) := by decide +kernel
theorem dX5_spread_42 : decode cX5_spread 42 = .ok (.iload_n 1, 1) := by decide +kernel
theorem dX5_spread_43 : decode cX5_spread 43 = .ok (.iconst 1, 1) := by decide +kernel
theorem dX5_spread_44 : decode cX5_spread 44 = .ok (.iadd, 1) := by decide +kernel
