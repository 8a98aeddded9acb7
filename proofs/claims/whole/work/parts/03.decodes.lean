theorem dX0_init_0 : decode cX0_init 0 = .ok (.aload_n 0, 1) := by decide +kernel
theorem dX0_init_1 : decode cX0_init 1 = .ok (.invokespecial 3, 3) := by decide +kernel
theorem dX0_init_4 : decode cX0_init 4 = .ok (.aload_n 0, 1) := by decide +kernel
theorem dX0_init_5 : decode cX0_init 5 = .ok (.bipush 6, 2) := by decide +kernel
theorem dX0_init_7 : decode cX0_init 7 = .ok (.newarray .int, 2) := by decide +kernel
theorem dX0_init_9 : decode cX0_init 9 = .ok (.putfield 11, 3) := by decide +kernel
theorem dX0_init_12 : decode cX0_init 12 = .ok (.aload_n 0, 1) := by decide +kernel
theorem dX0_init_13 : decode cX0_init 13 = .ok (.bipush 6, 2) := by decide +kernel
theorem dX0_init_15 : decode cX0_init 15 = .ok (.newarray .int, 2) := by decide +kernel
theorem dX0_init_17 : decode cX0_init 17 = .ok (.putfield 15, 3) := by decide +kernel
theorem dX0_init_20 : decode cX0_init 20 = .ok (.aload_n 0, 1) := by decide +kernel
theorem dX0_init_21 : decode cX0_init 21 = .ok (.bipush 11, 2) := by decide +kernel
theorem dX0_init_23 : decode cX0_init 23 = .ok (.newarray .int, 2) := by decide +kernel
theorem dX0_init_25 : decode cX0_init 25 = .ok (.putfield 20, 3) := by decide +kernel
theorem dX0_init_28 : decode cX0_init 28 = .ok (.aload_n 0, 1) := by decide +kernel
theorem dX0_init_29 : decode cX0_init 29 = .ok (.iconst 0, 1) := by decide +kernel
theorem dX0_init_30 : decode cX0_init 30 = .ok (.putfield 23, 3) := by decide +kernel
theorem dX0_init_33 : decode cX0_init 33 = .ok (.return_, 1) := by decide +kernel
theorem dX0_number_0 : decode cX0_number 0 = .ok (.aload_n 0, 1) := by decide +kernel
theorem dX0_number_1 : decode cX0_number 1 = .ok (.getfield 23, 3) := by decide +kernel
theorem dX0_number_4 : decode cX0_number 4 = .ok (.ireturn, 1) := by decide +kernel
theorem dX0_empty_0 : decode cX0_empty 0 = .ok (.aload_n 0, 1) := by decide +kernel
theorem dX0_empty_1 : decode cX0_empty 1 = .ok (.getfield 23, 3) := by decide +kernel
theorem dX0_empty_4 : decode cX0_empty 4 = .ok (.istore_n 1, 1) := by decide +kernel
theorem dX0_empty_5 : decode cX0_empty 5 = .ok (.aload_n 0, 1) := by decide +kernel
theorem dX0_empty_6 : decode cX0_empty 6 = .ok (.iconst 0, 1) := by decide +kernel
theorem dX0_empty_7 : decode cX0_empty 7 = .ok (.putfield 23, 3) := by decide +kernel
theorem dX0_empty_10 : decode cX0_empty 10 = .ok (.iload_n 1, 1) := by decide +kernel
theorem dX0_empty_11 : decode cX0_empty 11 = .ok (.ireturn, 1) := by decide +kernel
theorem dX0_addBelow_0 : decode cX0_addBelow 0 = .ok (.aload_n 0, 1) := by decide +kernel
theorem dX0_addBelow_1 : decode cX0_addBelow 1 = .ok (.getfield 23, 3) := by decide +kernel
theorem dX0_addBelow_4 : decode cX0_addBelow 4 = .ok (.bipush 6, 2) := by decide +kernel
theorem dX0_addBelow_6 : decode cX0_addBelow 6 = .ok (.if_icmp .ge 24, 3) := by decide +kernel
theorem dX0_addBelow_9 : decode cX0_addBelow 9 = .ok (.iload_n 1, 1) := by decide +kernel
theorem dX0_addBelow_10 : decode cX0_addBelow 10 = .ok (.ifCond .lt 20, 3) := by decide +kernel
theorem dX0_addBelow_13 : decode cX0_addBelow 13 = .ok (.iload_n 1, 1) := by decide +kernel
theorem dX0_addBelow_14 : decode cX0_addBelow 14 = .ok (.iconst 3, 1) := by decide +kernel
theorem dX0_addBelow_15 : decode cX0_addBelow 15 = .ok (.if_icmp .gt 15, 3) := by decide +kernel
theorem dX0_addBelow_18 : decode cX0_addBelow 18 = .ok (.iload_n 2, 1) := by decide +kernel
theorem dX0_addBelow_19 : decode cX0_addBelow 19 = .ok (.iconst 1, 1) := by decide +kernel
theorem dX0_addBelow_20 : decode cX0_addBelow 20 = .ok (.if_icmp .lt 10, 3) := by decide +kernel
theorem dX0_addBelow_23 : decode cX0_addBelow 23 = .ok (.iload_n 2, 1) := by decide +kernel
theorem dX0_addBelow_24 : decode cX0_addBelow 24 = .ok (.sipush 9999, 3) := by decide +kernel
theorem dX0_addBelow_27 : decode cX0_addBelow 27 = .ok (.if_icmp .le 5, 3) := by decide +kernel
theorem dX0_addBelow_30 : decode cX0_addBelow 30 = .ok (.iconst (-1), 1) := by decide +kernel
theorem dX0_addBelow_31 : decode cX0_addBelow 31 = .ok (.ireturn, 1) := by decide +kernel
theorem dX0_addBelow_32 : decode cX0_addBelow 32 = .ok (.aload_n 0, 1) := by decide +kernel
theorem dX0_addBelow_33 : decode cX0_addBelow 33 = .ok (.getfield 11, 3) := by decide +kernel
theorem dX0_addBelow_36 : decode cX0_addBelow 36 = .ok (.aload_n 0, 1) := by decide +kernel
theorem dX0_addBelow_37 : decode cX0_addBelow 37 = .ok (.getfield 23, 3) := by decide +kernel
theorem dX0_addBelow_40 : decode cX0_addBelow 40 = .ok (.iload_n 1, 1) := by decide +kernel
theorem dX0_addBelow_41 : decode cX0_addBelow 41 = .ok (.iastore, 1) := by decide +kernel
theorem dX0_addBelow_42 : decode cX0_addBelow 42 = .ok (.aload_n 0, 1) := by decide +kernel
theorem dX0_addBelow_43 : decode cX0_addBelow 43 = .ok (.getfield 15, 3) := by decide +kernel
theorem dX0_addBelow_46 : decode cX0_addBelow 46 = .ok (.aload_n 0, 1) := by decide +kernel
theorem dX0_addBelow_47 : decode cX0_addBelow 47 = .ok (.getfield 23, 3) := by decide +kernel
theorem dX0_addBelow_50 : decode cX0_addBelow 50 = .ok (.iload_n 2, 1) := by decide +kernel
theorem dX0_addBelow_51 : decode cX0_addBelow 51 = .ok (.iastore, 1) := by decide +kernel
theorem dX0_addBelow_52 : decode cX0_addBelow 52 = .ok (.aload_n 0, 1) := by decide +kernel
theorem dX0_addBelow_53 : decode cX0_addBelow 53 = .ok (.dup, 1) := by decide +kernel
theorem dX0_addBelow_54 : decode cX0_addBelow 54 = .ok (.getfield 23, 3) := by decide +kernel
theorem dX0_addBelow_57 : decode cX0_addBelow 57 = .ok (.iconst 1, 1) := by decide +kernel
theorem dX0_addBelow_58 : decode cX0_addBelow 58 = .ok (.iadd, 1) := by decide +kernel
theorem dX0_addBelow_59 : decode cX0_addBelow 59 = .ok (.putfield 23, 3) := by decide +kernel
theorem dX0_addBelow_62 : decode cX0_addBelow 62 = .ok (.aload_n 0, 1) := by decide +kernel
theorem dX0_addBelow_63 : decode cX0_addBelow 63 = .ok (.getfield 23, 3) := by decide +kernel
theorem dX0_addBelow_66 : decode cX0_addBelow 66 = .ok (.ireturn, 1) := by decide +kernel
theorem dX0_costAgainst_0 : decode cX0_costAgainst 0 = .ok (.aload_n 1, 1) := by decide +kernel
theorem dX0_costAgainst_1 : decode cX0_costAgainst 1 = .ok (.invokevirtual 27, 3) := by decide +kernel
theorem dX0_costAgainst_4 : decode cX0_costAgainst 4 = .ok (.bipush 10, 2) := by decide +kernel
theorem dX0_costAgainst_6 : decode cX0_costAgainst 6 = .ok (.invokestatic 31, 3) := by decide +kernel
theorem dX0_costAgainst_9 : decode cX0_costAgainst 9 = .ok (.istore_n 2, 1) := by decide +kernel
theorem dX0_costAgainst_10 : decode cX0_costAgainst 10 = .ok (.iconst 0, 1) := by decide +kernel
theorem dX0_costAgainst_11 : decode cX0_costAgainst 11 = .ok (.istore_n 3, 1) := by decide +kernel
theorem dX0_costAgainst_12 : decode cX0_costAgainst 12 = .ok (.iload_n 3, 1) := by decide +kernel
theorem dX0_costAgainst_13 : decode cX0_costAgainst 13 = .ok (.iload_n 2, 1) := by decide +kernel
theorem dX0_costAgainst_14 : decode cX0_costAgainst 14 = .ok (.if_icmp .gt 19, 3) := by decide +kernel
theorem dX0_costAgainst_17 : decode cX0_costAgainst 17 = .ok (.aload_n 0, 1) := by decide +kernel
theorem dX0_costAgainst_18 : decode cX0_costAgainst 18 = .ok (.getfield 20, 3) := by decide +kernel
theorem dX0_costAgainst_21 : decode cX0_costAgainst 21 = .ok (.iload_n 3, 1) := by decide +kernel
theorem dX0_costAgainst_22 : decode cX0_costAgainst 22 = .ok (.bipush 30, 2) := by decide +kernel
theorem dX0_costAgainst_24 : decode cX0_costAgainst 24 = .ok (.iload_n 3, 1) := by decide +kernel
theorem dX0_costAgainst_25 : decode cX0_costAgainst 25 = .ok (.imul, 1) := by decide +kernel
theorem dX0_costAgainst_26 : decode cX0_costAgainst 26 = .ok (.iastore, 1) := by decide +kernel
theorem dX0_costAgainst_27 : decode cX0_costAgainst 27 = .ok (.iinc 3 1, 3) := by decide +kernel
theorem dX0_costAgainst_30 : decode cX0_costAgainst 30 = .ok (.goto (-18), 3) := by decide +kernel
theorem dX0_costAgainst_33 : decode cX0_costAgainst 33 = .ok (.iconst 0, 1) := by decide +kernel
theorem dX0_costAgainst_34 : decode cX0_costAgainst 34 = .ok (.istore_n 3, 1) := by decide +kernel
theorem dX0_costAgainst_35 : decode cX0_costAgainst 35 = .ok (.iload_n 3, 1) := by decide +kernel
theorem dX0_costAgainst_36 : decode cX0_costAgainst 36 = .ok (.aload_n 0, 1) := by decide +kernel
theorem dX0_costAgainst_37 : decode cX0_costAgainst 37 = .ok (.getfield 23, 3) := by decide +kernel
theorem dX0_costAgainst_40 : decode cX0_costAgainst 40 = .ok (.if_icmp .ge 105, 3) := by decide +kernel
theorem dX0_costAgainst_43 : decode cX0_costAgainst 43 = .ok (.aload_n 0, 1) := by decide +kernel
theorem dX0_costAgainst_44 : decode cX0_costAgainst 44 = .ok (.getfield 20, 3) := by decide +kernel
theorem dX0_costAgainst_47 : decode cX0_costAgainst 47 = .ok (.iconst 0, 1) := by decide +kernel
theorem dX0_costAgainst_48 : decode cX0_costAgainst 48 = .ok (.iaload, 1) := by decide +kernel
theorem dX0_costAgainst_49 : decode cX0_costAgainst 49 = .ok (.istore 4, 2) := by decide +kernel
theorem dX0_costAgainst_51 : decode cX0_costAgainst 51 = .ok (.aload_n 0, 1) := by decide +kernel
theorem dX0_costAgainst_52 : decode cX0_costAgainst 52 = .ok (.getfield 20, 3) := by decide +kernel
theorem dX0_costAgainst_55 : decode cX0_costAgainst 55 = .ok (.iconst 0, 1) := by decide +kernel
theorem dX0_costAgainst_56 : decode cX0_costAgainst 56 = .ok (.dup2, 1) := by decide +kernel
theorem dX0_costAgainst_57 : decode cX0_costAgainst 57 = .ok (.iaload, 1) := by decide +kernel
theorem dX0_costAgainst_58 : decode cX0_costAgainst 58 = .ok (.bipush 30, 2) := by decide +kernel
theorem dX0_costAgainst_60 : decode cX0_costAgainst 60 = .ok (.iadd, 1) := by decide +kernel
theorem dX0_costAgainst_61 : decode cX0_costAgainst 61 = .ok (.iastore, 1) := by decide +kernel
theorem dX0_costAgainst_62 : decode cX0_costAgainst 62 = .ok (.iconst 1, 1) := by decide +kernel
theorem dX0_costAgainst_63 : decode cX0_costAgainst 63 = .ok (.istore 5, 2) := by decide +kernel
theorem dX0_costAgainst_65 : decode cX0_costAgainst 65 = .ok (.iload 5, 2) := by decide +kernel
theorem dX0_costAgainst_67 : decode cX0_costAgainst 67 = .ok (.iload_n 2, 1) := by decide +kernel
theorem dX0_costAgainst_68 : decode cX0_costAgainst 68 = .ok (.if_icmp .gt 71, 3) := by decide +kernel
theorem dX0_costAgainst_71 : decode cX0_costAgainst 71 = .ok (.iload 4, 2) := by decide +kernel
theorem dX0_costAgainst_73 : decode cX0_costAgainst 73 = .ok (.aload_n 0, 1) := by decide +kernel
theorem dX0_costAgainst_74 : decode cX0_costAgainst 74 = .ok (.iload_n 3, 1) := by decide +kernel
theorem dX0_costAgainst_75 : decode cX0_costAgainst 75 = .ok (.aload_n 1, 1) := by decide +kernel
theorem dX0_costAgainst_76 : decode cX0_costAgainst 76 = .ok (.iload_n 2, 1) := by decide +kernel
theorem dX0_costAgainst_77 : decode cX0_costAgainst 77 = .ok (.iload 5, 2) := by decide +kernel
theorem dX0_costAgainst_79 : decode cX0_costAgainst 79 = .ok (.isub, 1) := by decide +kernel
theorem dX0_costAgainst_80 : decode cX0_costAgainst 80 = .ok (.invokevirtual 37, 3) := by decide +kernel
theorem dX0_costAgainst_83 : decode cX0_costAgainst 83 = .ok (.iadd, 1) := by decide +kernel
theorem dX0_costAgainst_84 : decode cX0_costAgainst 84 = .ok (.istore 6, 2) := by decide +kernel
theorem dX0_costAgainst_86 : decode cX0_costAgainst 86 = .ok (.aload_n 0, 1) := by decide +kernel
theorem dX0_costAgainst_87 : decode cX0_costAgainst 87 = .ok (.getfield 20, 3) := by decide +kernel
theorem dX0_costAgainst_90 : decode cX0_costAgainst 90 = .ok (.iload 5, 2) := by decide +kernel
theorem dX0_costAgainst_92 : decode cX0_costAgainst 92 = .ok (.iaload, 1) := by decide +kernel
theorem dX0_costAgainst_93 : decode cX0_costAgainst 93 = .ok (.aload_n 0, 1) := by decide +kernel
theorem dX0_costAgainst_94 : decode cX0_costAgainst 94 = .ok (.getfield 20, 3) := by decide +kernel
theorem dX0_costAgainst_97 : decode cX0_costAgainst 97 = .ok (.iload 5, 2) := by decide +kernel
theorem dX0_costAgainst_99 : decode cX0_costAgainst 99 = .ok (.iconst 1, 1) := by decide +kernel
theorem dX0_costAgainst_100 : decode cX0_costAgainst 100 = .ok (.isub, 1) := by decide +kernel
theorem dX0_costAgainst_101 : decode cX0_costAgainst 101 = .ok (.iaload, 1) := by decide +kernel
theorem dX0_costAgainst_102 : decode cX0_costAgainst 102 = .ok (.invokestatic 31, 3) := by decide +kernel
theorem dX0_costAgainst_105 : decode cX0_costAgainst 105 = .ok (.bipush 30, 2) := by decide +kernel
theorem dX0_costAgainst_107 : decode cX0_costAgainst 107 = .ok (.iadd, 1) := by decide +kernel
theorem dX0_costAgainst_108 : decode cX0_costAgainst 108 = .ok (.istore 7, 2) := by decide +kernel
theorem dX0_costAgainst_110 : decode cX0_costAgainst 110 = .ok (.aload_n 0, 1) := by decide +kernel
theorem dX0_costAgainst_111 : decode cX0_costAgainst 111 = .ok (.getfield 20, 3) := by decide +kernel
theorem dX0_costAgainst_114 : decode cX0_costAgainst 114 = .ok (.iload 5, 2) := by decide +kernel
theorem dX0_costAgainst_116 : decode cX0_costAgainst 116 = .ok (.iaload, 1) := by decide +kernel
theorem dX0_costAgainst_117 : decode cX0_costAgainst 117 = .ok (.istore 4, 2) := by decide +kernel
theorem dX0_costAgainst_119 : decode cX0_costAgainst 119 = .ok (.aload_n 0, 1) := by decide +kernel
theorem dX0_costAgainst_120 : decode cX0_costAgainst 120 = .ok (.getfield 20, 3) := by decide +kernel
theorem dX0_costAgainst_123 : decode cX0_costAgainst 123 = .ok (.iload 5, 2) := by decide +kernel
theorem dX0_costAgainst_125 : decode cX0_costAgainst 125 = .ok (.iload 6, 2) := by decide +kernel
theorem dX0_costAgainst_127 : decode cX0_costAgainst 127 = .ok (.iload 7, 2) := by decide +kernel
theorem dX0_costAgainst_129 : decode cX0_costAgainst 129 = .ok (.invokestatic 31, 3) := by decide +kernel
theorem dX0_costAgainst_132 : decode cX0_costAgainst 132 = .ok (.iastore, 1) := by decide +kernel
theorem dX0_costAgainst_133 : decode cX0_costAgainst 133 = .ok (.iinc 5 1, 3) := by decide +kernel
theorem dX0_costAgainst_136 : decode cX0_costAgainst 136 = .ok (.goto (-71), 3) := by decide +kernel
theorem dX0_costAgainst_139 : decode cX0_costAgainst 139 = .ok (.iinc 3 1, 3) := by decide +kernel
theorem dX0_costAgainst_142 : decode cX0_costAgainst 142 = .ok (.goto (-107), 3) := by decide +kernel
theorem dX0_costAgainst_145 : decode cX0_costAgainst 145 = .ok (.aload_n 0, 1) := by decide +kernel
theorem dX0_costAgainst_146 : decode cX0_costAgainst 146 = .ok (.getfield 20, 3) := by decide +kernel
theorem dX0_costAgainst_149 : decode cX0_costAgainst 149 = .ok (.iload_n 2, 1) := by decide +kernel
theorem dX0_costAgainst_150 : decode cX0_costAgainst 150 = .ok (.iaload, 1) := by decide +kernel
theorem dX0_costAgainst_151 : decode cX0_costAgainst 151 = .ok (.ireturn, 1) := by decide +kernel
theorem dX0_costOfPair_0 : decode cX0_costOfPair 0 = .ok (.aload_n 0, 1) := by decide +kernel
theorem dX0_costOfPair_1 : decode cX0_costOfPair 1 = .ok (.getfield 15, 3) := by decide +kernel
theorem dX0_costOfPair_4 : decode cX0_costOfPair 4 = .ok (.iload_n 1, 1) := by decide +kernel
theorem dX0_costOfPair_5 : decode cX0_costOfPair 5 = .ok (.iaload, 1) := by decide +kernel
theorem dX0_costOfPair_6 : decode cX0_costOfPair 6 = .ok (.aload_n 2, 1) := by decide +kernel
theorem dX0_costOfPair_7 : decode cX0_costOfPair 7 = .ok (.iload_n 3, 1) := by decide +kernel
theorem dX0_costOfPair_8 : decode cX0_costOfPair 8 = .ok (.invokevirtual 41, 3) := by decide +kernel
theorem dX0_costOfPair_11 : decode cX0_costOfPair 11 = .ok (.isub, 1) := by decide +kernel
theorem dX0_costOfPair_12 : decode cX0_costOfPair 12 = .ok (.invokestatic 45, 3) := by decide +kernel
theorem dX0_costOfPair_15 : decode cX0_costOfPair 15 = .ok (.bipush 10, 2) := by decide +kernel
theorem dX0_costOfPair_17 : decode cX0_costOfPair 17 = .ok (.idiv, 1) := by decide +kernel
theorem dX0_costOfPair_18 : decode cX0_costOfPair 18 = .ok (.istore 4, 2) := by decide +kernel
theorem dX0_costOfPair_20 : decode cX0_costOfPair 20 = .ok (.aload_n 0, 1) := by decide +kernel
theorem dX0_costOfPair_21 : decode cX0_costOfPair 21 = .ok (.getfield 11, 3) := by decide +kernel
theorem dX0_costOfPair_24 : decode cX0_costOfPair 24 = .ok (.iload_n 1, 1) := by decide +kernel
theorem dX0_costOfPair_25 : decode cX0_costOfPair 25 = .ok (.iaload, 1) := by decide +kernel
theorem dX0_costOfPair_26 : decode cX0_costOfPair 26 = .ok (.aload_n 2, 1) := by decide +kernel
theorem dX0_costOfPair_27 : decode cX0_costOfPair 27 = .ok (.iload_n 3, 1) := by decide +kernel
theorem dX0_costOfPair_28 : decode cX0_costOfPair 28 = .ok (.invokevirtual 48, 3) := by decide +kernel
theorem dX0_costOfPair_31 : decode cX0_costOfPair 31 = .ok (.if_icmp .ne 8, 3) := by decide +kernel
theorem dX0_costOfPair_34 : decode cX0_costOfPair 34 = .ok (.iload 4, 2) := by decide +kernel
theorem dX0_costOfPair_36 : decode cX0_costOfPair 36 = .ok (.goto 8, 3) := by decide +kernel
theorem dX0_costOfPair_39 : decode cX0_costOfPair 39 = .ok (.iload 4, 2) := by decide +kernel
theorem dX0_costOfPair_41 : decode cX0_costOfPair 41 = .ok (.bipush 40, 2) := by decide +kernel
theorem dX0_costOfPair_43 : decode cX0_costOfPair 43 = .ok (.iadd, 1) := by decide +kernel
theorem dX0_costOfPair_44 : decode cX0_costOfPair 44 = .ok (.ireturn, 1) := by decide +kernel
theorem dX1_init_0 : decode cX1_init 0 = .ok (.aload_n 0, 1) := by decide +kernel
theorem dX1_init_1 : decode cX1_init 1 = .ok (.invokespecial 3, 3) := by decide +kernel
theorem dX1_init_4 : decode cX1_init 4 = .ok (.aload_n 0, 1) := by decide +kernel
theorem dX1_init_5 : decode cX1_init 5 = .ok (.bipush 10, 2) := by decide +kernel
theorem dX1_init_7 : decode cX1_init 7 = .ok (.newarray .int, 2) := by decide +kernel
theorem dX1_init_9 : decode cX1_init 9 = .ok (.putfield 11, 3) := by decide +kernel
theorem dX1_init_12 : decode cX1_init 12 = .ok (.aload_n 0, 1) := by decide +kernel
theorem dX1_init_13 : decode cX1_init 13 = .ok (.bipush 10, 2) := by decide +kernel
theorem dX1_init_15 : decode cX1_init 15 = .ok (.newarray .int, 2) := by decide +kernel
theorem dX1_init_17 : decode cX1_init 17 = .ok (.putfield 15, 3) := by decide +kernel
theorem dX1_init_20 : decode cX1_init 20 = .ok (.aload_n 0, 1) := by decide +kernel
theorem dX1_init_21 : decode cX1_init 21 = .ok (.iconst 0, 1) := by decide +kernel
theorem dX1_init_22 : decode cX1_init 22 = .ok (.putfield 18, 3) := by decide +kernel
theorem dX1_init_25 : decode cX1_init 25 = .ok (.return_, 1) := by decide +kernel
theorem dX1_paths_0 : decode cX1_paths 0 = .ok (.aload_n 0, 1) := by decide +kernel
theorem dX1_paths_1 : decode cX1_paths 1 = .ok (.getfield 18, 3) := by decide +kernel
theorem dX1_paths_4 : decode cX1_paths 4 = .ok (.ireturn, 1) := by decide +kernel
theorem dX1_addPath_0 : decode cX1_addPath 0 = .ok (.aload_n 0, 1) := by decide +kernel
theorem dX1_addPath_1 : decode cX1_addPath 1 = .ok (.getfield 18, 3) := by decide +kernel
theorem dX1_addPath_4 : decode cX1_addPath 4 = .ok (.bipush 10, 2) := by decide +kernel
theorem dX1_addPath_6 : decode cX1_addPath 6 = .ok (.if_icmp .lt 5, 3) := by decide +kernel
theorem dX1_addPath_9 : decode cX1_addPath 9 = .ok (.iconst (-1), 1) := by decide +kernel
theorem dX1_addPath_10 : decode cX1_addPath 10 = .ok (.ireturn, 1) := by decide +kernel
theorem dX1_addPath_11 : decode cX1_addPath 11 = .ok (.aload_n 0, 1) := by decide +kernel
theorem dX1_addPath_12 : decode cX1_addPath 12 = .ok (.getfield 11, 3) := by decide +kernel
theorem dX1_addPath_15 : decode cX1_addPath 15 = .ok (.aload_n 0, 1) := by decide +kernel
theorem dX1_addPath_16 : decode cX1_addPath 16 = .ok (.getfield 18, 3) := by decide +kernel
theorem dX1_addPath_19 : decode cX1_addPath 19 = .ok (.iload_n 1, 1) := by decide +kernel
theorem dX1_addPath_20 : decode cX1_addPath 20 = .ok (.iastore, 1) := by decide +kernel
theorem dX1_addPath_21 : decode cX1_addPath 21 = .ok (.aload_n 0, 1) := by decide +kernel
theorem dX1_addPath_22 : decode cX1_addPath 22 = .ok (.getfield 15, 3) := by decide +kernel
theorem dX1_addPath_25 : decode cX1_addPath 25 = .ok (.aload_n 0, 1) := by decide +kernel
theorem dX1_addPath_26 : decode cX1_addPath 26 = .ok (.getfield 18, 3) := by decide +kernel
theorem dX1_addPath_29 : decode cX1_addPath 29 = .ok (.iload_n 2, 1) := by decide +kernel
theorem dX1_addPath_30 : decode cX1_addPath 30 = .ok (.iastore, 1) := by decide +kernel
theorem dX1_addPath_31 : decode cX1_addPath 31 = .ok (.aload_n 0, 1) := by decide +kernel
theorem dX1_addPath_32 : decode cX1_addPath 32 = .ok (.dup, 1) := by decide +kernel
theorem dX1_addPath_33 : decode cX1_addPath 33 = .ok (.getfield 18, 3) := by decide +kernel
theorem dX1_addPath_36 : decode cX1_addPath 36 = .ok (.iconst 1, 1) := by decide +kernel
theorem dX1_addPath_37 : decode cX1_addPath 37 = .ok (.iadd, 1) := by decide +kernel
theorem dX1_addPath_38 : decode cX1_addPath 38 = .ok (.putfield 18, 3) := by decide +kernel
theorem dX1_addPath_41 : decode cX1_addPath 41 = .ok (.aload_n 0, 1) := by decide +kernel
theorem dX1_addPath_42 : decode cX1_addPath 42 = .ok (.getfield 18, 3) := by decide +kernel
theorem dX1_addPath_45 : decode cX1_addPath 45 = .ok (.iconst 1, 1) := by decide +kernel
theorem dX1_addPath_46 : decode cX1_addPath 46 = .ok (.isub, 1) := by decide +kernel
theorem dX1_addPath_47 : decode cX1_addPath 47 = .ok (.ireturn, 1) := by decide +kernel
theorem dX1_classOf_0 : decode cX1_classOf 0 = .ok (.iload_n 1, 1) := by decide +kernel
theorem dX1_classOf_1 : decode cX1_classOf 1 = .ok (.ifCond .lt 20, 3) := by decide +kernel
theorem dX1_classOf_4 : decode cX1_classOf 4 = .ok (.iload_n 1, 1) := by decide +kernel
theorem dX1_classOf_5 : decode cX1_classOf 5 = .ok (.aload_n 0, 1) := by decide +kernel
theorem dX1_classOf_6 : decode cX1_classOf 6 = .ok (.getfield 18, 3) := by decide +kernel
theorem dX1_classOf_9 : decode cX1_classOf 9 = .ok (.if_icmp .ge 12, 3) := by decide +kernel
theorem dX1_classOf_12 : decode cX1_classOf 12 = .ok (.aload_n 0, 1) := by decide +kernel
theorem dX1_classOf_13 : decode cX1_classOf 13 = .ok (.getfield 11, 3) := by decide +kernel
theorem dX1_classOf_16 : decode cX1_classOf 16 = .ok (.iload_n 1, 1) := by decide +kernel
theorem dX1_classOf_17 : decode cX1_classOf 17 = .ok (.iaload, 1) := by decide +kernel
theorem dX1_classOf_18 : decode cX1_classOf 18 = .ok (.goto 4, 3) := by decide +kernel
theorem dX1_classOf_21 : decode cX1_classOf 21 = .ok (.iconst (-1), 1) := by decide +kernel
theorem dX1_classOf_22 : decode cX1_classOf 22 = .ok (.ireturn, 1) := by decide +kernel
theorem dX1_needOf_0 : decode cX1_needOf 0 = .ok (.iload_n 1, 1) := by decide +kernel
theorem dX1_needOf_1 : decode cX1_needOf 1 = .ok (.ifCond .lt 20, 3) := by decide +kernel
theorem dX1_needOf_4 : decode cX1_needOf 4 = .ok (.iload_n 1, 1) := by decide +kernel
theorem dX1_needOf_5 : decode cX1_needOf 5 = .ok (.aload_n 0, 1) := by decide +kernel
theorem dX1_needOf_6 : decode cX1_needOf 6 = .ok (.getfield 18, 3) := by decide +kernel
theorem dX1_needOf_9 : decode cX1_needOf 9 = .ok (.if_icmp .ge 12, 3) := by decide +kernel
theorem dX1_needOf_12 : decode cX1_needOf 12 = .ok (.aload_n 0, 1) := by decide +kernel
theorem dX1_needOf_13 : decode cX1_needOf 13 = .ok (.getfield 15, 3) := by decide +kernel
theorem dX1_needOf_16 : decode cX1_needOf 16 = .ok (.iload_n 1, 1) := by decide +kernel
theorem dX1_needOf_17 : decode cX1_needOf 17 = .ok (.iaload, 1) := by decide +kernel
theorem dX1_needOf_18 : decode cX1_needOf 18 = .ok (.goto 4, 3) := by decide +kernel
theorem dX1_needOf_21 : decode cX1_needOf 21 = .ok (.iconst 3, 1) := by decide +kernel
theorem dX1_needOf_22 : decode cX1_needOf 22 = .ok (.ireturn, 1) := by decide +kernel
theorem dX1_leastNeedIn_0 : decode cX1_leastNeedIn 0 = .ok (.iconst 3, 1) := by decide +kernel
theorem dX1_leastNeedIn_1 : decode cX1_leastNeedIn 1 = .ok (.istore_n 2, 1) := by decide +kernel
theorem dX1_leastNeedIn_2 : decode cX1_leastNeedIn 2 = .ok (.iconst 0, 1) := by decide +kernel
theorem dX1_leastNeedIn_3 : decode cX1_leastNeedIn 3 = .ok (.istore_n 3, 1) := by decide +kernel
theorem dX1_leastNeedIn_4 : decode cX1_leastNeedIn 4 = .ok (.iload_n 3, 1) := by decide +kernel
theorem dX1_leastNeedIn_5 : decode cX1_leastNeedIn 5 = .ok (.aload_n 0, 1) := by decide +kernel
theorem dX1_leastNeedIn_6 : decode cX1_leastNeedIn 6 = .ok (.getfield 18, 3) := by decide +kernel
theorem dX1_leastNeedIn_9 : decode cX1_leastNeedIn 9 = .ok (.if_icmp .ge 30, 3) := by decide +kernel
theorem dX1_leastNeedIn_12 : decode cX1_leastNeedIn 12 = .ok (.aload_n 0, 1) := by decide +kernel
theorem dX1_leastNeedIn_13 : decode cX1_leastNeedIn 13 = .ok (.getfield 11, 3) := by decide +kernel
theorem dX1_leastNeedIn_16 : decode cX1_leastNeedIn 16 = .ok (.iload_n 3, 1) := by decide +kernel
theorem dX1_leastNeedIn_17 : decode cX1_leastNeedIn 17 = .ok (.iaload, 1) := by decide +kernel
theorem dX1_leastNeedIn_18 : decode cX1_leastNeedIn 18 = .ok (.iload_n 1, 1) := by decide +kernel
theorem dX1_leastNeedIn_19 : decode cX1_leastNeedIn 19 = .ok (.if_icmp .ne 14, 3) := by decide +kernel
theorem dX1_leastNeedIn_22 : decode cX1_leastNeedIn 22 = .ok (.iload_n 2, 1) := by decide +kernel
theorem dX1_leastNeedIn_23 : decode cX1_leastNeedIn 23 = .ok (.aload_n 0, 1) := by decide +kernel
theorem dX1_leastNeedIn_24 : decode cX1_leastNeedIn 24 = .ok (.getfield 15, 3) := by decide +kernel
theorem dX1_leastNeedIn_27 : decode cX1_leastNeedIn 27 = .ok (.iload_n 3, 1) := by decide +kernel
theorem dX1_leastNeedIn_28 : decode cX1_leastNeedIn 28 = .ok (.iaload, 1) := by decide +kernel
theorem dX1_leastNeedIn_29 : decode cX1_leastNeedIn 29 = .ok (.invokestatic 22, 3) := by decide +kernel
theorem dX1_leastNeedIn_32 : decode cX1_leastNeedIn 32 = .ok (.istore_n 2, 1) := by decide +kernel
theorem dX1_leastNeedIn_33 : decode cX1_leastNeedIn 33 = .ok (.iinc 3 1, 3) := by decide +kernel
theorem dX1_leastNeedIn_36 : decode cX1_leastNeedIn 36 = .ok (.goto (-32), 3) := by decide +kernel
theorem dX1_leastNeedIn_39 : decode cX1_leastNeedIn 39 = .ok (.iload_n 2, 1) := by decide +kernel
theorem dX1_leastNeedIn_40 : decode cX1_leastNeedIn 40 = .ok (.ireturn, 1) := by decide +kernel
theorem dX2_init_0 : decode cX2_init 0 = .ok (.aload_n 0, 1) := by decide +kernel
theorem dX2_init_1 : decode cX2_init 1 = .ok (.invokespecial 3, 3) := by decide +kernel
theorem dX2_init_4 : decode cX2_init 4 = .ok (.aload_n 0, 1) := by decide +kernel
theorem dX2_init_5 : decode cX2_init 5 = .ok (.bipush 10, 2) := by decide +kernel
theorem dX2_init_7 : decode cX2_init 7 = .ok (.newarray .int, 2) := by decide +kernel
theorem dX2_init_9 : decode cX2_init 9 = .ok (.putfield 11, 3) := by decide +kernel
theorem dX2_init_12 : decode cX2_init 12 = .ok (.aload_n 0, 1) := by decide +kernel
theorem dX2_init_13 : decode cX2_init 13 = .ok (.bipush 10, 2) := by decide +kernel
theorem dX2_init_15 : decode cX2_init 15 = .ok (.newarray .int, 2) := by decide +kernel
theorem dX2_init_17 : decode cX2_init 17 = .ok (.putfield 15, 3) := by decide +kernel
theorem dX2_init_20 : decode cX2_init 20 = .ok (.aload_n 0, 1) := by decide +kernel
theorem dX2_init_21 : decode cX2_init 21 = .ok (.bipush 10, 2) := by decide +kernel
theorem dX2_init_23 : decode cX2_init 23 = .ok (.newarray .int, 2) := by decide +kernel
theorem dX2_init_25 : decode cX2_init 25 = .ok (.putfield 18, 3) := by decide +kernel
theorem dX2_init_28 : decode cX2_init 28 = .ok (.aload_n 0, 1) := by decide +kernel
theorem dX2_init_29 : decode cX2_init 29 = .ok (.iconst 0, 1) := by decide +kernel
theorem dX2_init_30 : decode cX2_init 30 = .ok (.putfield 21, 3) := by decide +kernel
theorem dX2_init_33 : decode cX2_init 33 = .ok (.return_, 1) := by decide +kernel
theorem dX2_depth_0 : decode cX2_depth 0 = .ok (.aload_n 0, 1) := by decide +kernel
theorem dX2_depth_1 : decode cX2_depth 1 = .ok (.getfield 21, 3) := by decide +kernel
theorem dX2_depth_4 : decode cX2_depth 4 = .ok (.ireturn, 1) := by decide +kernel
theorem dX2_has_0 : decode cX2_has 0 = .ok (.iload_n 1, 1) := by decide +kernel
theorem dX2_has_1 : decode cX2_has 1 = .ok (.ifCond .lt 15, 3) := by decide +kernel
theorem dX2_has_4 : decode cX2_has 4 = .ok (.iload_n 1, 1) := by decide +kernel
theorem dX2_has_5 : decode cX2_has 5 = .ok (.aload_n 0, 1) := by decide +kernel
theorem dX2_has_6 : decode cX2_has 6 = .ok (.getfield 21, 3) := by decide +kernel
theorem dX2_has_9 : decode cX2_has 9 = .ok (.if_icmp .ge 7, 3) := by decide +kernel
theorem dX2_has_12 : decode cX2_has 12 = .ok (.iconst 1, 1) := by decide +kernel
theorem dX2_has_13 : decode cX2_has 13 = .ok (.goto 4, 3) := by decide +kernel
theorem dX2_has_16 : decode cX2_has 16 = .ok (.iconst 0, 1) := by decide +kernel
theorem dX2_has_17 : decode cX2_has 17 = .ok (.ireturn, 1) := by decide +kernel
theorem dX2_kindOf_0 : decode cX2_kindOf 0 = .ok (.aload_n 0, 1) := by decide +kernel
theorem dX2_kindOf_1 : decode cX2_kindOf 1 = .ok (.iload_n 1, 1) := by decide +kernel
theorem dX2_kindOf_2 : decode cX2_kindOf 2 = .ok (.invokevirtual 25, 3) := by decide +kernel
theorem dX2_kindOf_5 : decode cX2_kindOf 5 = .ok (.ifCond .eq 12, 3) := by decide +kernel
theorem dX2_kindOf_8 : decode cX2_kindOf 8 = .ok (.aload_n 0, 1) := by decide +kernel
theorem dX2_kindOf_9 : decode cX2_kindOf 9 = .ok (.getfield 11, 3) := by decide +kernel
theorem dX2_kindOf_12 : decode cX2_kindOf 12 = .ok (.iload_n 1, 1) := by decide +kernel
theorem dX2_kindOf_13 : decode cX2_kindOf 13 = .ok (.iaload, 1) := by decide +kernel
theorem dX2_kindOf_14 : decode cX2_kindOf 14 = .ok (.goto 4, 3) := by decide +kernel
theorem dX2_kindOf_17 : decode cX2_kindOf 17 = .ok (.iconst (-1), 1) := by decide +kernel
theorem dX2_kindOf_18 : decode cX2_kindOf 18 = .ok (.ireturn, 1) := by decide +kernel
theorem dX2_massOf_0 : decode cX2_massOf 0 = .ok (.aload_n 0, 1) := by decide +kernel
theorem dX2_massOf_1 : decode cX2_massOf 1 = .ok (.iload_n 1, 1) := by decide +kernel
theorem dX2_massOf_2 : decode cX2_massOf 2 = .ok (.invokevirtual 25, 3) := by decide +kernel
theorem dX2_massOf_5 : decode cX2_massOf 5 = .ok (.ifCond .eq 12, 3) := by decide +kernel
theorem dX2_massOf_8 : decode cX2_massOf 8 = .ok (.aload_n 0, 1) := by decide +kernel
theorem dX2_massOf_9 : decode cX2_massOf 9 = .ok (.getfield 15, 3) := by decide +kernel
theorem dX2_massOf_12 : decode cX2_massOf 12 = .ok (.iload_n 1, 1) := by decide +kernel
theorem dX2_massOf_13 : decode cX2_massOf 13 = .ok (.iaload, 1) := by decide +kernel
theorem dX2_massOf_14 : decode cX2_massOf 14 = .ok (.goto 4, 3) := by decide +kernel
theorem dX2_massOf_17 : decode cX2_massOf 17 = .ok (.iconst 0, 1) := by decide +kernel
theorem dX2_massOf_18 : decode cX2_massOf 18 = .ok (.ireturn, 1) := by decide +kernel
theorem dX2_ageOf_0 : decode cX2_ageOf 0 = .ok (.aload_n 0, 1) := by decide +kernel
theorem dX2_ageOf_1 : decode cX2_ageOf 1 = .ok (.iload_n 1, 1) := by decide +kernel
theorem dX2_ageOf_2 : decode cX2_ageOf 2 = .ok (.invokevirtual 25, 3) := by decide +kernel
theorem dX2_ageOf_5 : decode cX2_ageOf 5 = .ok (.ifCond .eq 12, 3) := by decide +kernel
theorem dX2_ageOf_8 : decode cX2_ageOf 8 = .ok (.aload_n 0, 1) := by decide +kernel
theorem dX2_ageOf_9 : decode cX2_ageOf 9 = .ok (.getfield 18, 3) := by decide +kernel
theorem dX2_ageOf_12 : decode cX2_ageOf 12 = .ok (.iload_n 1, 1) := by decide +kernel
theorem dX2_ageOf_13 : decode cX2_ageOf 13 = .ok (.iaload, 1) := by decide +kernel
theorem dX2_ageOf_14 : decode cX2_ageOf 14 = .ok (.goto 4, 3) := by decide +kernel
theorem dX2_ageOf_17 : decode cX2_ageOf 17 = .ok (.iconst (-1), 1) := by decide +kernel
theorem dX2_ageOf_18 : decode cX2_ageOf 18 = .ok (.ireturn, 1) := by decide +kernel
theorem dX2_indexOf_0 : decode cX2_indexOf 0 = .ok (.aload_n 0, 1) := by decide +kernel
theorem dX2_indexOf_1 : decode cX2_indexOf 1 = .ok (.iload_n 1, 1) := by decide +kernel
theorem dX2_indexOf_2 : decode cX2_indexOf 2 = .ok (.invokevirtual 25, 3) := by decide +kernel
theorem dX2_indexOf_5 : decode cX2_indexOf 5 = .ok (.ifCond .eq 29, 3) := by decide +kernel
theorem dX2_indexOf_8 : decode cX2_indexOf 8 = .ok (.aload_n 0, 1) := by decide +kernel
theorem dX2_indexOf_9 : decode cX2_indexOf 9 = .ok (.getfield 11, 3) := by decide +kernel
theorem dX2_indexOf_12 : decode cX2_indexOf 12 = .ok (.iload_n 1, 1) := by decide +kernel
theorem dX2_indexOf_13 : decode cX2_indexOf 13 = .ok (.iaload, 1) := by decide +kernel
theorem dX2_indexOf_14 : decode cX2_indexOf 14 = .ok (.aload_n 0, 1) := by decide +kernel
theorem dX2_indexOf_15 : decode cX2_indexOf 15 = .ok (.getfield 18, 3) := by decide +kernel
theorem dX2_indexOf_18 : decode cX2_indexOf 18 = .ok (.iload_n 1, 1) := by decide +kernel
theorem dX2_indexOf_19 : decode cX2_indexOf 19 = .ok (.iaload, 1) := by decide +kernel
theorem dX2_indexOf_20 : decode cX2_indexOf 20 = .ok (.invokestatic 29, 3) := by decide +kernel
theorem dX2_indexOf_23 : decode cX2_indexOf 23 = .ok (.aload_n 0, 1) := by decide +kernel
theorem dX2_indexOf_24 : decode cX2_indexOf 24 = .ok (.iload_n 1, 1) := by decide +kernel
theorem dX2_indexOf_25 : decode cX2_indexOf 25 = .ok (.invokevirtual 33, 3) := by decide +kernel
theorem dX2_indexOf_28 : decode cX2_indexOf 28 = .ok (.invokestatic 37, 3) := by decide +kernel
theorem dX2_indexOf_31 : decode cX2_indexOf 31 = .ok (.goto 4, 3) := by decide +kernel
theorem dX2_indexOf_34 : decode cX2_indexOf 34 = .ok (.iconst (-1), 1) := by decide +kernel
theorem dX2_indexOf_35 : decode cX2_indexOf 35 = .ok (.ireturn, 1) := by decide +kernel
theorem dX2_massAbove_0 : decode cX2_massAbove 0 = .ok (.aload_n 0, 1) := by decide +kernel
theorem dX2_massAbove_1 : decode cX2_massAbove 1 = .ok (.iload_n 1, 1) := by decide +kernel
theorem dX2_massAbove_2 : decode cX2_massAbove 2 = .ok (.aload_n 0, 1) := by decide +kernel
theorem dX2_massAbove_3 : decode cX2_massAbove 3 = .ok (.getfield 21, 3) := by decide +kernel
theorem dX2_massAbove_6 : decode cX2_massAbove 6 = .ok (.invokevirtual 40, 3) := by decide +kernel
theorem dX2_massAbove_9 : decode cX2_massAbove 9 = .ok (.ireturn, 1) := by decide +kernel
theorem dX2_whyWithin_0 : decode cX2_whyWithin 0 = .ok (.iconst (-1), 1) := by decide +kernel
theorem dX2_whyWithin_1 : decode cX2_whyWithin 1 = .ok (.istore_n 2, 1) := by decide +kernel
theorem dX2_whyWithin_2 : decode cX2_whyWithin 2 = .ok (.iconst 0, 1) := by decide +kernel
theorem dX2_whyWithin_3 : decode cX2_whyWithin 3 = .ok (.istore_n 3, 1) := by decide +kernel
theorem dX2_whyWithin_4 : decode cX2_whyWithin 4 = .ok (.iconst 0, 1) := by decide +kernel
theorem dX2_whyWithin_5 : decode cX2_whyWithin 5 = .ok (.istore 4, 2) := by decide +kernel
theorem dX2_whyWithin_7 : decode cX2_whyWithin 7 = .ok (.iload_n 1, 1) := by decide +kernel
theorem dX2_whyWithin_8 : decode cX2_whyWithin 8 = .ok (.aload_n 0, 1) := by decide +kernel
theorem dX2_whyWithin_9 : decode cX2_whyWithin 9 = .ok (.getfield 21, 3) := by decide +kernel
theorem dX2_whyWithin_12 : decode cX2_whyWithin 12 = .ok (.invokestatic 43, 3) := by decide +kernel
theorem dX2_whyWithin_15 : decode cX2_whyWithin 15 = .ok (.iconst 1, 1) := by decide +kernel
theorem dX2_whyWithin_16 : decode cX2_whyWithin 16 = .ok (.isub, 1) := by decide +kernel
theorem dX2_whyWithin_17 : decode cX2_whyWithin 17 = .ok (.istore 5, 2) := by decide +kernel
theorem dX2_whyWithin_19 : decode cX2_whyWithin 19 = .ok (.iload 5, 2) := by decide +kernel
theorem dX2_whyWithin_21 : decode cX2_whyWithin 21 = .ok (.ifCond .lt 68, 3) := by decide +kernel
theorem dX2_whyWithin_24 : decode cX2_whyWithin 24 = .ok (.aload_n 0, 1) := by decide +kernel
theorem dX2_whyWithin_25 : decode cX2_whyWithin 25 = .ok (.getfield 11, 3) := by decide +kernel
theorem dX2_whyWithin_28 : decode cX2_whyWithin 28 = .ok (.iload 5, 2) := by decide +kernel
theorem dX2_whyWithin_30 : decode cX2_whyWithin 30 = .ok (.iaload, 1) := by decide +kernel
theorem dX2_whyWithin_31 : decode cX2_whyWithin 31 = .ok (.aload_n 0, 1) := by decide +kernel
theorem dX2_whyWithin_32 : decode cX2_whyWithin 32 = .ok (.getfield 18, 3) := by decide +kernel
theorem dX2_whyWithin_35 : decode cX2_whyWithin 35 = .ok (.iload 5, 2) := by decide +kernel
theorem dX2_whyWithin_37 : decode cX2_whyWithin 37 = .ok (.iaload, 1) := by decide +kernel
theorem dX2_whyWithin_38 : decode cX2_whyWithin 38 = .ok (.invokestatic 29, 3) := by decide +kernel
theorem dX2_whyWithin_41 : decode cX2_whyWithin 41 = .ok (.iload 4, 2) := by decide +kernel
theorem dX2_whyWithin_43 : decode cX2_whyWithin 43 = .ok (.invokestatic 37, 3) := by decide +kernel
theorem dX2_whyWithin_46 : decode cX2_whyWithin 46 = .ok (.istore 6, 2) := by decide +kernel
theorem dX2_whyWithin_48 : decode cX2_whyWithin 48 = .ok (.iload 6, 2) := by decide +kernel
theorem dX2_whyWithin_50 : decode cX2_whyWithin 50 = .ok (.iconst (-1), 1) := by decide +kernel
theorem dX2_whyWithin_51 : decode cX2_whyWithin 51 = .ok (.if_icmp .eq 20, 3) := by decide +kernel
theorem dX2_whyWithin_54 : decode cX2_whyWithin 54 = .ok (.iload_n 2, 1) := by decide +kernel
theorem dX2_whyWithin_55 : decode cX2_whyWithin 55 = .ok (.iconst (-1), 1) := by decide +kernel
theorem dX2_whyWithin_56 : decode cX2_whyWithin 56 = .ok (.if_icmp .eq 9, 3) := by decide +kernel
theorem dX2_whyWithin_59 : decode cX2_whyWithin 59 = .ok (.iload 6, 2) := by decide +kernel
theorem dX2_whyWithin_61 : decode cX2_whyWithin 61 = .ok (.iload_n 3, 1) := by decide +kernel
theorem dX2_whyWithin_62 : decode cX2_whyWithin 62 = .ok (.if_icmp .ge 9, 3) := by decide +kernel
theorem dX2_whyWithin_65 : decode cX2_whyWithin 65 = .ok (.iload 5, 2) := by decide +kernel
theorem dX2_whyWithin_67 : decode cX2_whyWithin 67 = .ok (.istore_n 2, 1) := by decide +kernel
theorem dX2_whyWithin_68 : decode cX2_whyWithin 68 = .ok (.iload 6, 2) := by decide +kernel
theorem dX2_whyWithin_70 : decode cX2_whyWithin 70 = .ok (.istore_n 3, 1) := by decide +kernel
theorem dX2_whyWithin_71 : decode cX2_whyWithin 71 = .ok (.iload 4, 2) := by decide +kernel
theorem dX2_whyWithin_73 : decode cX2_whyWithin 73 = .ok (.aload_n 0, 1) := by decide +kernel
theorem dX2_whyWithin_74 : decode cX2_whyWithin 74 = .ok (.getfield 15, 3) := by decide +kernel
theorem dX2_whyWithin_77 : decode cX2_whyWithin 77 = .ok (.iload 5, 2) := by decide +kernel
theorem dX2_whyWithin_79 : decode cX2_whyWithin 79 = .ok (.iaload, 1) := by decide +kernel
theorem dX2_whyWithin_80 : decode cX2_whyWithin 80 = .ok (.iadd, 1) := by decide +kernel
theorem dX2_whyWithin_81 : decode cX2_whyWithin 81 = .ok (.istore 4, 2) := by decide +kernel
theorem dX2_whyWithin_83 : decode cX2_whyWithin 83 = .ok (.iinc 5 (-1), 3) := by decide +kernel
theorem dX2_whyWithin_86 : decode cX2_whyWithin 86 = .ok (.goto (-67), 3) := by decide +kernel
theorem dX2_whyWithin_89 : decode cX2_whyWithin 89 = .ok (.iload_n 2, 1) := by decide +kernel
theorem dX2_whyWithin_90 : decode cX2_whyWithin 90 = .ok (.ireturn, 1) := by decide +kernel
theorem dX2_likelyWithin_0 : decode cX2_likelyWithin 0 = .ok (.aload_n 0, 1) := by decide +kernel
theorem dX2_likelyWithin_1 : decode cX2_likelyWithin 1 = .ok (.iload_n 1, 1) := by decide +kernel
theorem dX2_likelyWithin_2 : decode cX2_likelyWithin 2 = .ok (.invokevirtual 48, 3) := by decide +kernel
theorem dX2_likelyWithin_5 : decode cX2_likelyWithin 5 = .ok (.istore_n 2, 1) := by decide +kernel
theorem dX2_likelyWithin_6 : decode cX2_likelyWithin 6 = .ok (.aload_n 0, 1) := by decide +kernel
theorem dX2_likelyWithin_7 : decode cX2_likelyWithin 7 = .ok (.iload_n 2, 1) := by decide +kernel
theorem dX2_likelyWithin_8 : decode cX2_likelyWithin 8 = .ok (.invokevirtual 25, 3) := by decide +kernel
theorem dX2_likelyWithin_11 : decode cX2_likelyWithin 11 = .ok (.ifCond .ne 5, 3) := by decide +kernel
theorem dX2_likelyWithin_14 : decode cX2_likelyWithin 14 = .ok (.iconst 0, 1) := by decide +kernel
theorem dX2_likelyWithin_15 : decode cX2_likelyWithin 15 = .ok (.ireturn, 1) := by decide +kernel
theorem dX2_likelyWithin_16 : decode cX2_likelyWithin 16 = .ok (.aload_n 0, 1) := by decide +kernel
theorem dX2_likelyWithin_17 : decode cX2_likelyWithin 17 = .ok (.getfield 11, 3) := by decide +kernel
theorem dX2_likelyWithin_20 : decode cX2_likelyWithin 20 = .ok (.iload_n 2, 1) := by decide +kernel
theorem dX2_likelyWithin_21 : decode cX2_likelyWithin 21 = .ok (.iaload, 1) := by decide +kernel
theorem dX2_likelyWithin_22 : decode cX2_likelyWithin 22 = .ok (.aload_n 0, 1) := by decide +kernel
theorem dX2_likelyWithin_23 : decode cX2_likelyWithin 23 = .ok (.getfield 18, 3) := by decide +kernel
theorem dX2_likelyWithin_26 : decode cX2_likelyWithin 26 = .ok (.iload_n 2, 1) := by decide +kernel
theorem dX2_likelyWithin_27 : decode cX2_likelyWithin 27 = .ok (.iaload, 1) := by decide +kernel
theorem dX2_likelyWithin_28 : decode cX2_likelyWithin 28 = .ok (.invokestatic 29, 3) := by decide +kernel
theorem dX2_likelyWithin_31 : decode cX2_likelyWithin 31 = .ok (.aload_n 0, 1) := by decide +kernel
theorem dX2_likelyWithin_32 : decode cX2_likelyWithin 32 = .ok (.iload_n 2, 1) := by decide +kernel
theorem dX2_likelyWithin_33 : decode cX2_likelyWithin 33 = .ok (.iload_n 1, 1) := by decide +kernel
theorem dX2_likelyWithin_34 : decode cX2_likelyWithin 34 = .ok (.invokevirtual 40, 3) := by decide +kernel
theorem dX2_likelyWithin_37 : decode cX2_likelyWithin 37 = .ok (.invokestatic 37, 3) := by decide +kernel
theorem dX2_likelyWithin_40 : decode cX2_likelyWithin 40 = .ok (.istore_n 3, 1) := by decide +kernel
theorem dX2_likelyWithin_41 : decode cX2_likelyWithin 41 = .ok (.iload_n 3, 1) := by decide +kernel
theorem dX2_likelyWithin_42 : decode cX2_likelyWithin 42 = .ok (.bipush 100, 2) := by decide +kernel
theorem dX2_likelyWithin_44 : decode cX2_likelyWithin 44 = .ok (.if_icmp .ge 5, 3) := by decide +kernel
theorem dX2_likelyWithin_47 : decode cX2_likelyWithin 47 = .ok (.iconst 3, 1) := by decide +kernel
theorem dX2_likelyWithin_48 : decode cX2_likelyWithin 48 = .ok (.ireturn, 1) := by decide +kernel
theorem dX2_likelyWithin_49 : decode cX2_likelyWithin 49 = .ok (.iload_n 3, 1) := by decide +kernel
theorem dX2_likelyWithin_50 : decode cX2_likelyWithin 50 = .ok (.sipush 150, 3) := by decide +kernel
theorem dX2_likelyWithin_53 : decode cX2_likelyWithin 53 = .ok (.if_icmp .ge 5, 3) := by decide +kernel
theorem dX2_likelyWithin_56 : decode cX2_likelyWithin 56 = .ok (.iconst 2, 1) := by decide +kernel
theorem dX2_likelyWithin_57 : decode cX2_likelyWithin 57 = .ok (.ireturn, 1) := by decide +kernel
theorem dX2_likelyWithin_58 : decode cX2_likelyWithin 58 = .ok (.iload_n 3, 1) := by decide +kernel
theorem dX2_likelyWithin_59 : decode cX2_likelyWithin 59 = .ok (.sipush 300, 3) := by decide +kernel
theorem dX2_likelyWithin_62 : decode cX2_likelyWithin 62 = .ok (.if_icmp .ge 7, 3) := by decide +kernel
theorem dX2_likelyWithin_65 : decode cX2_likelyWithin 65 = .ok (.iconst 1, 1) := by decide +kernel
theorem dX2_likelyWithin_66 : decode cX2_likelyWithin 66 = .ok (.goto 4, 3) := by decide +kernel
theorem dX2_likelyWithin_69 : decode cX2_likelyWithin 69 = .ok (.iconst 0, 1) := by decide +kernel
theorem dX2_likelyWithin_70 : decode cX2_likelyWithin 70 = .ok (.ireturn, 1) := by decide +kernel
theorem dX2_sizeWithin_0 : decode cX2_sizeWithin 0 = .ok (.aload_n 0, 1) := by decide +kernel
theorem dX2_sizeWithin_1 : decode cX2_sizeWithin 1 = .ok (.iload_n 1, 1) := by decide +kernel
theorem dX2_sizeWithin_2 : decode cX2_sizeWithin 2 = .ok (.invokevirtual 48, 3) := by decide +kernel
theorem dX2_sizeWithin_5 : decode cX2_sizeWithin 5 = .ok (.istore_n 2, 1) := by decide +kernel
theorem dX2_sizeWithin_6 : decode cX2_sizeWithin 6 = .ok (.iload_n 2, 1) := by decide +kernel
theorem dX2_sizeWithin_7 : decode cX2_sizeWithin 7 = .ok (.iconst (-1), 1) := by decide +kernel
theorem dX2_sizeWithin_8 : decode cX2_sizeWithin 8 = .ok (.if_icmp .ne 7, 3) := by decide +kernel
theorem dX2_sizeWithin_11 : decode cX2_sizeWithin 11 = .ok (.iconst 0, 1) := by decide +kernel
theorem dX2_sizeWithin_12 : decode cX2_sizeWithin 12 = .ok (.goto 9, 3) := by decide +kernel
theorem dX2_sizeWithin_15 : decode cX2_sizeWithin 15 = .ok (.aload_n 0, 1) := by decide +kernel
theorem dX2_sizeWithin_16 : decode cX2_sizeWithin 16 = .ok (.iload_n 2, 1) := by decide +kernel
theorem dX2_sizeWithin_17 : decode cX2_sizeWithin 17 = .ok (.iload_n 1, 1) := by decide +kernel
theorem dX2_sizeWithin_18 : decode cX2_sizeWithin 18 = .ok (.invokevirtual 40, 3) := by decide +kernel
theorem dX2_sizeWithin_21 : decode cX2_sizeWithin 21 = .ok (.istore_n 3, 1) := by decide +kernel
theorem dX2_sizeWithin_22 : decode cX2_sizeWithin 22 = .ok (.iload_n 3, 1) := by decide +kernel
theorem dX2_sizeWithin_23 : decode cX2_sizeWithin 23 = .ok (.sipush 500, 3) := by decide +kernel
theorem dX2_sizeWithin_26 : decode cX2_sizeWithin 26 = .ok (.if_icmp .lt 5, 3) := by decide +kernel
theorem dX2_sizeWithin_29 : decode cX2_sizeWithin 29 = .ok (.iconst 2, 1) := by decide +kernel
theorem dX2_sizeWithin_30 : decode cX2_sizeWithin 30 = .ok (.ireturn, 1) := by decide +kernel
theorem dX2_sizeWithin_31 : decode cX2_sizeWithin 31 = .ok (.iload_n 3, 1) := by decide +kernel
theorem dX2_sizeWithin_32 : decode cX2_sizeWithin 32 = .ok (.sipush 200, 3) := by decide +kernel
theorem dX2_sizeWithin_35 : decode cX2_sizeWithin 35 = .ok (.if_icmp .lt 7, 3) := by decide +kernel
theorem dX2_sizeWithin_38 : decode cX2_sizeWithin 38 = .ok (.iconst 1, 1) := by decide +kernel
theorem dX2_sizeWithin_39 : decode cX2_sizeWithin 39 = .ok (.goto 4, 3) := by decide +kernel
theorem dX2_sizeWithin_42 : decode cX2_sizeWithin 42 = .ok (.iconst 0, 1) := by decide +kernel
theorem dX2_sizeWithin_43 : decode cX2_sizeWithin 43 = .ok (.ireturn, 1) := by decide +kernel
theorem dX2_reaches_0 : decode cX2_reaches 0 = .ok (.aload_n 0, 1) := by decide +kernel
theorem dX2_reaches_1 : decode cX2_reaches 1 = .ok (.iload_n 2, 1) := by decide +kernel
theorem dX2_reaches_2 : decode cX2_reaches 2 = .ok (.invokevirtual 51, 3) := by decide +kernel
theorem dX2_reaches_5 : decode cX2_reaches 5 = .ok (.iconst 2, 1) := by decide +kernel
theorem dX2_reaches_6 : decode cX2_reaches 6 = .ok (.if_icmp .lt 16, 3) := by decide +kernel
theorem dX2_reaches_9 : decode cX2_reaches 9 = .ok (.aload_n 0, 1) := by decide +kernel
theorem dX2_reaches_10 : decode cX2_reaches 10 = .ok (.iload_n 2, 1) := by decide +kernel
theorem dX2_reaches_11 : decode cX2_reaches 11 = .ok (.invokevirtual 54, 3) := by decide +kernel
theorem dX2_reaches_14 : decode cX2_reaches 14 = .ok (.iload_n 1, 1) := by decide +kernel
theorem dX2_reaches_15 : decode cX2_reaches 15 = .ok (.if_icmp .lt 7, 3) := by decide +kernel
theorem dX2_reaches_18 : decode cX2_reaches 18 = .ok (.iconst 1, 1) := by decide +kernel
theorem dX2_reaches_19 : decode cX2_reaches 19 = .ok (.goto 4, 3) := by decide +kernel
theorem dX2_reaches_22 : decode cX2_reaches 22 = .ok (.iconst 0, 1) := by decide +kernel
theorem dX2_reaches_23 : decode cX2_reaches 23 = .ok (.ireturn, 1) := by decide +kernel
theorem dX2_growOlder_0 : decode cX2_growOlder 0 = .ok (.iconst 0, 1) := by decide +kernel
theorem dX2_growOlder_1 : decode cX2_growOlder 1 = .ok (.istore_n 1, 1) := by decide +kernel
theorem dX2_growOlder_2 : decode cX2_growOlder 2 = .ok (.iload_n 1, 1) := by decide +kernel
theorem dX2_growOlder_3 : decode cX2_growOlder 3 = .ok (.aload_n 0, 1) := by decide +kernel
theorem dX2_growOlder_4 : decode cX2_growOlder 4 = .ok (.getfield 21, 3) := by decide +kernel
theorem dX2_growOlder_7 : decode cX2_growOlder 7 = .ok (.if_icmp .ge 19, 3) := by decide +kernel
theorem dX2_growOlder_10 : decode cX2_growOlder 10 = .ok (.aload_n 0, 1) := by decide +kernel
theorem dX2_growOlder_11 : decode cX2_growOlder 11 = .ok (.getfield 18, 3) := by decide +kernel
theorem dX2_growOlder_14 : decode cX2_growOlder 14 = .ok (.iload_n 1, 1) := by decide +kernel
theorem dX2_growOlder_15 : decode cX2_growOlder 15 = .ok (.dup2, 1) := by decide +kernel
theorem dX2_growOlder_16 : decode cX2_growOlder 16 = .ok (.iaload, 1) := by decide +kernel
theorem dX2_growOlder_17 : decode cX2_growOlder 17 = .ok (.iconst 1, 1) := by decide +kernel
theorem dX2_growOlder_18 : decode cX2_growOlder 18 = .ok (.iadd, 1) := by decide +kernel
theorem dX2_growOlder_19 : decode cX2_growOlder 19 = .ok (.iastore, 1) := by decide +kernel
theorem dX2_growOlder_20 : decode cX2_growOlder 20 = .ok (.iinc 1 1, 3) := by decide +kernel
theorem dX2_growOlder_23 : decode cX2_growOlder 23 = .ok (.goto (-21), 3) := by decide +kernel
theorem dX2_growOlder_26 : decode cX2_growOlder 26 = .ok (.return_, 1) := by decide +kernel
theorem dX2_addNew_0 : decode cX2_addNew 0 = .ok (.iload_n 1, 1) := by decide +kernel
theorem dX2_addNew_1 : decode cX2_addNew 1 = .ok (.ifCond .gt 4, 3) := by decide +kernel
theorem dX2_addNew_4 : decode cX2_addNew 4 = .ok (.return_, 1) := by decide +kernel
theorem dX2_addNew_5 : decode cX2_addNew 5 = .ok (.aload_n 0, 1) := by decide +kernel
theorem dX2_addNew_6 : decode cX2_addNew 6 = .ok (.getfield 21, 3) := by decide +kernel
theorem dX2_addNew_9 : decode cX2_addNew 9 = .ok (.bipush 10, 2) := by decide +kernel
theorem dX2_addNew_11 : decode cX2_addNew 11 = .ok (.if_icmp .lt 7, 3) := by decide +kernel
theorem dX2_addNew_14 : decode cX2_addNew 14 = .ok (.aload_n 0, 1) := by decide +kernel
theorem dX2_addNew_15 : decode cX2_addNew 15 = .ok (.invokevirtual 57, 3) := by decide +kernel
theorem dX2_addNew_18 : decode cX2_addNew 18 = .ok (.aload_n 0, 1) := by decide +kernel
theorem dX2_addNew_19 : decode cX2_addNew 19 = .ok (.getfield 11, 3) := by decide +kernel
theorem dX2_addNew_22 : decode cX2_addNew 22 = .ok (.aload_n 0, 1) := by decide +kernel
theorem dX2_addNew_23 : decode cX2_addNew 23 = .ok (.getfield 21, 3) := by decide +kernel
theorem dX2_addNew_26 : decode cX2_addNew 26 = .ok (.iconst 0, 1) := by decide +kernel
theorem dX2_addNew_27 : decode cX2_addNew 27 = .ok (.iastore, 1) := by decide +kernel
theorem dX2_addNew_28 : decode cX2_addNew 28 = .ok (.aload_n 0, 1) := by decide +kernel
theorem dX2_addNew_29 : decode cX2_addNew 29 = .ok (.getfield 15, 3) := by decide +kernel
theorem dX2_addNew_32 : decode cX2_addNew 32 = .ok (.aload_n 0, 1) := by decide +kernel
theorem dX2_addNew_33 : decode cX2_addNew 33 = .ok (.getfield 21, 3) := by decide +kernel
theorem dX2_addNew_36 : decode cX2_addNew 36 = .ok (.iload_n 1, 1) := by decide +kernel
theorem dX2_addNew_37 : decode cX2_addNew 37 = .ok (.iastore, 1) := by decide +kernel
theorem dX2_addNew_38 : decode cX2_addNew 38 = .ok (.aload_n 0, 1) := by decide +kernel
theorem dX2_addNew_39 : decode cX2_addNew 39 = .ok (.getfield 18, 3) := by decide +kernel
theorem dX2_addNew_42 : decode cX2_addNew 42 = .ok (.aload_n 0, 1) := by decide +kernel
theorem dX2_addNew_43 : decode cX2_addNew 43 = .ok (.getfield 21, 3) := by decide +kernel
theorem dX2_addNew_46 : decode cX2_addNew 46 = .ok (.iconst 0, 1) := by decide +kernel
theorem dX2_addNew_47 : decode cX2_addNew 47 = .ok (.iastore, 1) := by decide +kernel
theorem dX2_addNew_48 : decode cX2_addNew 48 = .ok (.aload_n 0, 1) := by decide +kernel
theorem dX2_addNew_49 : decode cX2_addNew 49 = .ok (.dup, 1) := by decide +kernel
theorem dX2_addNew_50 : decode cX2_addNew 50 = .ok (.getfield 21, 3) := by decide +kernel
theorem dX2_addNew_53 : decode cX2_addNew 53 = .ok (.iconst 1, 1) := by decide +kernel
theorem dX2_addNew_54 : decode cX2_addNew 54 = .ok (.iadd, 1) := by decide +kernel
theorem dX2_addNew_55 : decode cX2_addNew 55 = .ok (.putfield 21, 3) := by decide +kernel
theorem dX2_addNew_58 : decode cX2_addNew 58 = .ok (.return_, 1) := by decide +kernel
theorem dX2_giveToWind_0 : decode cX2_giveToWind 0 = .ok (.aload_n 0, 1) := by decide +kernel
theorem dX2_giveToWind_1 : decode cX2_giveToWind 1 = .ok (.invokevirtual 60, 3) := by decide +kernel
theorem dX2_giveToWind_4 : decode cX2_giveToWind 4 = .ok (.ifCond .ne 5, 3) := by decide +kernel
theorem dX2_giveToWind_7 : decode cX2_giveToWind 7 = .ok (.iconst 0, 1) := by decide +kernel
theorem dX2_giveToWind_8 : decode cX2_giveToWind 8 = .ok (.ireturn, 1) := by decide +kernel
theorem dX2_giveToWind_9 : decode cX2_giveToWind 9 = .ok (.aload_n 0, 1) := by decide +kernel
theorem dX2_giveToWind_10 : decode cX2_giveToWind 10 = .ok (.getfield 15, 3) := by decide +kernel
theorem dX2_giveToWind_13 : decode cX2_giveToWind 13 = .ok (.aload_n 0, 1) := by decide +kernel
theorem dX2_giveToWind_14 : decode cX2_giveToWind 14 = .ok (.getfield 21, 3) := by decide +kernel
theorem dX2_giveToWind_17 : decode cX2_giveToWind 17 = .ok (.iconst 1, 1) := by decide +kernel
theorem dX2_giveToWind_18 : decode cX2_giveToWind 18 = .ok (.isub, 1) := by decide +kernel
theorem dX2_giveToWind_19 : decode cX2_giveToWind 19 = .ok (.iaload, 1) := by decide +kernel
theorem dX2_giveToWind_20 : decode cX2_giveToWind 20 = .ok (.iload_n 1, 1) := by decide +kernel
theorem dX2_giveToWind_21 : decode cX2_giveToWind 21 = .ok (.imul, 1) := by decide +kernel
theorem dX2_giveToWind_22 : decode cX2_giveToWind 22 = .ok (.bipush 100, 2) := by decide +kernel
theorem dX2_giveToWind_24 : decode cX2_giveToWind 24 = .ok (.idiv, 1) := by decide +kernel
theorem dX2_giveToWind_25 : decode cX2_giveToWind 25 = .ok (.istore_n 2, 1) := by decide +kernel
theorem dX2_giveToWind_26 : decode cX2_giveToWind 26 = .ok (.aload_n 0, 1) := by decide +kernel
theorem dX2_giveToWind_27 : decode cX2_giveToWind 27 = .ok (.getfield 15, 3) := by decide +kernel
theorem dX2_giveToWind_30 : decode cX2_giveToWind 30 = .ok (.aload_n 0, 1) := by decide +kernel
theorem dX2_giveToWind_31 : decode cX2_giveToWind 31 = .ok (.getfield 21, 3) := by decide +kernel
theorem dX2_giveToWind_34 : decode cX2_giveToWind 34 = .ok (.iconst 1, 1) := by decide +kernel
theorem dX2_giveToWind_35 : decode cX2_giveToWind 35 = .ok (.isub, 1) := by decide +kernel
theorem dX2_giveToWind_36 : decode cX2_giveToWind 36 = .ok (.dup2, 1) := by decide +kernel
theorem dX2_giveToWind_37 : decode cX2_giveToWind 37 = .ok (.iaload, 1) := by decide +kernel
theorem dX2_giveToWind_38 : decode cX2_giveToWind 38 = .ok (.iload_n 2, 1) := by decide +kernel
theorem dX2_giveToWind_39 : decode cX2_giveToWind 39 = .ok (.isub, 1) := by decide +kernel
theorem dX2_giveToWind_40 : decode cX2_giveToWind 40 = .ok (.iastore, 1) := by decide +kernel
theorem dX2_giveToWind_41 : decode cX2_giveToWind 41 = .ok (.iload_n 2, 1) := by decide +kernel
theorem dX2_giveToWind_42 : decode cX2_giveToWind 42 = .ok (.ireturn, 1) := by decide +kernel
theorem dX2_takeFromWind_0 : decode cX2_takeFromWind 0 = .ok (.aload_n 0, 1) := by decide +kernel
theorem dX2_takeFromWind_1 : decode cX2_takeFromWind 1 = .ok (.invokevirtual 60, 3) := by decide +kernel
theorem dX2_takeFromWind_4 : decode cX2_takeFromWind 4 = .ok (.ifCond .eq 21, 3) := by decide +kernel
theorem dX2_takeFromWind_7 : decode cX2_takeFromWind 7 = .ok (.aload_n 0, 1) := by decide +kernel
theorem dX2_takeFromWind_8 : decode cX2_takeFromWind 8 = .ok (.getfield 15, 3) := by decide +kernel
theorem dX2_takeFromWind_11 : decode cX2_takeFromWind 11 = .ok (.aload_n 0, 1) := by decide +kernel
theorem dX2_takeFromWind_12 : decode cX2_takeFromWind 12 = .ok (.getfield 21, 3) := by decide +kernel
theorem dX2_takeFromWind_15 : decode cX2_takeFromWind 15 = .ok (.iconst 1, 1) := by decide +kernel
theorem dX2_takeFromWind_16 : decode cX2_takeFromWind 16 = .ok (.isub, 1) := by decide +kernel
theorem dX2_takeFromWind_17 : decode cX2_takeFromWind 17 = .ok (.dup2, 1) := by decide +kernel
theorem dX2_takeFromWind_18 : decode cX2_takeFromWind 18 = .ok (.iaload, 1) := by decide +kernel
theorem dX2_takeFromWind_19 : decode cX2_takeFromWind 19 = .ok (.iload_n 1, 1) := by decide +kernel
theorem dX2_takeFromWind_20 : decode cX2_takeFromWind 20 = .ok (.iadd, 1) := by decide +kernel
theorem dX2_takeFromWind_21 : decode cX2_takeFromWind 21 = .ok (.iastore, 1) := by decide +kernel
theorem dX2_takeFromWind_22 : decode cX2_takeFromWind 22 = .ok (.goto 8, 3) := by decide +kernel
theorem dX2_takeFromWind_25 : decode cX2_takeFromWind 25 = .ok (.aload_n 0, 1) := by decide +kernel
theorem dX2_takeFromWind_26 : decode cX2_takeFromWind 26 = .ok (.iload_n 1, 1) := by decide +kernel
theorem dX2_takeFromWind_27 : decode cX2_takeFromWind 27 = .ok (.invokevirtual 64, 3) := by decide +kernel
theorem dX2_takeFromWind_30 : decode cX2_takeFromWind 30 = .ok (.return_, 1) := by decide +kernel
theorem dX2_changeKinds_0 : decode cX2_changeKinds 0 = .ok (.iconst 0, 1) := by decide +kernel
theorem dX2_changeKinds_1 : decode cX2_changeKinds 1 = .ok (.istore_n 2, 1) := by decide +kernel
theorem dX2_changeKinds_2 : decode cX2_changeKinds 2 = .ok (.iload_n 2, 1) := by decide +kernel
theorem dX2_changeKinds_3 : decode cX2_changeKinds 3 = .ok (.aload_n 0, 1) := by decide +kernel
theorem dX2_changeKinds_4 : decode cX2_changeKinds 4 = .ok (.getfield 21, 3) := by decide +kernel
theorem dX2_changeKinds_7 : decode cX2_changeKinds 7 = .ok (.if_icmp .ge 95, 3) := by decide +kernel
theorem dX2_changeKinds_10 : decode cX2_changeKinds 10 = .ok (.aload_n 0, 1) := by decide +kernel
theorem dX2_changeKinds_11 : decode cX2_changeKinds 11 = .ok (.getfield 11, 3) := by decide +kernel
theorem dX2_changeKinds_14 : decode cX2_changeKinds 14 = .ok (.iload_n 2, 1) := by decide +kernel
theorem dX2_changeKinds_15 : decode cX2_changeKinds 15 = .ok (.iaload, 1) := by decide +kernel
theorem dX2_changeKinds_16 : decode cX2_changeKinds 16 = .ok (.ifCond .ne 52, 3) := by decide +kernel
theorem dX2_changeKinds_19 : decode cX2_changeKinds 19 = .ok (.aload_n 0, 1) := by decide +kernel
theorem dX2_changeKinds_20 : decode cX2_changeKinds 20 = .ok (.getfield 18, 3) := by decide +kernel
theorem dX2_changeKinds_23 : decode cX2_changeKinds 23 = .ok (.iload_n 2, 1) := by decide +kernel
theorem dX2_changeKinds_24 : decode cX2_changeKinds 24 = .ok (.iaload, 1) := by decide +kernel
theorem dX2_changeKinds_25 : decode cX2_changeKinds 25 = .ok (.iconst 3, 1) := by decide +kernel
theorem dX2_changeKinds_26 : decode cX2_changeKinds 26 = .ok (.if_icmp .lt 42, 3) := by decide +kernel
theorem dX2_changeKinds_29 : decode cX2_changeKinds 29 = .ok (.iload_n 1, 1) := by decide +kernel
theorem dX2_changeKinds_30 : decode cX2_changeKinds 30 = .ok (.bipush (-8), 2) := by decide +kernel
theorem dX2_changeKinds_32 : decode cX2_changeKinds 32 = .ok (.if_icmp .gt 19, 3) := by decide +kernel
theorem dX2_changeKinds_35 : decode cX2_changeKinds 35 = .ok (.aload_n 0, 1) := by decide +kernel
theorem dX2_changeKinds_36 : decode cX2_changeKinds 36 = .ok (.getfield 15, 3) := by decide +kernel
theorem dX2_changeKinds_39 : decode cX2_changeKinds 39 = .ok (.iload_n 2, 1) := by decide +kernel
theorem dX2_changeKinds_40 : decode cX2_changeKinds 40 = .ok (.iaload, 1) := by decide +kernel
theorem dX2_changeKinds_41 : decode cX2_changeKinds 41 = .ok (.sipush 300, 3) := by decide +kernel
theorem dX2_changeKinds_44 : decode cX2_changeKinds 44 = .ok (.if_icmp .ge 7, 3) := by decide +kernel
theorem dX2_changeKinds_47 : decode cX2_changeKinds 47 = .ok (.iconst 1, 1) := by decide +kernel
theorem dX2_changeKinds_48 : decode cX2_changeKinds 48 = .ok (.goto 4, 3) := by decide +kernel
theorem dX2_changeKinds_51 : decode cX2_changeKinds 51 = .ok (.iconst 0, 1) := by decide +kernel
theorem dX2_changeKinds_52 : decode cX2_changeKinds 52 = .ok (.istore_n 3, 1) := by decide +kernel
theorem dX2_changeKinds_53 : decode cX2_changeKinds 53 = .ok (.aload_n 0, 1) := by decide +kernel
theorem dX2_changeKinds_54 : decode cX2_changeKinds 54 = .ok (.getfield 11, 3) := by decide +kernel
theorem dX2_changeKinds_57 : decode cX2_changeKinds 57 = .ok (.iload_n 2, 1) := by decide +kernel
theorem dX2_changeKinds_58 : decode cX2_changeKinds 58 = .ok (.iload_n 3, 1) := by decide +kernel
theorem dX2_changeKinds_59 : decode cX2_changeKinds 59 = .ok (.ifCond .eq 7, 3) := by decide +kernel
theorem dX2_changeKinds_62 : decode cX2_changeKinds 62 = .ok (.iconst 2, 1) := by decide +kernel
theorem dX2_changeKinds_63 : decode cX2_changeKinds 63 = .ok (.goto 4, 3) := by decide +kernel
theorem dX2_changeKinds_66 : decode cX2_changeKinds 66 = .ok (.iconst 1, 1) := by decide +kernel
theorem dX2_changeKinds_67 : decode cX2_changeKinds 67 = .ok (.iastore, 1) := by decide +kernel
theorem dX2_changeKinds_68 : decode cX2_changeKinds 68 = .ok (.aload_n 0, 1) := by decide +kernel
theorem dX2_changeKinds_69 : decode cX2_changeKinds 69 = .ok (.getfield 11, 3) := by decide +kernel
theorem dX2_changeKinds_72 : decode cX2_changeKinds 72 = .ok (.iload_n 2, 1) := by decide +kernel
theorem dX2_changeKinds_73 : decode cX2_changeKinds 73 = .ok (.iaload, 1) := by decide +kernel
theorem dX2_changeKinds_74 : decode cX2_changeKinds 74 = .ok (.iconst 2, 1) := by decide +kernel
theorem dX2_changeKinds_75 : decode cX2_changeKinds 75 = .ok (.if_icmp .ne 21, 3) := by decide +kernel
theorem dX2_changeKinds_78 : decode cX2_changeKinds 78 = .ok (.aload_n 0, 1) := by decide +kernel
theorem dX2_changeKinds_79 : decode cX2_changeKinds 79 = .ok (.getfield 18, 3) := by decide +kernel
theorem dX2_changeKinds_82 : decode cX2_changeKinds 82 = .ok (.iload_n 2, 1) := by decide +kernel
theorem dX2_changeKinds_83 : decode cX2_changeKinds 83 = .ok (.iaload, 1) := by decide +kernel
theorem dX2_changeKinds_84 : decode cX2_changeKinds 84 = .ok (.bipush 20, 2) := by decide +kernel
theorem dX2_changeKinds_86 : decode cX2_changeKinds 86 = .ok (.if_icmp .lt 10, 3) := by decide +kernel
theorem dX2_changeKinds_89 : decode cX2_changeKinds 89 = .ok (.aload_n 0, 1) := by decide +kernel
theorem dX2_changeKinds_90 : decode cX2_changeKinds 90 = .ok (.getfield 11, 3) := by decide +kernel
theorem dX2_changeKinds_93 : decode cX2_changeKinds 93 = .ok (.iload_n 2, 1) := by decide +kernel
theorem dX2_changeKinds_94 : decode cX2_changeKinds 94 = .ok (.iconst 1, 1) := by decide +kernel
theorem dX2_changeKinds_95 : decode cX2_changeKinds 95 = .ok (.iastore, 1) := by decide +kernel
theorem dX2_changeKinds_96 : decode cX2_changeKinds 96 = .ok (.iinc 2 1, 3) := by decide +kernel
theorem dX2_changeKinds_99 : decode cX2_changeKinds 99 = .ok (.goto (-97), 3) := by decide +kernel
theorem dX2_changeKinds_102 : decode cX2_changeKinds 102 = .ok (.return_, 1) := by decide +kernel
theorem dX2_melt_0 : decode cX2_melt 0 = .ok (.iload_n 1, 1) := by decide +kernel
theorem dX2_melt_1 : decode cX2_melt 1 = .ok (.ifCond .gt 5, 3) := by decide +kernel
theorem dX2_melt_4 : decode cX2_melt 4 = .ok (.iconst 0, 1) := by decide +kernel
theorem dX2_melt_5 : decode cX2_melt 5 = .ok (.ireturn, 1) := by decide +kernel
theorem dX2_melt_6 : decode cX2_melt 6 = .ok (.bipush 6, 2) := by decide +kernel
theorem dX2_melt_8 : decode cX2_melt 8 = .ok (.iload_n 1, 1) := by decide +kernel
theorem dX2_melt_9 : decode cX2_melt 9 = .ok (.imul, 1) := by decide +kernel
theorem dX2_melt_10 : decode cX2_melt 10 = .ok (.istore_n 2, 1) := by decide +kernel
theorem dX2_melt_11 : decode cX2_melt 11 = .ok (.iload_n 2, 1) := by decide +kernel
theorem dX2_melt_12 : decode cX2_melt 12 = .ok (.istore_n 3, 1) := by decide +kernel
theorem dX2_melt_13 : decode cX2_melt 13 = .ok (.aload_n 0, 1) := by decide +kernel
theorem dX2_melt_14 : decode cX2_melt 14 = .ok (.getfield 21, 3) := by decide +kernel
theorem dX2_melt_17 : decode cX2_melt 17 = .ok (.ifCond .le 45, 3) := by decide +kernel
theorem dX2_melt_20 : decode cX2_melt 20 = .ok (.iload_n 3, 1) := by decide +kernel
theorem dX2_melt_21 : decode cX2_melt 21 = .ok (.aload_n 0, 1) := by decide +kernel
theorem dX2_melt_22 : decode cX2_melt 22 = .ok (.getfield 15, 3) := by decide +kernel
theorem dX2_melt_25 : decode cX2_melt 25 = .ok (.aload_n 0, 1) := by decide +kernel
theorem dX2_melt_26 : decode cX2_melt 26 = .ok (.getfield 21, 3) := by decide +kernel
theorem dX2_melt_29 : decode cX2_melt 29 = .ok (.iconst 1, 1) := by decide +kernel
theorem dX2_melt_30 : decode cX2_melt 30 = .ok (.isub, 1) := by decide +kernel
theorem dX2_melt_31 : decode cX2_melt 31 = .ok (.iaload, 1) := by decide +kernel
theorem dX2_melt_32 : decode cX2_melt 32 = .ok (.if_icmp .lt 30, 3) := by decide +kernel
theorem dX2_melt_35 : decode cX2_melt 35 = .ok (.iload_n 3, 1) := by decide +kernel
theorem dX2_melt_36 : decode cX2_melt 36 = .ok (.aload_n 0, 1) := by decide +kernel
theorem dX2_melt_37 : decode cX2_melt 37 = .ok (.getfield 15, 3) := by decide +kernel
theorem dX2_melt_40 : decode cX2_melt 40 = .ok (.aload_n 0, 1) := by decide +kernel
theorem dX2_melt_41 : decode cX2_melt 41 = .ok (.getfield 21, 3) := by decide +kernel
theorem dX2_melt_44 : decode cX2_melt 44 = .ok (.iconst 1, 1) := by decide +kernel
theorem dX2_melt_45 : decode cX2_melt 45 = .ok (.isub, 1) := by decide +kernel
theorem dX2_melt_46 : decode cX2_melt 46 = .ok (.iaload, 1) := by decide +kernel
theorem dX2_melt_47 : decode cX2_melt 47 = .ok (.isub, 1) := by decide +kernel
theorem dX2_melt_48 : decode cX2_melt 48 = .ok (.istore_n 3, 1) := by decide +kernel
theorem dX2_melt_49 : decode cX2_melt 49 = .ok (.aload_n 0, 1) := by decide +kernel
theorem dX2_melt_50 : decode cX2_melt 50 = .ok (.dup, 1) := by decide +kernel
theorem dX2_melt_51 : decode cX2_melt 51 = .ok (.getfield 21, 3) := by decide +kernel
theorem dX2_melt_54 : decode cX2_melt 54 = .ok (.iconst 1, 1) := by decide +kernel
theorem dX2_melt_55 : decode cX2_melt 55 = .ok (.isub, 1) := by decide +kernel
theorem dX2_melt_56 : decode cX2_melt 56 = .ok (.putfield 21, 3) := by decide +kernel
theorem dX2_melt_59 : decode cX2_melt 59 = .ok (.goto (-46), 3) := by decide +kernel
theorem dX2_melt_62 : decode cX2_melt 62 = .ok (.aload_n 0, 1) := by decide +kernel
theorem dX2_melt_63 : decode cX2_melt 63 = .ok (.getfield 21, 3) := by decide +kernel
theorem dX2_melt_66 : decode cX2_melt 66 = .ok (.ifCond .ne 7, 3) := by decide +kernel
theorem dX2_melt_69 : decode cX2_melt 69 = .ok (.iload_n 2, 1) := by decide +kernel
theorem dX2_melt_70 : decode cX2_melt 70 = .ok (.iload_n 3, 1) := by decide +kernel
theorem dX2_melt_71 : decode cX2_melt 71 = .ok (.isub, 1) := by decide +kernel
theorem dX2_melt_72 : decode cX2_melt 72 = .ok (.ireturn, 1) := by decide +kernel
theorem dX2_melt_73 : decode cX2_melt 73 = .ok (.aload_n 0, 1) := by decide +kernel
theorem dX2_melt_74 : decode cX2_melt 74 = .ok (.getfield 15, 3) := by decide +kernel
theorem dX2_melt_77 : decode cX2_melt 77 = .ok (.aload_n 0, 1) := by decide +kernel
theorem dX2_melt_78 : decode cX2_melt 78 = .ok (.getfield 21, 3) := by decide +kernel
theorem dX2_melt_81 : decode cX2_melt 81 = .ok (.iconst 1, 1) := by decide +kernel
theorem dX2_melt_82 : decode cX2_melt 82 = .ok (.isub, 1) := by decide +kernel
theorem dX2_melt_83 : decode cX2_melt 83 = .ok (.dup2, 1) := by decide +kernel
theorem dX2_melt_84 : decode cX2_melt 84 = .ok (.iaload, 1) := by decide +kernel
theorem dX2_melt_85 : decode cX2_melt 85 = .ok (.iload_n 3, 1) := by decide +kernel
theorem dX2_melt_86 : decode cX2_melt 86 = .ok (.isub, 1) := by decide +kernel
theorem dX2_melt_87 : decode cX2_melt 87 = .ok (.iastore, 1) := by decide +kernel
theorem dX2_melt_88 : decode cX2_melt 88 = .ok (.aload_n 0, 1) := by decide +kernel
theorem dX2_melt_89 : decode cX2_melt 89 = .ok (.getfield 11, 3) := by decide +kernel
theorem dX2_melt_92 : decode cX2_melt 92 = .ok (.aload_n 0, 1) := by decide +kernel
theorem dX2_melt_93 : decode cX2_melt 93 = .ok (.getfield 21, 3) := by decide +kernel
theorem dX2_melt_96 : decode cX2_melt 96 = .ok (.iconst 1, 1) := by decide +kernel
theorem dX2_melt_97 : decode cX2_melt 97 = .ok (.isub, 1) := by decide +kernel
theorem dX2_melt_98 : decode cX2_melt 98 = .ok (.iconst 3, 1) := by decide +kernel
theorem dX2_melt_99 : decode cX2_melt 99 = .ok (.iastore, 1) := by decide +kernel
theorem dX2_melt_100 : decode cX2_melt 100 = .ok (.iload_n 2, 1) := by decide +kernel
theorem dX2_melt_101 : decode cX2_melt 101 = .ok (.ireturn, 1) := by decide +kernel
theorem dX2_removeAbove_0 : decode cX2_removeAbove 0 = .ok (.aload_n 0, 1) := by decide +kernel
theorem dX2_removeAbove_1 : decode cX2_removeAbove 1 = .ok (.iload_n 1, 1) := by decide +kernel
theorem dX2_removeAbove_2 : decode cX2_removeAbove 2 = .ok (.invokevirtual 25, 3) := by decide +kernel
theorem dX2_removeAbove_5 : decode cX2_removeAbove 5 = .ok (.ifCond .ne 5, 3) := by decide +kernel
theorem dX2_removeAbove_8 : decode cX2_removeAbove 8 = .ok (.iconst 0, 1) := by decide +kernel
theorem dX2_removeAbove_9 : decode cX2_removeAbove 9 = .ok (.ireturn, 1) := by decide +kernel
theorem dX2_removeAbove_10 : decode cX2_removeAbove 10 = .ok (.aload_n 0, 1) := by decide +kernel
theorem dX2_removeAbove_11 : decode cX2_removeAbove 11 = .ok (.iload_n 1, 1) := by decide +kernel
theorem dX2_removeAbove_12 : decode cX2_removeAbove 12 = .ok (.invokevirtual 33, 3) := by decide +kernel
theorem dX2_removeAbove_15 : decode cX2_removeAbove 15 = .ok (.istore_n 2, 1) := by decide +kernel
theorem dX2_removeAbove_16 : decode cX2_removeAbove 16 = .ok (.aload_n 0, 1) := by decide +kernel
theorem dX2_removeAbove_17 : decode cX2_removeAbove 17 = .ok (.iload_n 1, 1) := by decide +kernel
theorem dX2_removeAbove_18 : decode cX2_removeAbove 18 = .ok (.iconst 1, 1) := by decide +kernel
theorem dX2_removeAbove_19 : decode cX2_removeAbove 19 = .ok (.iadd, 1) := by decide +kernel
theorem dX2_removeAbove_20 : decode cX2_removeAbove 20 = .ok (.putfield 21, 3) := by decide +kernel
theorem dX2_removeAbove_23 : decode cX2_removeAbove 23 = .ok (.iload_n 2, 1) := by decide +kernel
theorem dX2_removeAbove_24 : decode cX2_removeAbove 24 = .ok (.ireturn, 1) := by decide +kernel
theorem dX2_isTopNew_0 : decode cX2_isTopNew 0 = .ok (.aload_n 0, 1) := by decide +kernel
theorem dX2_isTopNew_1 : decode cX2_isTopNew 1 = .ok (.getfield 21, 3) := by decide +kernel
theorem dX2_isTopNew_4 : decode cX2_isTopNew 4 = .ok (.ifCond .le 21, 3) := by decide +kernel
theorem dX2_isTopNew_7 : decode cX2_isTopNew 7 = .ok (.aload_n 0, 1) := by decide +kernel
theorem dX2_isTopNew_8 : decode cX2_isTopNew 8 = .ok (.getfield 11, 3) := by decide +kernel
theorem dX2_isTopNew_11 : decode cX2_isTopNew 11 = .ok (.aload_n 0, 1) := by decide +kernel
theorem dX2_isTopNew_12 : decode cX2_isTopNew 12 = .ok (.getfield 21, 3) := by decide +kernel
theorem dX2_isTopNew_15 : decode cX2_isTopNew 15 = .ok (.iconst 1, 1) := by decide +kernel
theorem dX2_isTopNew_16 : decode cX2_isTopNew 16 = .ok (.isub, 1) := by decide +kernel
theorem dX2_isTopNew_17 : decode cX2_isTopNew 17 = .ok (.iaload, 1) := by decide +kernel
theorem dX2_isTopNew_18 : decode cX2_isTopNew 18 = .ok (.ifCond .ne 7, 3) := by decide +kernel
theorem dX2_isTopNew_21 : decode cX2_isTopNew 21 = .ok (.iconst 1, 1) := by decide +kernel
theorem dX2_isTopNew_22 : decode cX2_isTopNew 22 = .ok (.goto 4, 3) := by decide +kernel
theorem dX2_isTopNew_25 : decode cX2_isTopNew 25 = .ok (.iconst 0, 1) := by decide +kernel
theorem dX2_isTopNew_26 : decode cX2_isTopNew 26 = .ok (.ireturn, 1) := by decide +kernel
theorem dX2_massBetween_0 : decode cX2_massBetween 0 = .ok (.iconst 0, 1) := by decide +kernel
theorem dX2_massBetween_1 : decode cX2_massBetween 1 = .ok (.istore_n 3, 1) := by decide +kernel
theorem dX2_massBetween_2 : decode cX2_massBetween 2 = .ok (.iload_n 1, 1) := by decide +kernel
theorem dX2_massBetween_3 : decode cX2_massBetween 3 = .ok (.iconst 1, 1) := by decide +kernel
theorem dX2_massBetween_4 : decode cX2_massBetween 4 = .ok (.iadd, 1) := by decide +kernel
theorem dX2_massBetween_5 : decode cX2_massBetween 5 = .ok (.iconst 0, 1) := by decide +kernel
theorem dX2_massBetween_6 : decode cX2_massBetween 6 = .ok (.invokestatic 68, 3) := by decide +kernel
theorem dX2_massBetween_9 : decode cX2_massBetween 9 = .ok (.istore 4, 2) := by decide +kernel
theorem dX2_massBetween_11 : decode cX2_massBetween 11 = .ok (.iload 4, 2) := by decide +kernel
theorem dX2_massBetween_13 : decode cX2_massBetween 13 = .ok (.iload_n 2, 1) := by decide +kernel
theorem dX2_massBetween_14 : decode cX2_massBetween 14 = .ok (.if_icmp .ge 28, 3) := by decide +kernel
theorem dX2_massBetween_17 : decode cX2_massBetween 17 = .ok (.iload 4, 2) := by decide +kernel
theorem dX2_massBetween_19 : decode cX2_massBetween 19 = .ok (.aload_n 0, 1) := by decide +kernel
theorem dX2_massBetween_20 : decode cX2_massBetween 20 = .ok (.getfield 21, 3) := by decide +kernel
theorem dX2_massBetween_23 : decode cX2_massBetween 23 = .ok (.if_icmp .ge 19, 3) := by decide +kernel
theorem dX2_massBetween_26 : decode cX2_massBetween 26 = .ok (.iload_n 3, 1) := by decide +kernel
theorem dX2_massBetween_27 : decode cX2_massBetween 27 = .ok (.aload_n 0, 1) := by decide +kernel
theorem dX2_massBetween_28 : decode cX2_massBetween 28 = .ok (.getfield 15, 3) := by decide +kernel
theorem dX2_massBetween_31 : decode cX2_massBetween 31 = .ok (.iload 4, 2) := by decide +kernel
theorem dX2_massBetween_33 : decode cX2_massBetween 33 = .ok (.iaload, 1) := by decide +kernel
theorem dX2_massBetween_34 : decode cX2_massBetween 34 = .ok (.iadd, 1) := by decide +kernel
theorem dX2_massBetween_35 : decode cX2_massBetween 35 = .ok (.istore_n 3, 1) := by decide +kernel
theorem dX2_massBetween_36 : decode cX2_massBetween 36 = .ok (.iinc 4 1, 3) := by decide +kernel
theorem dX2_massBetween_39 : decode cX2_massBetween 39 = .ok (.goto (-28), 3) := by decide +kernel
theorem dX2_massBetween_42 : decode cX2_massBetween 42 = .ok (.iload_n 3, 1) := by decide +kernel
theorem dX2_massBetween_43 : decode cX2_massBetween 43 = .ok (.ireturn, 1) := by decide +kernel
theorem dX2_indexUnder_0 : decode cX2_indexUnder 0 = .ok (.iload_n 1, 1) := by decide +kernel
theorem dX2_indexUnder_1 : decode cX2_indexUnder 1 = .ok (.ifCond .gt 5, 3) := by decide +kernel
theorem dX2_indexUnder_4 : decode cX2_indexUnder 4 = .ok (.iconst (-1), 1) := by decide +kernel
theorem dX2_indexUnder_5 : decode cX2_indexUnder 5 = .ok (.ireturn, 1) := by decide +kernel
theorem dX2_indexUnder_6 : decode cX2_indexUnder 6 = .ok (.bipush 100, 2) := by decide +kernel
theorem dX2_indexUnder_8 : decode cX2_indexUnder 8 = .ok (.iload_n 0, 1) := by decide +kernel
theorem dX2_indexUnder_9 : decode cX2_indexUnder 9 = .ok (.imul, 1) := by decide +kernel
theorem dX2_indexUnder_10 : decode cX2_indexUnder 10 = .ok (.iload_n 1, 1) := by decide +kernel
theorem dX2_indexUnder_11 : decode cX2_indexUnder 11 = .ok (.idiv, 1) := by decide +kernel
theorem dX2_indexUnder_12 : decode cX2_indexUnder 12 = .ok (.istore_n 2, 1) := by decide +kernel
theorem dX2_indexUnder_13 : decode cX2_indexUnder 13 = .ok (.iload_n 2, 1) := by decide +kernel
theorem dX2_indexUnder_14 : decode cX2_indexUnder 14 = .ok (.sipush 999, 3) := by decide +kernel
theorem dX2_indexUnder_17 : decode cX2_indexUnder 17 = .ok (.if_icmp .le 9, 3) := by decide +kernel
theorem dX2_indexUnder_20 : decode cX2_indexUnder 20 = .ok (.sipush 999, 3) := by decide +kernel
theorem dX2_indexUnder_23 : decode cX2_indexUnder 23 = .ok (.goto 4, 3) := by decide +kernel
theorem dX2_indexUnder_26 : decode cX2_indexUnder 26 = .ok (.iload_n 2, 1) := by decide +kernel
theorem dX2_indexUnder_27 : decode cX2_indexUnder 27 = .ok (.ireturn, 1) := by decide +kernel
theorem dX2_bearingOf_0 : decode cX2_bearingOf 0 = .ok (.iload_n 0, 1) := by decide +kernel
theorem dX2_bearingOf_1 : decode cX2_bearingOf 1 = .ok (.tableswitch 52 0 3 #[31, 35, 39, 48], 31) := by decide +kernel
theorem dX2_bearingOf_32 : decode cX2_bearingOf 32 = .ok (.sipush 400, 3) := by decide +kernel
theorem dX2_bearingOf_35 : decode cX2_bearingOf 35 = .ok (.ireturn, 1) := by decide +kernel
theorem dX2_bearingOf_36 : decode cX2_bearingOf 36 = .ok (.sipush 900, 3) := by decide +kernel
theorem dX2_bearingOf_39 : decode cX2_bearingOf 39 = .ok (.ireturn, 1) := by decide +kernel
theorem dX2_bearingOf_40 : decode cX2_bearingOf 40 = .ok (.sipush 250, 3) := by decide +kernel
theorem dX2_bearingOf_43 : decode cX2_bearingOf 43 = .ok (.bipush 15, 2) := by decide +kernel
theorem dX2_bearingOf_45 : decode cX2_bearingOf 45 = .ok (.iload_n 1, 1) := by decide +kernel
theorem dX2_bearingOf_46 : decode cX2_bearingOf 46 = .ok (.imul, 1) := by decide +kernel
theorem dX2_bearingOf_47 : decode cX2_bearingOf 47 = .ok (.iadd, 1) := by decide +kernel
theorem dX2_bearingOf_48 : decode cX2_bearingOf 48 = .ok (.ireturn, 1) := by decide +kernel
theorem dX2_bearingOf_49 : decode cX2_bearingOf 49 = .ok (.sipush 3000, 3) := by decide +kernel
theorem dX2_bearingOf_52 : decode cX2_bearingOf 52 = .ok (.ireturn, 1) := by decide +kernel
theorem dX2_bearingOf_53 : decode cX2_bearingOf 53 = .ok (.iconst 0, 1) := by decide +kernel
theorem dX2_bearingOf_54 : decode cX2_bearingOf 54 = .ok (.ireturn, 1) := by decide +kernel
theorem dX2_joinLowest_0 : decode cX2_joinLowest 0 = .ok (.aload_n 0, 1) := by decide +kernel
theorem dX2_joinLowest_1 : decode cX2_joinLowest 1 = .ok (.getfield 15, 3) := by decide +kernel
theorem dX2_joinLowest_4 : decode cX2_joinLowest 4 = .ok (.iconst 1, 1) := by decide +kernel
theorem dX2_joinLowest_5 : decode cX2_joinLowest 5 = .ok (.dup2, 1) := by decide +kernel
theorem dX2_joinLowest_6 : decode cX2_joinLowest 6 = .ok (.iaload, 1) := by decide +kernel
theorem dX2_joinLowest_7 : decode cX2_joinLowest 7 = .ok (.aload_n 0, 1) := by decide +kernel
theorem dX2_joinLowest_8 : decode cX2_joinLowest 8 = .ok (.getfield 15, 3) := by decide +kernel
theorem dX2_joinLowest_11 : decode cX2_joinLowest 11 = .ok (.iconst 0, 1) := by decide +kernel
theorem dX2_joinLowest_12 : decode cX2_joinLowest 12 = .ok (.iaload, 1) := by decide +kernel
theorem dX2_joinLowest_13 : decode cX2_joinLowest 13 = .ok (.iadd, 1) := by decide +kernel
theorem dX2_joinLowest_14 : decode cX2_joinLowest 14 = .ok (.iastore, 1) := by decide +kernel
theorem dX2_joinLowest_15 : decode cX2_joinLowest 15 = .ok (.aload_n 0, 1) := by decide +kernel
theorem dX2_joinLowest_16 : decode cX2_joinLowest 16 = .ok (.getfield 18, 3) := by decide +kernel
theorem dX2_joinLowest_19 : decode cX2_joinLowest 19 = .ok (.iconst 1, 1) := by decide +kernel
theorem dX2_joinLowest_20 : decode cX2_joinLowest 20 = .ok (.aload_n 0, 1) := by decide +kernel
theorem dX2_joinLowest_21 : decode cX2_joinLowest 21 = .ok (.getfield 18, 3) := by decide +kernel
theorem dX2_joinLowest_24 : decode cX2_joinLowest 24 = .ok (.iconst 0, 1) := by decide +kernel
theorem dX2_joinLowest_25 : decode cX2_joinLowest 25 = .ok (.iaload, 1) := by decide +kernel
theorem dX2_joinLowest_26 : decode cX2_joinLowest 26 = .ok (.aload_n 0, 1) := by decide +kernel
theorem dX2_joinLowest_27 : decode cX2_joinLowest 27 = .ok (.getfield 18, 3) := by decide +kernel
theorem dX2_joinLowest_30 : decode cX2_joinLowest 30 = .ok (.iconst 1, 1) := by decide +kernel
theorem dX2_joinLowest_31 : decode cX2_joinLowest 31 = .ok (.iaload, 1) := by decide +kernel
theorem dX2_joinLowest_32 : decode cX2_joinLowest 32 = .ok (.invokestatic 68, 3) := by decide +kernel
theorem dX2_joinLowest_35 : decode cX2_joinLowest 35 = .ok (.iastore, 1) := by decide +kernel
theorem dX2_joinLowest_36 : decode cX2_joinLowest 36 = .ok (.iconst 1, 1) := by decide +kernel
theorem dX2_joinLowest_37 : decode cX2_joinLowest 37 = .ok (.istore_n 1, 1) := by decide +kernel
theorem dX2_joinLowest_38 : decode cX2_joinLowest 38 = .ok (.iload_n 1, 1) := by decide +kernel
theorem dX2_joinLowest_39 : decode cX2_joinLowest 39 = .ok (.aload_n 0, 1) := by decide +kernel
theorem dX2_joinLowest_40 : decode cX2_joinLowest 40 = .ok (.getfield 21, 3) := by decide +kernel
theorem dX2_joinLowest_43 : decode cX2_joinLowest 43 = .ok (.if_icmp .ge 51, 3) := by decide +kernel
theorem dX2_joinLowest_46 : decode cX2_joinLowest 46 = .ok (.aload_n 0, 1) := by decide +kernel
theorem dX2_joinLowest_47 : decode cX2_joinLowest 47 = .ok (.getfield 11, 3) := by decide +kernel
theorem dX2_joinLowest_50 : decode cX2_joinLowest 50 = .ok (.iload_n 1, 1) := by decide +kernel
theorem dX2_joinLowest_51 : decode cX2_joinLowest 51 = .ok (.iconst 1, 1) := by decide +kernel
theorem dX2_joinLowest_52 : decode cX2_joinLowest 52 = .ok (.isub, 1) := by decide +kernel
theorem dX2_joinLowest_53 : decode cX2_joinLowest 53 = .ok (.aload_n 0, 1) := by decide +kernel
theorem dX2_joinLowest_54 : decode cX2_joinLowest 54 = .ok (.getfield 11, 3) := by decide +kernel
theorem dX2_joinLowest_57 : decode cX2_joinLowest 57 = .ok (.iload_n 1, 1) := by decide +kernel
theorem dX2_joinLowest_58 : decode cX2_joinLowest 58 = .ok (.iaload, 1) := by decide +kernel
theorem dX2_joinLowest_59 : decode cX2_joinLowest 59 = .ok (.iastore, 1) := by decide +kernel
theorem dX2_joinLowest_60 : decode cX2_joinLowest 60 = .ok (.aload_n 0, 1) := by decide +kernel
theorem dX2_joinLowest_61 : decode cX2_joinLowest 61 = .ok (.getfield 15, 3) := by decide +kernel
theorem dX2_joinLowest_64 : decode cX2_joinLowest 64 = .ok (.iload_n 1, 1) := by decide +kernel
theorem dX2_joinLowest_65 : decode cX2_joinLowest 65 = .ok (.iconst 1, 1) := by decide +kernel
theorem dX2_joinLowest_66 : decode cX2_joinLowest 66 = .ok (.isub, 1) := by decide +kernel
theorem dX2_joinLowest_67 : decode cX2_joinLowest 67 = .ok (.aload_n 0, 1) := by decide +kernel
theorem dX2_joinLowest_68 : decode cX2_joinLowest 68 = .ok (.getfield 15, 3) := by decide +kernel
theorem dX2_joinLowest_71 : decode cX2_joinLowest 71 = .ok (.iload_n 1, 1) := by decide +kernel
theorem dX2_joinLowest_72 : decode cX2_joinLowest 72 = .ok (.iaload, 1) := by decide +kernel
theorem dX2_joinLowest_73 : decode cX2_joinLowest 73 = .ok (.iastore, 1) := by decide +kernel
theorem dX2_joinLowest_74 : decode cX2_joinLowest 74 = .ok (.aload_n 0, 1) := by decide +kernel
theorem dX2_joinLowest_75 : decode cX2_joinLowest 75 = .ok (.getfield 18, 3) := by decide +kernel
theorem dX2_joinLowest_78 : decode cX2_joinLowest 78 = .ok (.iload_n 1, 1) := by decide +kernel
theorem dX2_joinLowest_79 : decode cX2_joinLowest 79 = .ok (.iconst 1, 1) := by decide +kernel
theorem dX2_joinLowest_80 : decode cX2_joinLowest 80 = .ok (.isub, 1) := by decide +kernel
theorem dX2_joinLowest_81 : decode cX2_joinLowest 81 = .ok (.aload_n 0, 1) := by decide +kernel
theorem dX2_joinLowest_82 : decode cX2_joinLowest 82 = .ok (.getfield 18, 3) := by decide +kernel
theorem dX2_joinLowest_85 : decode cX2_joinLowest 85 = .ok (.iload_n 1, 1) := by decide +kernel
theorem dX2_joinLowest_86 : decode cX2_joinLowest 86 = .ok (.iaload, 1) := by decide +kernel
theorem dX2_joinLowest_87 : decode cX2_joinLowest 87 = .ok (.iastore, 1) := by decide +kernel
theorem dX2_joinLowest_88 : decode cX2_joinLowest 88 = .ok (.iinc 1 1, 3) := by decide +kernel
theorem dX2_joinLowest_91 : decode cX2_joinLowest 91 = .ok (.goto (-53), 3) := by decide +kernel
theorem dX2_joinLowest_94 : decode cX2_joinLowest 94 = .ok (.aload_n 0, 1) := by decide +kernel
theorem dX2_joinLowest_95 : decode cX2_joinLowest 95 = .ok (.dup, 1) := by decide +kernel
theorem dX2_joinLowest_96 : decode cX2_joinLowest 96 = .ok (.getfield 21, 3) := by decide +kernel
theorem dX2_joinLowest_99 : decode cX2_joinLowest 99 = .ok (.iconst 1, 1) := by decide +kernel
theorem dX2_joinLowest_100 : decode cX2_joinLowest 100 = .ok (.isub, 1) := by decide +kernel
theorem dX2_joinLowest_101 : decode cX2_joinLowest 101 = .ok (.putfield 21, 3) := by decide +kernel
theorem dX2_joinLowest_104 : decode cX2_joinLowest 104 = .ok (.return_, 1) := by decide +kernel
theorem dX3_init_0 : decode cX3_init 0 = .ok (.aload_n 0, 1) := by decide +kernel
theorem dX3_init_1 : decode cX3_init 1 = .ok (.invokespecial 3, 3) := by decide +kernel
theorem dX3_init_4 : decode cX3_init 4 = .ok (.aload_n 0, 1) := by decide +kernel
theorem dX3_init_5 : decode cX3_init 5 = .ok (.bipush 12, 2) := by decide +kernel
theorem dX3_init_7 : decode cX3_init 7 = .ok (.newarray .int, 2) := by decide +kernel
theorem dX3_init_9 : decode cX3_init 9 = .ok (.putfield 9, 3) := by decide +kernel
theorem dX3_init_12 : decode cX3_init 12 = .ok (.aload_n 0, 1) := by decide +kernel
theorem dX3_init_13 : decode cX3_init 13 = .ok (.bipush 12, 2) := by decide +kernel
theorem dX3_init_15 : decode cX3_init 15 = .ok (.newarray .boolean, 2) := by decide +kernel
theorem dX3_init_17 : decode cX3_init 17 = .ok (.putfield 15, 3) := by decide +kernel
theorem dX3_init_20 : decode cX3_init 20 = .ok (.aload_n 0, 1) := by decide +kernel
theorem dX3_init_21 : decode cX3_init 21 = .ok (.iconst 4, 1) := by decide +kernel
theorem dX3_init_22 : decode cX3_init 22 = .ok (.newarray .int, 2) := by decide +kernel
theorem dX3_init_24 : decode cX3_init 24 = .ok (.putfield 19, 3) := by decide +kernel
theorem dX3_init_27 : decode cX3_init 27 = .ok (.return_, 1) := by decide +kernel
theorem dX3_noteSlide_0 : decode cX3_noteSlide 0 = .ok (.iload_n 1, 1) := by decide +kernel
theorem dX3_noteSlide_1 : decode cX3_noteSlide 1 = .ok (.invokestatic 22, 3) := by decide +kernel
theorem dX3_noteSlide_4 : decode cX3_noteSlide 4 = .ok (.ifCond .eq 10, 3) := by decide +kernel
theorem dX3_noteSlide_7 : decode cX3_noteSlide 7 = .ok (.aload_n 0, 1) := by decide +kernel
theorem dX3_noteSlide_8 : decode cX3_noteSlide 8 = .ok (.getfield 15, 3) := by decide +kernel
theorem dX3_noteSlide_11 : decode cX3_noteSlide 11 = .ok (.iload_n 1, 1) := by decide +kernel
theorem dX3_noteSlide_12 : decode cX3_noteSlide 12 = .ok (.iconst 1, 1) := by decide +kernel
theorem dX3_noteSlide_13 : decode cX3_noteSlide 13 = .ok (.bastore, 1) := by decide +kernel
theorem dX3_noteSlide_14 : decode cX3_noteSlide 14 = .ok (.return_, 1) := by decide +kernel
theorem dX3_noteDanger_0 : decode cX3_noteDanger 0 = .ok (.iload_n 1, 1) := by decide +kernel
theorem dX3_noteDanger_1 : decode cX3_noteDanger 1 = .ok (.invokestatic 22, 3) := by decide +kernel
theorem dX3_noteDanger_4 : decode cX3_noteDanger 4 = .ok (.ifCond .eq 19, 3) := by decide +kernel
theorem dX3_noteDanger_7 : decode cX3_noteDanger 7 = .ok (.aload_n 0, 1) := by decide +kernel
theorem dX3_noteDanger_8 : decode cX3_noteDanger 8 = .ok (.getfield 9, 3) := by decide +kernel
theorem dX3_noteDanger_11 : decode cX3_noteDanger 11 = .ok (.iload_n 1, 1) := by decide +kernel
theorem dX3_noteDanger_12 : decode cX3_noteDanger 12 = .ok (.iaload, 1) := by decide +kernel
theorem dX3_noteDanger_13 : decode cX3_noteDanger 13 = .ok (.ifCond .ne 10, 3) := by decide +kernel
theorem dX3_noteDanger_16 : decode cX3_noteDanger 16 = .ok (.aload_n 0, 1) := by decide +kernel
theorem dX3_noteDanger_17 : decode cX3_noteDanger 17 = .ok (.getfield 9, 3) := by decide +kernel
theorem dX3_noteDanger_20 : decode cX3_noteDanger 20 = .ok (.iload_n 1, 1) := by decide +kernel
theorem dX3_noteDanger_21 : decode cX3_noteDanger 21 = .ok (.iload_n 2, 1) := by decide +kernel
theorem dX3_noteDanger_22 : decode cX3_noteDanger 22 = .ok (.iastore, 1) := by decide +kernel
theorem dX3_noteDanger_23 : decode cX3_noteDanger 23 = .ok (.return_, 1) := by decide +kernel
theorem dX3_tallyOf_0 : decode cX3_tallyOf 0 = .ok (.iload_n 1, 1) := by decide +kernel
theorem dX3_tallyOf_1 : decode cX3_tallyOf 1 = .ok (.ifCond .lt 17, 3) := by decide +kernel
theorem dX3_tallyOf_4 : decode cX3_tallyOf 4 = .ok (.iload_n 1, 1) := by decide +kernel
theorem dX3_tallyOf_5 : decode cX3_tallyOf 5 = .ok (.iconst 4, 1) := by decide +kernel
theorem dX3_tallyOf_6 : decode cX3_tallyOf 6 = .ok (.if_icmp .ge 12, 3) := by decide +kernel
theorem dX3_tallyOf_9 : decode cX3_tallyOf 9 = .ok (.aload_n 0, 1) := by decide +kernel
theorem dX3_tallyOf_10 : decode cX3_tallyOf 10 = .ok (.getfield 19, 3) := by decide +kernel
theorem dX3_tallyOf_13 : decode cX3_tallyOf 13 = .ok (.iload_n 1, 1) := by decide +kernel
theorem dX3_tallyOf_14 : decode cX3_tallyOf 14 = .ok (.iaload, 1) := by decide +kernel
theorem dX3_tallyOf_15 : decode cX3_tallyOf 15 = .ok (.goto 4, 3) := by decide +kernel
theorem dX3_tallyOf_18 : decode cX3_tallyOf 18 = .ok (.iconst (-1), 1) := by decide +kernel
theorem dX3_tallyOf_19 : decode cX3_tallyOf 19 = .ok (.ireturn, 1) := by decide +kernel
theorem dX3_judgeDay_0 : decode cX3_judgeDay 0 = .ok (.iconst 0, 1) := by decide +kernel
theorem dX3_judgeDay_1 : decode cX3_judgeDay 1 = .ok (.istore_n 1, 1) := by decide +kernel
theorem dX3_judgeDay_2 : decode cX3_judgeDay 2 = .ok (.iload_n 1, 1) := by decide +kernel
theorem dX3_judgeDay_3 : decode cX3_judgeDay 3 = .ok (.bipush 12, 2) := by decide +kernel
theorem dX3_judgeDay_5 : decode cX3_judgeDay 5 = .ok (.if_icmp .ge 73, 3) := by decide +kernel
theorem dX3_judgeDay_8 : decode cX3_judgeDay 8 = .ok (.aload_n 0, 1) := by decide +kernel
theorem dX3_judgeDay_9 : decode cX3_judgeDay 9 = .ok (.getfield 9, 3) := by decide +kernel
theorem dX3_judgeDay_12 : decode cX3_judgeDay 12 = .ok (.iload_n 1, 1) := by decide +kernel
theorem dX3_judgeDay_13 : decode cX3_judgeDay 13 = .ok (.iaload, 1) := by decide +kernel
theorem dX3_judgeDay_14 : decode cX3_judgeDay 14 = .ok (.ifCond .eq 44, 3) := by decide +kernel
theorem dX3_judgeDay_17 : decode cX3_judgeDay 17 = .ok (.aload_n 0, 1) := by decide +kernel
theorem dX3_judgeDay_18 : decode cX3_judgeDay 18 = .ok (.getfield 9, 3) := by decide +kernel
theorem dX3_judgeDay_21 : decode cX3_judgeDay 21 = .ok (.iload_n 1, 1) := by decide +kernel
theorem dX3_judgeDay_22 : decode cX3_judgeDay 22 = .ok (.iaload, 1) := by decide +kernel
theorem dX3_judgeDay_23 : decode cX3_judgeDay 23 = .ok (.iconst 3, 1) := by decide +kernel
theorem dX3_judgeDay_24 : decode cX3_judgeDay 24 = .ok (.if_icmp .lt 7, 3) := by decide +kernel
theorem dX3_judgeDay_27 : decode cX3_judgeDay 27 = .ok (.iconst 0, 1) := by decide +kernel
theorem dX3_judgeDay_28 : decode cX3_judgeDay 28 = .ok (.goto 4, 3) := by decide +kernel
theorem dX3_judgeDay_31 : decode cX3_judgeDay 31 = .ok (.iconst 2, 1) := by decide +kernel
theorem dX3_judgeDay_32 : decode cX3_judgeDay 32 = .ok (.aload_n 0, 1) := by decide +kernel
theorem dX3_judgeDay_33 : decode cX3_judgeDay 33 = .ok (.getfield 15, 3) := by decide +kernel
theorem dX3_judgeDay_36 : decode cX3_judgeDay 36 = .ok (.iload_n 1, 1) := by decide +kernel
theorem dX3_judgeDay_37 : decode cX3_judgeDay 37 = .ok (.baload, 1) := by decide +kernel
theorem dX3_judgeDay_38 : decode cX3_judgeDay 38 = .ok (.ifCond .eq 7, 3) := by decide +kernel
theorem dX3_judgeDay_41 : decode cX3_judgeDay 41 = .ok (.iconst 0, 1) := by decide +kernel
theorem dX3_judgeDay_42 : decode cX3_judgeDay 42 = .ok (.goto 4, 3) := by decide +kernel
theorem dX3_judgeDay_45 : decode cX3_judgeDay 45 = .ok (.iconst 1, 1) := by decide +kernel
theorem dX3_judgeDay_46 : decode cX3_judgeDay 46 = .ok (.iadd, 1) := by decide +kernel
theorem dX3_judgeDay_47 : decode cX3_judgeDay 47 = .ok (.istore_n 2, 1) := by decide +kernel
theorem dX3_judgeDay_48 : decode cX3_judgeDay 48 = .ok (.aload_n 0, 1) := by decide +kernel
theorem dX3_judgeDay_49 : decode cX3_judgeDay 49 = .ok (.getfield 19, 3) := by decide +kernel
theorem dX3_judgeDay_52 : decode cX3_judgeDay 52 = .ok (.iload_n 2, 1) := by decide +kernel
theorem dX3_judgeDay_53 : decode cX3_judgeDay 53 = .ok (.dup2, 1) := by decide +kernel
theorem dX3_judgeDay_54 : decode cX3_judgeDay 54 = .ok (.iaload, 1) := by decide +kernel
theorem dX3_judgeDay_55 : decode cX3_judgeDay 55 = .ok (.iconst 1, 1) := by decide +kernel
theorem dX3_judgeDay_56 : decode cX3_judgeDay 56 = .ok (.iadd, 1) := by decide +kernel
theorem dX3_judgeDay_57 : decode cX3_judgeDay 57 = .ok (.iastore, 1) := by decide +kernel
theorem dX3_judgeDay_58 : decode cX3_judgeDay 58 = .ok (.aload_n 0, 1) := by decide +kernel
theorem dX3_judgeDay_59 : decode cX3_judgeDay 59 = .ok (.getfield 9, 3) := by decide +kernel
theorem dX3_judgeDay_62 : decode cX3_judgeDay 62 = .ok (.iload_n 1, 1) := by decide +kernel
theorem dX3_judgeDay_63 : decode cX3_judgeDay 63 = .ok (.iconst 0, 1) := by decide +kernel
theorem dX3_judgeDay_64 : decode cX3_judgeDay 64 = .ok (.iastore, 1) := by decide +kernel
theorem dX3_judgeDay_65 : decode cX3_judgeDay 65 = .ok (.aload_n 0, 1) := by decide +kernel
theorem dX3_judgeDay_66 : decode cX3_judgeDay 66 = .ok (.getfield 15, 3) := by decide +kernel
theorem dX3_judgeDay_69 : decode cX3_judgeDay 69 = .ok (.iload_n 1, 1) := by decide +kernel
theorem dX3_judgeDay_70 : decode cX3_judgeDay 70 = .ok (.iconst 0, 1) := by decide +kernel
theorem dX3_judgeDay_71 : decode cX3_judgeDay 71 = .ok (.bastore, 1) := by decide +kernel
theorem dX3_judgeDay_72 : decode cX3_judgeDay 72 = .ok (.iinc 1 1, 3) := by decide +kernel
theorem dX3_judgeDay_75 : decode cX3_judgeDay 75 = .ok (.goto (-73), 3) := by decide +kernel
theorem dX3_judgeDay_78 : decode cX3_judgeDay 78 = .ok (.return_, 1) := by decide +kernel
theorem dX4_init_0 : decode cX4_init 0 = .ok (.aload_n 0, 1) := by decide +kernel
theorem dX4_init_1 : decode cX4_init 1 = .ok (.invokespecial 3, 3) := by decide +kernel
theorem dX4_init_4 : decode cX4_init 4 = .ok (.aload_n 0, 1) := by decide +kernel
theorem dX4_init_5 : decode cX4_init 5 = .ok (.iconst 3, 1) := by decide +kernel
theorem dX4_init_6 : decode cX4_init 6 = .ok (.newarray .int, 2) := by decide +kernel
theorem dX4_init_8 : decode cX4_init 8 = .ok (.putfield 9, 3) := by decide +kernel
theorem dX4_init_11 : decode cX4_init 11 = .ok (.aload_n 0, 1) := by decide +kernel
theorem dX4_init_12 : decode cX4_init 12 = .ok (.iconst 3, 1) := by decide +kernel
theorem dX4_init_13 : decode cX4_init 13 = .ok (.newarray .int, 2) := by decide +kernel
theorem dX4_init_15 : decode cX4_init 15 = .ok (.putfield 15, 3) := by decide +kernel
theorem dX4_init_18 : decode cX4_init 18 = .ok (.aload_n 0, 1) := by decide +kernel
theorem dX4_init_19 : decode cX4_init 19 = .ok (.iconst 3, 1) := by decide +kernel
theorem dX4_init_20 : decode cX4_init 20 = .ok (.newarray .int, 2) := by decide +kernel
theorem dX4_init_22 : decode cX4_init 22 = .ok (.putfield 18, 3) := by decide +kernel
theorem dX4_init_25 : decode cX4_init 25 = .ok (.aload_n 0, 1) := by decide +kernel
theorem dX4_init_26 : decode cX4_init 26 = .ok (.iconst 0, 1) := by decide +kernel
theorem dX4_init_27 : decode cX4_init 27 = .ok (.putfield 21, 3) := by decide +kernel
theorem dX4_init_30 : decode cX4_init 30 = .ok (.aload_n 0, 1) := by decide +kernel
theorem dX4_init_31 : decode cX4_init 31 = .ok (.iconst 0, 1) := by decide +kernel
theorem dX4_init_32 : decode cX4_init 32 = .ok (.putfield 25, 3) := by decide +kernel
theorem dX4_init_35 : decode cX4_init 35 = .ok (.iconst 0, 1) := by decide +kernel
theorem dX4_init_36 : decode cX4_init 36 = .ok (.istore_n 1, 1) := by decide +kernel
theorem dX4_init_37 : decode cX4_init 37 = .ok (.iload_n 1, 1) := by decide +kernel
theorem dX4_init_38 : decode cX4_init 38 = .ok (.iconst 3, 1) := by decide +kernel
theorem dX4_init_39 : decode cX4_init 39 = .ok (.if_icmp .ge 32, 3) := by decide +kernel
theorem dX4_init_42 : decode cX4_init 42 = .ok (.aload_n 0, 1) := by decide +kernel
theorem dX4_init_43 : decode cX4_init 43 = .ok (.getfield 9, 3) := by decide +kernel
theorem dX4_init_46 : decode cX4_init 46 = .ok (.iload_n 1, 1) := by decide +kernel
theorem dX4_init_47 : decode cX4_init 47 = .ok (.iconst (-1), 1) := by decide +kernel
theorem dX4_init_48 : decode cX4_init 48 = .ok (.iastore, 1) := by decide +kernel
theorem dX4_init_49 : decode cX4_init 49 = .ok (.aload_n 0, 1) := by decide +kernel
theorem dX4_init_50 : decode cX4_init 50 = .ok (.getfield 15, 3) := by decide +kernel
theorem dX4_init_53 : decode cX4_init 53 = .ok (.iload_n 1, 1) := by decide +kernel
theorem dX4_init_54 : decode cX4_init 54 = .ok (.bipush (-100), 2) := by decide +kernel
theorem dX4_init_56 : decode cX4_init 56 = .ok (.iastore, 1) := by decide +kernel
theorem dX4_init_57 : decode cX4_init 57 = .ok (.aload_n 0, 1) := by decide +kernel
theorem dX4_init_58 : decode cX4_init 58 = .ok (.getfield 18, 3) := by decide +kernel
theorem dX4_init_61 : decode cX4_init 61 = .ok (.iload_n 1, 1) := by decide +kernel
theorem dX4_init_62 : decode cX4_init 62 = .ok (.bipush (-5), 2) := by decide +kernel
theorem dX4_init_64 : decode cX4_init 64 = .ok (.iastore, 1) := by decide +kernel
theorem dX4_init_65 : decode cX4_init 65 = .ok (.iinc 1 1, 3) := by decide +kernel
theorem dX4_init_68 : decode cX4_init 68 = .ok (.goto (-31), 3) := by decide +kernel
theorem dX4_init_71 : decode cX4_init 71 = .ok (.return_, 1) := by decide +kernel
theorem dX4_canSnow_0 : decode cX4_canSnow 0 = .ok (.iload_n 0, 1) := by decide +kernel
theorem dX4_canSnow_1 : decode cX4_canSnow 1 = .ok (.iconst (-1), 1) := by decide +kernel
theorem dX4_canSnow_2 : decode cX4_canSnow 2 = .ok (.if_icmp .eq 14, 3) := by decide +kernel
theorem dX4_canSnow_5 : decode cX4_canSnow 5 = .ok (.iload_n 0, 1) := by decide +kernel
theorem dX4_canSnow_6 : decode cX4_canSnow 6 = .ok (.ifCond .lt 14, 3) := by decide +kernel
theorem dX4_canSnow_9 : decode cX4_canSnow 9 = .ok (.iload_n 0, 1) := by decide +kernel
theorem dX4_canSnow_10 : decode cX4_canSnow 10 = .ok (.sipush 200, 3) := by decide +kernel
theorem dX4_canSnow_13 : decode cX4_canSnow 13 = .ok (.if_icmp .gt 7, 3) := by decide +kernel
theorem dX4_canSnow_16 : decode cX4_canSnow 16 = .ok (.iconst 1, 1) := by decide +kernel
theorem dX4_canSnow_17 : decode cX4_canSnow 17 = .ok (.goto 4, 3) := by decide +kernel
theorem dX4_canSnow_20 : decode cX4_canSnow 20 = .ok (.iconst 0, 1) := by decide +kernel
theorem dX4_canSnow_21 : decode cX4_canSnow 21 = .ok (.ireturn, 1) := by decide +kernel
theorem dX4_canBeWarm_0 : decode cX4_canBeWarm 0 = .ok (.iload_n 0, 1) := by decide +kernel
theorem dX4_canBeWarm_1 : decode cX4_canBeWarm 1 = .ok (.bipush (-100), 2) := by decide +kernel
theorem dX4_canBeWarm_3 : decode cX4_canBeWarm 3 = .ok (.if_icmp .eq 15, 3) := by decide +kernel
theorem dX4_canBeWarm_6 : decode cX4_canBeWarm 6 = .ok (.iload_n 0, 1) := by decide +kernel
theorem dX4_canBeWarm_7 : decode cX4_canBeWarm 7 = .ok (.bipush (-30), 2) := by decide +kernel
theorem dX4_canBeWarm_9 : decode cX4_canBeWarm 9 = .ok (.if_icmp .lt 13, 3) := by decide +kernel
theorem dX4_canBeWarm_12 : decode cX4_canBeWarm 12 = .ok (.iload_n 0, 1) := by decide +kernel
theorem dX4_canBeWarm_13 : decode cX4_canBeWarm 13 = .ok (.bipush 10, 2) := by decide +kernel
theorem dX4_canBeWarm_15 : decode cX4_canBeWarm 15 = .ok (.if_icmp .gt 7, 3) := by decide +kernel
theorem dX4_canBeWarm_18 : decode cX4_canBeWarm 18 = .ok (.iconst 1, 1) := by decide +kernel
theorem dX4_canBeWarm_19 : decode cX4_canBeWarm 19 = .ok (.goto 4, 3) := by decide +kernel
theorem dX4_canBeWarm_22 : decode cX4_canBeWarm 22 = .ok (.iconst 0, 1) := by decide +kernel
theorem dX4_canBeWarm_23 : decode cX4_canBeWarm 23 = .ok (.ireturn, 1) := by decide +kernel
theorem dX4_canBlow_0 : decode cX4_canBlow 0 = .ok (.iload_n 0, 1) := by decide +kernel
theorem dX4_canBlow_1 : decode cX4_canBlow 1 = .ok (.ifCond .lt 13, 3) := by decide +kernel
theorem dX4_canBlow_4 : decode cX4_canBlow 4 = .ok (.iload_n 0, 1) := by decide +kernel
theorem dX4_canBlow_5 : decode cX4_canBlow 5 = .ok (.bipush 9, 2) := by decide +kernel
theorem dX4_canBlow_7 : decode cX4_canBlow 7 = .ok (.if_icmp .gt 7, 3) := by decide +kernel
theorem dX4_canBlow_10 : decode cX4_canBlow 10 = .ok (.iconst 1, 1) := by decide +kernel
theorem dX4_canBlow_11 : decode cX4_canBlow 11 = .ok (.goto 4, 3) := by decide +kernel
theorem dX4_canBlow_14 : decode cX4_canBlow 14 = .ok (.iconst 0, 1) := by decide +kernel
theorem dX4_canBlow_15 : decode cX4_canBlow 15 = .ok (.ireturn, 1) := by decide +kernel
theorem dX4_tellSnow_0 : decode cX4_tellSnow 0 = .ok (.iload_n 1, 1) := by decide +kernel
theorem dX4_tellSnow_1 : decode cX4_tellSnow 1 = .ok (.invokestatic 28, 3) := by decide +kernel
theorem dX4_tellSnow_4 : decode cX4_tellSnow 4 = .ok (.ifCond .eq 10, 3) := by decide +kernel
theorem dX4_tellSnow_7 : decode cX4_tellSnow 7 = .ok (.aload_n 0, 1) := by decide +kernel
theorem dX4_tellSnow_8 : decode cX4_tellSnow 8 = .ok (.getfield 9, 3) := by decide +kernel
theorem dX4_tellSnow_11 : decode cX4_tellSnow 11 = .ok (.iload_n 1, 1) := by decide +kernel
theorem dX4_tellSnow_12 : decode cX4_tellSnow 12 = .ok (.iload_n 2, 1) := by decide +kernel
theorem dX4_tellSnow_13 : decode cX4_tellSnow 13 = .ok (.iastore, 1) := by decide +kernel
theorem dX4_tellSnow_14 : decode cX4_tellSnow 14 = .ok (.return_, 1) := by decide +kernel
theorem dX4_tellWarmth_0 : decode cX4_tellWarmth 0 = .ok (.iload_n 1, 1) := by decide +kernel
theorem dX4_tellWarmth_1 : decode cX4_tellWarmth 1 = .ok (.invokestatic 28, 3) := by decide +kernel
theorem dX4_tellWarmth_4 : decode cX4_tellWarmth 4 = .ok (.ifCond .eq 10, 3) := by decide +kernel
theorem dX4_tellWarmth_7 : decode cX4_tellWarmth 7 = .ok (.aload_n 0, 1) := by decide +kernel
theorem dX4_tellWarmth_8 : decode cX4_tellWarmth 8 = .ok (.getfield 15, 3) := by decide +kernel
theorem dX4_tellWarmth_11 : decode cX4_tellWarmth 11 = .ok (.iload_n 1, 1) := by decide +kernel
theorem dX4_tellWarmth_12 : decode cX4_tellWarmth 12 = .ok (.iload_n 2, 1) := by decide +kernel
theorem dX4_tellWarmth_13 : decode cX4_tellWarmth 13 = .ok (.iastore, 1) := by decide +kernel
theorem dX4_tellWarmth_14 : decode cX4_tellWarmth 14 = .ok (.return_, 1) := by decide +kernel
theorem dX4_tellWind_0 : decode cX4_tellWind 0 = .ok (.aload_n 0, 1) := by decide +kernel
theorem dX4_tellWind_1 : decode cX4_tellWind 1 = .ok (.iload_n 1, 1) := by decide +kernel
theorem dX4_tellWind_2 : decode cX4_tellWind 2 = .ok (.putfield 21, 3) := by decide +kernel
theorem dX4_tellWind_5 : decode cX4_tellWind 5 = .ok (.aload_n 0, 1) := by decide +kernel
theorem dX4_tellWind_6 : decode cX4_tellWind 6 = .ok (.iload_n 2, 1) := by decide +kernel
theorem dX4_tellWind_7 : decode cX4_tellWind 7 = .ok (.putfield 25, 3) := by decide +kernel
theorem dX4_tellWind_10 : decode cX4_tellWind 10 = .ok (.return_, 1) := by decide +kernel
theorem dX4_fallingMassAt_0 : decode cX4_fallingMassAt 0 = .ok (.iload_n 1, 1) := by decide +kernel
theorem dX4_fallingMassAt_1 : decode cX4_fallingMassAt 1 = .ok (.invokestatic 28, 3) := by decide +kernel
theorem dX4_fallingMassAt_4 : decode cX4_fallingMassAt 4 = .ok (.ifCond .ne 5, 3) := by decide +kernel
theorem dX4_fallingMassAt_7 : decode cX4_fallingMassAt 7 = .ok (.iconst 0, 1) := by decide +kernel
theorem dX4_fallingMassAt_8 : decode cX4_fallingMassAt 8 = .ok (.ireturn, 1) := by decide +kernel
theorem dX4_fallingMassAt_9 : decode cX4_fallingMassAt 9 = .ok (.bipush 10, 2) := by decide +kernel
theorem dX4_fallingMassAt_11 : decode cX4_fallingMassAt 11 = .ok (.aload_n 0, 1) := by decide +kernel
theorem dX4_fallingMassAt_12 : decode cX4_fallingMassAt 12 = .ok (.getfield 9, 3) := by decide +kernel
theorem dX4_fallingMassAt_15 : decode cX4_fallingMassAt 15 = .ok (.iload_n 1, 1) := by decide +kernel
theorem dX4_fallingMassAt_16 : decode cX4_fallingMassAt 16 = .ok (.iaload, 1) := by decide +kernel
theorem dX4_fallingMassAt_17 : decode cX4_fallingMassAt 17 = .ok (.iconst (-1), 1) := by decide +kernel
theorem dX4_fallingMassAt_18 : decode cX4_fallingMassAt 18 = .ok (.if_icmp .ne 10, 3) := by decide +kernel
theorem dX4_fallingMassAt_21 : decode cX4_fallingMassAt 21 = .ok (.aload_n 0, 1) := by decide +kernel
theorem dX4_fallingMassAt_22 : decode cX4_fallingMassAt 22 = .ok (.invokevirtual 32, 3) := by decide +kernel
theorem dX4_fallingMassAt_25 : decode cX4_fallingMassAt 25 = .ok (.goto 9, 3) := by decide +kernel
theorem dX4_fallingMassAt_28 : decode cX4_fallingMassAt 28 = .ok (.aload_n 0, 1) := by decide +kernel
theorem dX4_fallingMassAt_29 : decode cX4_fallingMassAt 29 = .ok (.getfield 9, 3) := by decide +kernel
theorem dX4_fallingMassAt_32 : decode cX4_fallingMassAt 32 = .ok (.iload_n 1, 1) := by decide +kernel
theorem dX4_fallingMassAt_33 : decode cX4_fallingMassAt 33 = .ok (.iaload, 1) := by decide +kernel
theorem dX4_fallingMassAt_34 : decode cX4_fallingMassAt 34 = .ok (.imul, 1) := by decide +kernel
theorem dX4_fallingMassAt_35 : decode cX4_fallingMassAt 35 = .ok (.ireturn, 1) := by decide +kernel
theorem dX4_warmthAt_0 : decode cX4_warmthAt 0 = .ok (.iload_n 1, 1) := by decide +kernel
theorem dX4_warmthAt_1 : decode cX4_warmthAt 1 = .ok (.invokestatic 28, 3) := by decide +kernel
theorem dX4_warmthAt_4 : decode cX4_warmthAt 4 = .ok (.ifCond .ne 6, 3) := by decide +kernel
theorem dX4_warmthAt_7 : decode cX4_warmthAt 7 = .ok (.bipush (-5), 2) := by decide +kernel
theorem dX4_warmthAt_9 : decode cX4_warmthAt 9 = .ok (.ireturn, 1) := by decide +kernel
theorem dX4_warmthAt_10 : decode cX4_warmthAt 10 = .ok (.aload_n 0, 1) := by decide +kernel
theorem dX4_warmthAt_11 : decode cX4_warmthAt 11 = .ok (.getfield 15, 3) := by decide +kernel
theorem dX4_warmthAt_14 : decode cX4_warmthAt 14 = .ok (.iload_n 1, 1) := by decide +kernel
theorem dX4_warmthAt_15 : decode cX4_warmthAt 15 = .ok (.iaload, 1) := by decide +kernel
theorem dX4_warmthAt_16 : decode cX4_warmthAt 16 = .ok (.bipush (-100), 2) := by decide +kernel
theorem dX4_warmthAt_18 : decode cX4_warmthAt 18 = .ok (.if_icmp .ne 12, 3) := by decide +kernel
theorem dX4_warmthAt_21 : decode cX4_warmthAt 21 = .ok (.aload_n 0, 1) := by decide +kernel
theorem dX4_warmthAt_22 : decode cX4_warmthAt 22 = .ok (.getfield 18, 3) := by decide +kernel
theorem dX4_warmthAt_25 : decode cX4_warmthAt 25 = .ok (.iload_n 1, 1) := by decide +kernel
theorem dX4_warmthAt_26 : decode cX4_warmthAt 26 = .ok (.iaload, 1) := by decide +kernel
theorem dX4_warmthAt_27 : decode cX4_warmthAt 27 = .ok (.goto 9, 3) := by decide +kernel
theorem dX4_warmthAt_30 : decode cX4_warmthAt 30 = .ok (.aload_n 0, 1) := by decide +kernel
theorem dX4_warmthAt_31 : decode cX4_warmthAt 31 = .ok (.getfield 15, 3) := by decide +kernel
theorem dX4_warmthAt_34 : decode cX4_warmthAt 34 = .ok (.iload_n 1, 1) := by decide +kernel
theorem dX4_warmthAt_35 : decode cX4_warmthAt 35 = .ok (.iaload, 1) := by decide +kernel
theorem dX4_warmthAt_36 : decode cX4_warmthAt 36 = .ok (.ireturn, 1) := by decide +kernel
theorem dX4_isDrifting_0 : decode cX4_isDrifting 0 = .ok (.aload_n 0, 1) := by decide +kernel
theorem dX4_isDrifting_1 : decode cX4_isDrifting 1 = .ok (.getfield 25, 3) := by decide +kernel
theorem dX4_isDrifting_4 : decode cX4_isDrifting 4 = .ok (.iconst 3, 1) := by decide +kernel
theorem dX4_isDrifting_5 : decode cX4_isDrifting 5 = .ok (.if_icmp .le 7, 3) := by decide +kernel
theorem dX4_isDrifting_8 : decode cX4_isDrifting 8 = .ok (.iconst 1, 1) := by decide +kernel
theorem dX4_isDrifting_9 : decode cX4_isDrifting 9 = .ok (.goto 4, 3) := by decide +kernel
theorem dX4_isDrifting_12 : decode cX4_isDrifting 12 = .ok (.iconst 0, 1) := by decide +kernel
theorem dX4_isDrifting_13 : decode cX4_isDrifting 13 = .ok (.ireturn, 1) := by decide +kernel
theorem dX4_windSide_0 : decode cX4_windSide 0 = .ok (.aload_n 0, 1) := by decide +kernel
theorem dX4_windSide_1 : decode cX4_windSide 1 = .ok (.getfield 21, 3) := by decide +kernel
theorem dX4_windSide_4 : decode cX4_windSide 4 = .ok (.ireturn, 1) := by decide +kernel
theorem dX4_driftingParts_0 : decode cX4_driftingParts 0 = .ok (.iconst 4, 1) := by decide +kernel
theorem dX4_driftingParts_1 : decode cX4_driftingParts 1 = .ok (.aload_n 0, 1) := by decide +kernel
theorem dX4_driftingParts_2 : decode cX4_driftingParts 2 = .ok (.getfield 25, 3) := by decide +kernel
theorem dX4_driftingParts_5 : decode cX4_driftingParts 5 = .ok (.imul, 1) := by decide +kernel
theorem dX4_driftingParts_6 : decode cX4_driftingParts 6 = .ok (.ireturn, 1) := by decide +kernel
theorem dX4_endDay_0 : decode cX4_endDay 0 = .ok (.iconst 0, 1) := by decide +kernel
theorem dX4_endDay_1 : decode cX4_endDay 1 = .ok (.istore_n 1, 1) := by decide +kernel
theorem dX4_endDay_2 : decode cX4_endDay 2 = .ok (.iload_n 1, 1) := by decide +kernel
theorem dX4_endDay_3 : decode cX4_endDay 3 = .ok (.iconst 3, 1) := by decide +kernel
theorem dX4_endDay_4 : decode cX4_endDay 4 = .ok (.if_icmp .ge 35, 3) := by decide +kernel
theorem dX4_endDay_7 : decode cX4_endDay 7 = .ok (.aload_n 0, 1) := by decide +kernel
theorem dX4_endDay_8 : decode cX4_endDay 8 = .ok (.getfield 18, 3) := by decide +kernel
theorem dX4_endDay_11 : decode cX4_endDay 11 = .ok (.iload_n 1, 1) := by decide +kernel
theorem dX4_endDay_12 : decode cX4_endDay 12 = .ok (.aload_n 0, 1) := by decide +kernel
theorem dX4_endDay_13 : decode cX4_endDay 13 = .ok (.iload_n 1, 1) := by decide +kernel
theorem dX4_endDay_14 : decode cX4_endDay 14 = .ok (.invokevirtual 36, 3) := by decide +kernel
theorem dX4_endDay_17 : decode cX4_endDay 17 = .ok (.iastore, 1) := by decide +kernel
theorem dX4_endDay_18 : decode cX4_endDay 18 = .ok (.aload_n 0, 1) := by decide +kernel
theorem dX4_endDay_19 : decode cX4_endDay 19 = .ok (.getfield 15, 3) := by decide +kernel
theorem dX4_endDay_22 : decode cX4_endDay 22 = .ok (.iload_n 1, 1) := by decide +kernel
theorem dX4_endDay_23 : decode cX4_endDay 23 = .ok (.bipush (-100), 2) := by decide +kernel
theorem dX4_endDay_25 : decode cX4_endDay 25 = .ok (.iastore, 1) := by decide +kernel
theorem dX4_endDay_26 : decode cX4_endDay 26 = .ok (.aload_n 0, 1) := by decide +kernel
theorem dX4_endDay_27 : decode cX4_endDay 27 = .ok (.getfield 9, 3) := by decide +kernel
theorem dX4_endDay_30 : decode cX4_endDay 30 = .ok (.iload_n 1, 1) := by decide +kernel
theorem dX4_endDay_31 : decode cX4_endDay 31 = .ok (.iconst (-1), 1) := by decide +kernel
theorem dX4_endDay_32 : decode cX4_endDay 32 = .ok (.iastore, 1) := by decide +kernel
theorem dX4_endDay_33 : decode cX4_endDay 33 = .ok (.iinc 1 1, 3) := by decide +kernel
theorem dX4_endDay_36 : decode cX4_endDay 36 = .ok (.goto (-34), 3) := by decide +kernel
theorem dX4_endDay_39 : decode cX4_endDay 39 = .ok (.aload_n 0, 1) := by decide +kernel
theorem dX4_endDay_40 : decode cX4_endDay 40 = .ok (.iconst 0, 1) := by decide +kernel
theorem dX4_endDay_41 : decode cX4_endDay 41 = .ok (.putfield 25, 3) := by decide +kernel
theorem dX4_endDay_44 : decode cX4_endDay 44 = .ok (.return_, 1) := by decide +kernel
theorem dX4_meanSnow_0 : decode cX4_meanSnow 0 = .ok (.iconst 0, 1) := by decide +kernel
theorem dX4_meanSnow_1 : decode cX4_meanSnow 1 = .ok (.istore_n 1, 1) := by decide +kernel
theorem dX4_meanSnow_2 : decode cX4_meanSnow 2 = .ok (.iconst 0, 1) := by decide +kernel
theorem dX4_meanSnow_3 : decode cX4_meanSnow 3 = .ok (.istore_n 2, 1) := by decide +kernel
theorem dX4_meanSnow_4 : decode cX4_meanSnow 4 = .ok (.iconst 0, 1) := by decide +kernel
theorem dX4_meanSnow_5 : decode cX4_meanSnow 5 = .ok (.istore_n 3, 1) := by decide +kernel
theorem dX4_meanSnow_6 : decode cX4_meanSnow 6 = .ok (.iload_n 3, 1) := by decide +kernel
theorem dX4_meanSnow_7 : decode cX4_meanSnow 7 = .ok (.iconst 3, 1) := by decide +kernel
theorem dX4_meanSnow_8 : decode cX4_meanSnow 8 = .ok (.if_icmp .ge 31, 3) := by decide +kernel
theorem dX4_meanSnow_11 : decode cX4_meanSnow 11 = .ok (.aload_n 0, 1) := by decide +kernel
theorem dX4_meanSnow_12 : decode cX4_meanSnow 12 = .ok (.getfield 9, 3) := by decide +kernel
theorem dX4_meanSnow_15 : decode cX4_meanSnow 15 = .ok (.iload_n 3, 1) := by decide +kernel
theorem dX4_meanSnow_16 : decode cX4_meanSnow 16 = .ok (.iaload, 1) := by decide +kernel
theorem dX4_meanSnow_17 : decode cX4_meanSnow 17 = .ok (.iconst (-1), 1) := by decide +kernel
theorem dX4_meanSnow_18 : decode cX4_meanSnow 18 = .ok (.if_icmp .eq 15, 3) := by decide +kernel
theorem dX4_meanSnow_21 : decode cX4_meanSnow 21 = .ok (.iload_n 1, 1) := by decide +kernel
theorem dX4_meanSnow_22 : decode cX4_meanSnow 22 = .ok (.aload_n 0, 1) := by decide +kernel
theorem dX4_meanSnow_23 : decode cX4_meanSnow 23 = .ok (.getfield 9, 3) := by decide +kernel
theorem dX4_meanSnow_26 : decode cX4_meanSnow 26 = .ok (.iload_n 3, 1) := by decide +kernel
theorem dX4_meanSnow_27 : decode cX4_meanSnow 27 = .ok (.iaload, 1) := by decide +kernel
theorem dX4_meanSnow_28 : decode cX4_meanSnow 28 = .ok (.iadd, 1) := by decide +kernel
theorem dX4_meanSnow_29 : decode cX4_meanSnow 29 = .ok (.istore_n 1, 1) := by decide +kernel
theorem dX4_meanSnow_30 : decode cX4_meanSnow 30 = .ok (.iinc 2 1, 3) := by decide +kernel
theorem dX4_meanSnow_33 : decode cX4_meanSnow 33 = .ok (.iinc 3 1, 3) := by decide +kernel
theorem dX4_meanSnow_36 : decode cX4_meanSnow 36 = .ok (.goto (-30), 3) := by decide +kernel
theorem dX4_meanSnow_39 : decode cX4_meanSnow 39 = .ok (.iload_n 2, 1) := by decide +kernel
theorem dX4_meanSnow_40 : decode cX4_meanSnow 40 = .ok (.ifCond .ne 7, 3) := by decide +kernel
theorem dX4_meanSnow_43 : decode cX4_meanSnow 43 = .ok (.iconst 0, 1) := by decide +kernel
theorem dX4_meanSnow_44 : decode cX4_meanSnow 44 = .ok (.goto 6, 3) := by decide +kernel
theorem dX4_meanSnow_47 : decode cX4_meanSnow 47 = .ok (.iload_n 1, 1) := by decide +kernel
theorem dX4_meanSnow_48 : decode cX4_meanSnow 48 = .ok (.iload_n 2, 1) := by decide +kernel
theorem dX4_meanSnow_49 : decode cX4_meanSnow 49 = .ok (.idiv, 1) := by decide +kernel
theorem dX4_meanSnow_50 : decode cX4_meanSnow 50 = .ok (.ireturn, 1) := by decide +kernel
theorem dX5_init_0 : decode cX5_init 0 = .ok (.aload_n 0, 1) := by decide +kernel
theorem dX5_init_1 : decode cX5_init 1 = .ok (.invokespecial 3, 3) := by decide +kernel
theorem dX5_init_4 : decode cX5_init 4 = .ok (.aload_n 0, 1) := by decide +kernel
theorem dX5_init_5 : decode cX5_init 5 = .ok (.bipush 12, 2) := by decide +kernel
theorem dX5_init_7 : decode cX5_init 7 = .ok (.anewarray 9, 3) := by decide +kernel
theorem dX5_init_10 : decode cX5_init 10 = .ok (.putfield 11, 3) := by decide +kernel
theorem dX5_init_13 : decode cX5_init 13 = .ok (.aload_n 0, 1) := by decide +kernel
theorem dX5_init_14 : decode cX5_init 14 = .ok (.new 15, 3) := by decide +kernel
theorem dX5_init_17 : decode cX5_init 17 = .ok (.dup, 1) := by decide +kernel
theorem dX5_init_18 : decode cX5_init 18 = .ok (.invokespecial 17, 3) := by decide +kernel
theorem dX5_init_21 : decode cX5_init 21 = .ok (.putfield 18, 3) := by decide +kernel
theorem dX5_init_24 : decode cX5_init 24 = .ok (.aload_n 0, 1) := by decide +kernel
theorem dX5_init_25 : decode cX5_init 25 = .ok (.new 22, 3) := by decide +kernel
theorem dX5_init_28 : decode cX5_init 28 = .ok (.dup, 1) := by decide +kernel
theorem dX5_init_29 : decode cX5_init 29 = .ok (.invokespecial 24, 3) := by decide +kernel
theorem dX5_init_32 : decode cX5_init 32 = .ok (.putfield 25, 3) := by decide +kernel
theorem dX5_init_35 : decode cX5_init 35 = .ok (.aload_n 0, 1) := by decide +kernel
theorem dX5_init_36 : decode cX5_init 36 = .ok (.new 29, 3) := by decide +kernel
theorem dX5_init_39 : decode cX5_init 39 = .ok (.dup, 1) := by decide +kernel
theorem dX5_init_40 : decode cX5_init 40 = .ok (.invokespecial 31, 3) := by decide +kernel
theorem dX5_init_43 : decode cX5_init 43 = .ok (.putfield 32, 3) := by decide +kernel
theorem dX5_init_46 : decode cX5_init 46 = .ok (.aload_n 0, 1) := by decide +kernel
theorem dX5_init_47 : decode cX5_init 47 = .ok (.new 36, 3) := by decide +kernel
theorem dX5_init_50 : decode cX5_init 50 = .ok (.dup, 1) := by decide +kernel
theorem dX5_init_51 : decode cX5_init 51 = .ok (.invokespecial 38, 3) := by decide +kernel
theorem dX5_init_54 : decode cX5_init 54 = .ok (.putfield 39, 3) := by decide +kernel
theorem dX5_init_57 : decode cX5_init 57 = .ok (.aload_n 0, 1) := by decide +kernel
theorem dX5_init_58 : decode cX5_init 58 = .ok (.iconst 0, 1) := by decide +kernel
theorem dX5_init_59 : decode cX5_init 59 = .ok (.putfield 43, 3) := by decide +kernel
theorem dX5_init_62 : decode cX5_init 62 = .ok (.aload_n 0, 1) := by decide +kernel
theorem dX5_init_63 : decode cX5_init 63 = .ok (.iconst 0, 1) := by decide +kernel
theorem dX5_init_64 : decode cX5_init 64 = .ok (.putfield 47, 3) := by decide +kernel
theorem dX5_init_67 : decode cX5_init 67 = .ok (.aload_n 0, 1) := by decide +kernel
theorem dX5_init_68 : decode cX5_init 68 = .ok (.iconst 0, 1) := by decide +kernel
theorem dX5_init_69 : decode cX5_init 69 = .ok (.putfield 50, 3) := by decide +kernel
theorem dX5_init_72 : decode cX5_init 72 = .ok (.aload_n 0, 1) := by decide +kernel
theorem dX5_init_73 : decode cX5_init 73 = .ok (.iconst 0, 1) := by decide +kernel
theorem dX5_init_74 : decode cX5_init 74 = .ok (.putfield 53, 3) := by decide +kernel
theorem dX5_init_77 : decode cX5_init 77 = .ok (.iconst 0, 1) := by decide +kernel
theorem dX5_init_78 : decode cX5_init 78 = .ok (.istore_n 1, 1) := by decide +kernel
theorem dX5_init_79 : decode cX5_init 79 = .ok (.iload_n 1, 1) := by decide +kernel
theorem dX5_init_80 : decode cX5_init 80 = .ok (.bipush 12, 2) := by decide +kernel
theorem dX5_init_82 : decode cX5_init 82 = .ok (.if_icmp .ge 22, 3) := by decide +kernel
theorem dX5_init_85 : decode cX5_init 85 = .ok (.aload_n 0, 1) := by decide +kernel
theorem dX5_init_86 : decode cX5_init 86 = .ok (.getfield 11, 3) := by decide +kernel
theorem dX5_init_89 : decode cX5_init 89 = .ok (.iload_n 1, 1) := by decide +kernel
theorem dX5_init_90 : decode cX5_init 90 = .ok (.new 9, 3) := by decide +kernel
theorem dX5_init_93 : decode cX5_init 93 = .ok (.dup, 1) := by decide +kernel
theorem dX5_init_94 : decode cX5_init 94 = .ok (.invokespecial 56, 3) := by decide +kernel
theorem dX5_init_97 : decode cX5_init 97 = .ok (.aastore, 1) := by decide +kernel
theorem dX5_init_98 : decode cX5_init 98 = .ok (.iinc 1 1, 3) := by decide +kernel
theorem dX5_init_101 : decode cX5_init 101 = .ok (.goto (-22), 3) := by decide +kernel
theorem dX5_init_104 : decode cX5_init 104 = .ok (.return_, 1) := by decide +kernel
theorem dX5_snow_0 : decode cX5_snow 0 = .ok (.aload_n 0, 1) := by decide +kernel
theorem dX5_snow_1 : decode cX5_snow 1 = .ok (.getfield 43, 3) := by decide +kernel
theorem dX5_snow_4 : decode cX5_snow 4 = .ok (.sipush 400, 3) := by decide +kernel
theorem dX5_snow_7 : decode cX5_snow 7 = .ok (.if_icmp .ge 17, 3) := by decide +kernel
theorem dX5_snow_10 : decode cX5_snow 10 = .ok (.iload_n 1, 1) := by decide +kernel
theorem dX5_snow_11 : decode cX5_snow 11 = .ok (.invokestatic 57, 3) := by decide +kernel
theorem dX5_snow_14 : decode cX5_snow 14 = .ok (.ifCond .eq 10, 3) := by decide +kernel
theorem dX5_snow_17 : decode cX5_snow 17 = .ok (.iload_n 2, 1) := by decide +kernel
theorem dX5_snow_18 : decode cX5_snow 18 = .ok (.invokestatic 61, 3) := by decide +kernel
theorem dX5_snow_21 : decode cX5_snow 21 = .ok (.ifCond .ne 5, 3) := by decide +kernel
theorem dX5_snow_24 : decode cX5_snow 24 = .ok (.iconst 0, 1) := by decide +kernel
theorem dX5_snow_25 : decode cX5_snow 25 = .ok (.ireturn, 1) := by decide +kernel
theorem dX5_snow_26 : decode cX5_snow 26 = .ok (.aload_n 0, 1) := by decide +kernel
theorem dX5_snow_27 : decode cX5_snow 27 = .ok (.getfield 18, 3) := by decide +kernel
theorem dX5_snow_30 : decode cX5_snow 30 = .ok (.iload_n 1, 1) := by decide +kernel
theorem dX5_snow_31 : decode cX5_snow 31 = .ok (.iload_n 2, 1) := by decide +kernel
theorem dX5_snow_32 : decode cX5_snow 32 = .ok (.invokevirtual 64, 3) := by decide +kernel
theorem dX5_snow_35 : decode cX5_snow 35 = .ok (.iconst 1, 1) := by decide +kernel
theorem dX5_snow_36 : decode cX5_snow 36 = .ok (.ireturn, 1) := by decide +kernel
theorem dX5_warmth_0 : decode cX5_warmth 0 = .ok (.aload_n 0, 1) := by decide +kernel
theorem dX5_warmth_1 : decode cX5_warmth 1 = .ok (.getfield 43, 3) := by decide +kernel
theorem dX5_warmth_4 : decode cX5_warmth 4 = .ok (.sipush 400, 3) := by decide +kernel
theorem dX5_warmth_7 : decode cX5_warmth 7 = .ok (.if_icmp .ge 17, 3) := by decide +kernel
theorem dX5_warmth_10 : decode cX5_warmth 10 = .ok (.iload_n 1, 1) := by decide +kernel
theorem dX5_warmth_11 : decode cX5_warmth 11 = .ok (.invokestatic 57, 3) := by decide +kernel
theorem dX5_warmth_14 : decode cX5_warmth 14 = .ok (.ifCond .eq 10, 3) := by decide +kernel
theorem dX5_warmth_17 : decode cX5_warmth 17 = .ok (.iload_n 2, 1) := by decide +kernel
theorem dX5_warmth_18 : decode cX5_warmth 18 = .ok (.invokestatic 68, 3) := by decide +kernel
theorem dX5_warmth_21 : decode cX5_warmth 21 = .ok (.ifCond .ne 5, 3) := by decide +kernel
theorem dX5_warmth_24 : decode cX5_warmth 24 = .ok (.iconst 0, 1) := by decide +kernel
theorem dX5_warmth_25 : decode cX5_warmth 25 = .ok (.ireturn, 1) := by decide +kernel
theorem dX5_warmth_26 : decode cX5_warmth 26 = .ok (.aload_n 0, 1) := by decide +kernel
theorem dX5_warmth_27 : decode cX5_warmth 27 = .ok (.getfield 18, 3) := by decide +kernel
theorem dX5_warmth_30 : decode cX5_warmth 30 = .ok (.iload_n 1, 1) := by decide +kernel
theorem dX5_warmth_31 : decode cX5_warmth 31 = .ok (.iload_n 2, 1) := by decide +kernel
theorem dX5_warmth_32 : decode cX5_warmth 32 = .ok (.invokevirtual 71, 3) := by decide +kernel
theorem dX5_warmth_35 : decode cX5_warmth 35 = .ok (.iconst 1, 1) := by decide +kernel
theorem dX5_warmth_36 : decode cX5_warmth 36 = .ok (.ireturn, 1) := by decide +kernel
theorem dX5_wind_0 : decode cX5_wind 0 = .ok (.aload_n 0, 1) := by decide +kernel
theorem dX5_wind_1 : decode cX5_wind 1 = .ok (.getfield 43, 3) := by decide +kernel
theorem dX5_wind_4 : decode cX5_wind 4 = .ok (.sipush 400, 3) := by decide +kernel
theorem dX5_wind_7 : decode cX5_wind 7 = .ok (.if_icmp .ge 19, 3) := by decide +kernel
theorem dX5_wind_10 : decode cX5_wind 10 = .ok (.iload_n 1, 1) := by decide +kernel
theorem dX5_wind_11 : decode cX5_wind 11 = .ok (.ifCond .lt 15, 3) := by decide +kernel
theorem dX5_wind_14 : decode cX5_wind 14 = .ok (.iload_n 1, 1) := by decide +kernel
theorem dX5_wind_15 : decode cX5_wind 15 = .ok (.iconst 4, 1) := by decide +kernel
theorem dX5_wind_16 : decode cX5_wind 16 = .ok (.if_icmp .ge 10, 3) := by decide +kernel
theorem dX5_wind_19 : decode cX5_wind 19 = .ok (.iload_n 2, 1) := by decide +kernel
theorem dX5_wind_20 : decode cX5_wind 20 = .ok (.invokestatic 74, 3) := by decide +kernel
theorem dX5_wind_23 : decode cX5_wind 23 = .ok (.ifCond .ne 5, 3) := by decide +kernel
theorem dX5_wind_26 : decode cX5_wind 26 = .ok (.iconst 0, 1) := by decide +kernel
theorem dX5_wind_27 : decode cX5_wind 27 = .ok (.ireturn, 1) := by decide +kernel
theorem dX5_wind_28 : decode cX5_wind 28 = .ok (.aload_n 0, 1) := by decide +kernel
theorem dX5_wind_29 : decode cX5_wind 29 = .ok (.getfield 18, 3) := by decide +kernel
theorem dX5_wind_32 : decode cX5_wind 32 = .ok (.iload_n 1, 1) := by decide +kernel
theorem dX5_wind_33 : decode cX5_wind 33 = .ok (.iload_n 2, 1) := by decide +kernel
theorem dX5_wind_34 : decode cX5_wind 34 = .ok (.invokevirtual 77, 3) := by decide +kernel
theorem dX5_wind_37 : decode cX5_wind 37 = .ok (.iconst 1, 1) := by decide +kernel
theorem dX5_wind_38 : decode cX5_wind 38 = .ok (.ireturn, 1) := by decide +kernel
theorem dX5_go_0 : decode cX5_go 0 = .ok (.iload_n 1, 1) := by decide +kernel
theorem dX5_go_1 : decode cX5_go 1 = .ok (.ifCond .lt 9, 3) := by decide +kernel
theorem dX5_go_4 : decode cX5_go 4 = .ok (.iload_n 1, 1) := by decide +kernel
theorem dX5_go_5 : decode cX5_go 5 = .ok (.bipush 30, 2) := by decide +kernel
theorem dX5_go_7 : decode cX5_go 7 = .ok (.if_icmp .le 5, 3) := by decide +kernel
theorem dX5_go_10 : decode cX5_go 10 = .ok (.iconst (-1), 1) := by decide +kernel
theorem dX5_go_11 : decode cX5_go 11 = .ok (.ireturn, 1) := by decide +kernel
theorem dX5_go_12 : decode cX5_go 12 = .ok (.iconst 0, 1) := by decide +kernel
theorem dX5_go_13 : decode cX5_go 13 = .ok (.istore_n 2, 1) := by decide +kernel
theorem dX5_go_14 : decode cX5_go 14 = .ok (.iload_n 2, 1) := by decide +kernel
theorem dX5_go_15 : decode cX5_go 15 = .ok (.iload_n 1, 1) := by decide +kernel
theorem dX5_go_16 : decode cX5_go 16 = .ok (.if_icmp .ge 23, 3) := by decide +kernel
theorem dX5_go_19 : decode cX5_go 19 = .ok (.aload_n 0, 1) := by decide +kernel
theorem dX5_go_20 : decode cX5_go 20 = .ok (.getfield 43, 3) := by decide +kernel
theorem dX5_go_23 : decode cX5_go 23 = .ok (.sipush 400, 3) := by decide +kernel
theorem dX5_go_26 : decode cX5_go 26 = .ok (.if_icmp .ge 13, 3) := by decide +kernel
theorem dX5_go_29 : decode cX5_go 29 = .ok (.aload_n 0, 1) := by decide +kernel
theorem dX5_go_30 : decode cX5_go 30 = .ok (.invokevirtual 80, 3) := by decide +kernel
theorem dX5_go_33 : decode cX5_go 33 = .ok (.iinc 2 1, 3) := by decide +kernel
theorem dX5_go_36 : decode cX5_go 36 = .ok (.goto (-22), 3) := by decide +kernel
theorem dX5_go_39 : decode cX5_go 39 = .ok (.aload_n 0, 1) := by decide +kernel
theorem dX5_go_40 : decode cX5_go 40 = .ok (.getfield 43, 3) := by decide +kernel
theorem dX5_go_43 : decode cX5_go 43 = .ok (.ireturn, 1) := by decide +kernel
theorem dX5_layer_0 : decode cX5_layer 0 = .ok (.iload_n 1, 1) := by decide +kernel
theorem dX5_layer_1 : decode cX5_layer 1 = .ok (.invokestatic 83, 3) := by decide +kernel
theorem dX5_layer_4 : decode cX5_layer 4 = .ok (.ifCond .eq 16, 3) := by decide +kernel
theorem dX5_layer_7 : decode cX5_layer 7 = .ok (.aload_n 0, 1) := by decide +kernel
theorem dX5_layer_8 : decode cX5_layer 8 = .ok (.getfield 11, 3) := by decide +kernel
theorem dX5_layer_11 : decode cX5_layer 11 = .ok (.iload_n 1, 1) := by decide +kernel
theorem dX5_layer_12 : decode cX5_layer 12 = .ok (.aaload, 1) := by decide +kernel
theorem dX5_layer_13 : decode cX5_layer 13 = .ok (.iload_n 2, 1) := by decide +kernel
theorem dX5_layer_14 : decode cX5_layer 14 = .ok (.invokevirtual 86, 3) := by decide +kernel
theorem dX5_layer_17 : decode cX5_layer 17 = .ok (.ifCond .ne 5, 3) := by decide +kernel
theorem dX5_layer_20 : decode cX5_layer 20 = .ok (.iconst (-1), 1) := by decide +kernel
theorem dX5_layer_21 : decode cX5_layer 21 = .ok (.ireturn, 1) := by decide +kernel
theorem dX5_layer_22 : decode cX5_layer 22 = .ok (.aload_n 0, 1) := by decide +kernel
theorem dX5_layer_23 : decode cX5_layer 23 = .ok (.getfield 11, 3) := by decide +kernel
theorem dX5_layer_26 : decode cX5_layer 26 = .ok (.iload_n 1, 1) := by decide +kernel
theorem dX5_layer_27 : decode cX5_layer 27 = .ok (.aaload, 1) := by decide +kernel
theorem dX5_layer_28 : decode cX5_layer 28 = .ok (.astore 4, 2) := by decide +kernel
theorem dX5_layer_30 : decode cX5_layer 30 = .ok (.iload_n 3, 1) := by decide +kernel
theorem dX5_layer_31 : decode cX5_layer 31 = .ok (.tableswitch 68 0 4 #[33, 40, 47, 54, 61], 33) := by decide +kernel
theorem dX5_layer_64 : decode cX5_layer 64 = .ok (.aload 4, 2) := by decide +kernel
theorem dX5_layer_66 : decode cX5_layer 66 = .ok (.iload_n 2, 1) := by decide +kernel
theorem dX5_layer_67 : decode cX5_layer 67 = .ok (.invokevirtual 89, 3) := by decide +kernel
theorem dX5_layer_70 : decode cX5_layer 70 = .ok (.ireturn, 1) := by decide +kernel
theorem dX5_layer_71 : decode cX5_layer 71 = .ok (.aload 4, 2) := by decide +kernel
theorem dX5_layer_73 : decode cX5_layer 73 = .ok (.iload_n 2, 1) := by decide +kernel
theorem dX5_layer_74 : decode cX5_layer 74 = .ok (.invokevirtual 93, 3) := by decide +kernel
theorem dX5_layer_77 : decode cX5_layer 77 = .ok (.ireturn, 1) := by decide +kernel
theorem dX5_layer_78 : decode cX5_layer 78 = .ok (.aload 4, 2) := by decide +kernel
theorem dX5_layer_80 : decode cX5_layer 80 = .ok (.iload_n 2, 1) := by decide +kernel
theorem dX5_layer_81 : decode cX5_layer 81 = .ok (.invokevirtual 96, 3) := by decide +kernel
theorem dX5_layer_84 : decode cX5_layer 84 = .ok (.ireturn, 1) := by decide +kernel
theorem dX5_layer_85 : decode cX5_layer 85 = .ok (.aload 4, 2) := by decide +kernel
theorem dX5_layer_87 : decode cX5_layer 87 = .ok (.iload_n 2, 1) := by decide +kernel
theorem dX5_layer_88 : decode cX5_layer 88 = .ok (.invokevirtual 99, 3) := by decide +kernel
theorem dX5_layer_91 : decode cX5_layer 91 = .ok (.ireturn, 1) := by decide +kernel
theorem dX5_layer_92 : decode cX5_layer 92 = .ok (.aload 4, 2) := by decide +kernel
theorem dX5_layer_94 : decode cX5_layer 94 = .ok (.iload_n 2, 1) := by decide +kernel
theorem dX5_layer_95 : decode cX5_layer 95 = .ok (.invokevirtual 102, 3) := by decide +kernel
theorem dX5_layer_98 : decode cX5_layer 98 = .ok (.ireturn, 1) := by decide +kernel
theorem dX5_layer_99 : decode cX5_layer 99 = .ok (.iconst (-1), 1) := by decide +kernel
theorem dX5_layer_100 : decode cX5_layer 100 = .ok (.ireturn, 1) := by decide +kernel
theorem dX5_told_0 : decode cX5_told 0 = .ok (.iload_n 1, 1) := by decide +kernel
theorem dX5_told_1 : decode cX5_told 1 = .ok (.invokestatic 83, 3) := by decide +kernel
theorem dX5_told_4 : decode cX5_told 4 = .ok (.ifCond .ne 5, 3) := by decide +kernel
theorem dX5_told_7 : decode cX5_told 7 = .ok (.iconst (-1), 1) := by decide +kernel
theorem dX5_told_8 : decode cX5_told 8 = .ok (.ireturn, 1) := by decide +kernel
theorem dX5_told_9 : decode cX5_told 9 = .ok (.aload_n 0, 1) := by decide +kernel
theorem dX5_told_10 : decode cX5_told 10 = .ok (.getfield 11, 3) := by decide +kernel
theorem dX5_told_13 : decode cX5_told 13 = .ok (.iload_n 1, 1) := by decide +kernel
theorem dX5_told_14 : decode cX5_told 14 = .ok (.aaload, 1) := by decide +kernel
theorem dX5_told_15 : decode cX5_told 15 = .ok (.astore_n 3, 1) := by decide +kernel
theorem dX5_told_16 : decode cX5_told 16 = .ok (.aload_n 3, 1) := by decide +kernel
theorem dX5_told_17 : decode cX5_told 17 = .ok (.invokevirtual 105, 3) := by decide +kernel
theorem dX5_told_20 : decode cX5_told 20 = .ok (.istore 4, 2) := by decide +kernel
theorem dX5_told_22 : decode cX5_told 22 = .ok (.iload_n 2, 1) := by decide +kernel
theorem dX5_told_23 : decode cX5_told 23 = .ok (.tableswitch 73 0 5 #[37, 40, 46, 53, 60, 66], 37) := by decide +kernel
theorem dX5_told_60 : decode cX5_told 60 = .ok (.iload 4, 2) := by decide +kernel
theorem dX5_told_62 : decode cX5_told 62 = .ok (.ireturn, 1) := by decide +kernel
theorem dX5_told_63 : decode cX5_told 63 = .ok (.aload_n 3, 1) := by decide +kernel
theorem dX5_told_64 : decode cX5_told 64 = .ok (.iconst (-1), 1) := by decide +kernel
theorem dX5_told_65 : decode cX5_told 65 = .ok (.invokevirtual 99, 3) := by decide +kernel
theorem dX5_told_68 : decode cX5_told 68 = .ok (.ireturn, 1) := by decide +kernel
theorem dX5_told_69 : decode cX5_told 69 = .ok (.aload_n 3, 1) := by decide +kernel
theorem dX5_told_70 : decode cX5_told 70 = .ok (.iload 4, 2) := by decide +kernel
theorem dX5_told_72 : decode cX5_told 72 = .ok (.invokevirtual 109, 3) := by decide +kernel
theorem dX5_told_75 : decode cX5_told 75 = .ok (.ireturn, 1) := by decide +kernel
theorem dX5_told_76 : decode cX5_told 76 = .ok (.aload_n 3, 1) := by decide +kernel
theorem dX5_told_77 : decode cX5_told 77 = .ok (.iload 4, 2) := by decide +kernel
theorem dX5_told_79 : decode cX5_told 79 = .ok (.invokevirtual 112, 3) := by decide +kernel
theorem dX5_told_82 : decode cX5_told 82 = .ok (.ireturn, 1) := by decide +kernel
theorem dX5_told_83 : decode cX5_told 83 = .ok (.aload_n 0, 1) := by decide +kernel
theorem dX5_told_84 : decode cX5_told 84 = .ok (.iload_n 1, 1) := by decide +kernel
theorem dX5_told_85 : decode cX5_told 85 = .ok (.invokevirtual 115, 3) := by decide +kernel
theorem dX5_told_88 : decode cX5_told 88 = .ok (.ireturn, 1) := by decide +kernel
theorem dX5_told_89 : decode cX5_told 89 = .ok (.aload_n 3, 1) := by decide +kernel
theorem dX5_told_90 : decode cX5_told 90 = .ok (.iload 4, 2) := by decide +kernel
theorem dX5_told_92 : decode cX5_told 92 = .ok (.invokevirtual 118, 3) := by decide +kernel
theorem dX5_told_95 : decode cX5_told 95 = .ok (.ireturn, 1) := by decide +kernel
theorem dX5_told_96 : decode cX5_told 96 = .ok (.iconst (-1), 1) := by decide +kernel
theorem dX5_told_97 : decode cX5_told 97 = .ok (.ireturn, 1) := by decide +kernel
theorem dX5_slide_0 : decode cX5_slide 0 = .ok (.iload_n 1, 1) := by decide +kernel
theorem dX5_slide_1 : decode cX5_slide 1 = .ok (.invokestatic 83, 3) := by decide +kernel
theorem dX5_slide_4 : decode cX5_slide 4 = .ok (.ifCond .eq 31, 3) := by decide +kernel
theorem dX5_slide_7 : decode cX5_slide 7 = .ok (.aload_n 0, 1) := by decide +kernel
theorem dX5_slide_8 : decode cX5_slide 8 = .ok (.getfield 11, 3) := by decide +kernel
theorem dX5_slide_11 : decode cX5_slide 11 = .ok (.iload_n 1, 1) := by decide +kernel
theorem dX5_slide_12 : decode cX5_slide 12 = .ok (.aaload, 1) := by decide +kernel
theorem dX5_slide_13 : decode cX5_slide 13 = .ok (.iload_n 2, 1) := by decide +kernel
theorem dX5_slide_14 : decode cX5_slide 14 = .ok (.invokevirtual 86, 3) := by decide +kernel
theorem dX5_slide_17 : decode cX5_slide 17 = .ok (.ifCond .eq 18, 3) := by decide +kernel
theorem dX5_slide_20 : decode cX5_slide 20 = .ok (.aload_n 0, 1) := by decide +kernel
theorem dX5_slide_21 : decode cX5_slide 21 = .ok (.getfield 11, 3) := by decide +kernel
theorem dX5_slide_24 : decode cX5_slide 24 = .ok (.iload_n 1, 1) := by decide +kernel
theorem dX5_slide_25 : decode cX5_slide 25 = .ok (.aaload, 1) := by decide +kernel
theorem dX5_slide_26 : decode cX5_slide 26 = .ok (.iload_n 2, 1) := by decide +kernel
theorem dX5_slide_27 : decode cX5_slide 27 = .ok (.iconst 1, 1) := by decide +kernel
theorem dX5_slide_28 : decode cX5_slide 28 = .ok (.iadd, 1) := by decide +kernel
theorem dX5_slide_29 : decode cX5_slide 29 = .ok (.invokevirtual 86, 3) := by decide +kernel
theorem dX5_slide_32 : decode cX5_slide 32 = .ok (.ifCond .ne 5, 3) := by decide +kernel
theorem dX5_slide_35 : decode cX5_slide 35 = .ok (.iconst (-1), 1) := by decide +kernel
theorem dX5_slide_36 : decode cX5_slide 36 = .ok (.ireturn, 1) := by decide +kernel
theorem dX5_slide_37 : decode cX5_slide 37 = .ok (.aload_n 0, 1) := by decide +kernel
theorem dX5_slide_38 : decode cX5_slide 38 = .ok (.getfield 39, 3) := by decide +kernel
theorem dX5_slide_41 : decode cX5_slide 41 = .ok (.iload_n 1, 1) := by decide +kernel
theorem dX5_slide_42 : decode cX5_slide 42 = .ok (.invokevirtual 121, 3) := by decide +kernel
theorem dX5_slide_45 : decode cX5_slide 45 = .ok (.aload_n 0, 1) := by decide +kernel
theorem dX5_slide_46 : decode cX5_slide 46 = .ok (.iload_n 1, 1) := by decide +kernel
theorem dX5_slide_47 : decode cX5_slide 47 = .ok (.iload_n 2, 1) := by decide +kernel
theorem dX5_slide_48 : decode cX5_slide 48 = .ok (.invokevirtual 125, 3) := by decide +kernel
theorem dX5_slide_51 : decode cX5_slide 51 = .ok (.ireturn, 1) := by decide +kernel
theorem dX5_shot_0 : decode cX5_shot 0 = .ok (.iload_n 1, 1) := by decide +kernel
theorem dX5_shot_1 : decode cX5_shot 1 = .ok (.invokestatic 83, 3) := by decide +kernel
theorem dX5_shot_4 : decode cX5_shot 4 = .ok (.ifCond .ne 5, 3) := by decide +kernel
theorem dX5_shot_7 : decode cX5_shot 7 = .ok (.iconst (-1), 1) := by decide +kernel
theorem dX5_shot_8 : decode cX5_shot 8 = .ok (.ireturn, 1) := by decide +kernel
theorem dX5_shot_9 : decode cX5_shot 9 = .ok (.aload_n 0, 1) := by decide +kernel
theorem dX5_shot_10 : decode cX5_shot 10 = .ok (.getfield 11, 3) := by decide +kernel
theorem dX5_shot_13 : decode cX5_shot 13 = .ok (.iload_n 1, 1) := by decide +kernel
theorem dX5_shot_14 : decode cX5_shot 14 = .ok (.aaload, 1) := by decide +kernel
theorem dX5_shot_15 : decode cX5_shot 15 = .ok (.astore_n 2, 1) := by decide +kernel
theorem dX5_shot_16 : decode cX5_shot 16 = .ok (.aload_n 2, 1) := by decide +kernel
theorem dX5_shot_17 : decode cX5_shot 17 = .ok (.invokevirtual 105, 3) := by decide +kernel
theorem dX5_shot_20 : decode cX5_shot 20 = .ok (.istore_n 3, 1) := by decide +kernel
theorem dX5_shot_21 : decode cX5_shot 21 = .ok (.aload_n 2, 1) := by decide +kernel
theorem dX5_shot_22 : decode cX5_shot 22 = .ok (.iload_n 3, 1) := by decide +kernel
theorem dX5_shot_23 : decode cX5_shot 23 = .ok (.invokevirtual 109, 3) := by decide +kernel
theorem dX5_shot_26 : decode cX5_shot 26 = .ok (.iconst 2, 1) := by decide +kernel
theorem dX5_shot_27 : decode cX5_shot 27 = .ok (.if_icmp .ge 5, 3) := by decide +kernel
theorem dX5_shot_30 : decode cX5_shot 30 = .ok (.iconst 0, 1) := by decide +kernel
theorem dX5_shot_31 : decode cX5_shot 31 = .ok (.ireturn, 1) := by decide +kernel
theorem dX5_shot_32 : decode cX5_shot 32 = .ok (.aload_n 0, 1) := by decide +kernel
theorem dX5_shot_33 : decode cX5_shot 33 = .ok (.iload_n 1, 1) := by decide +kernel
theorem dX5_shot_34 : decode cX5_shot 34 = .ok (.aload_n 2, 1) := by decide +kernel
theorem dX5_shot_35 : decode cX5_shot 35 = .ok (.iload_n 3, 1) := by decide +kernel
theorem dX5_shot_36 : decode cX5_shot 36 = .ok (.invokevirtual 118, 3) := by decide +kernel
theorem dX5_shot_39 : decode cX5_shot 39 = .ok (.invokevirtual 125, 3) := by decide +kernel
theorem dX5_shot_42 : decode cX5_shot 42 = .ok (.ireturn, 1) := by decide +kernel
theorem dX5_path_0 : decode cX5_path 0 = .ok (.iload_n 1, 1) := by decide +kernel
theorem dX5_path_1 : decode cX5_path 1 = .ok (.invokestatic 83, 3) := by decide +kernel
theorem dX5_path_4 : decode cX5_path 4 = .ok (.ifCond .eq 12, 3) := by decide +kernel
theorem dX5_path_7 : decode cX5_path 7 = .ok (.iload_n 2, 1) := by decide +kernel
theorem dX5_path_8 : decode cX5_path 8 = .ok (.ifCond .lt 8, 3) := by decide +kernel
theorem dX5_path_11 : decode cX5_path 11 = .ok (.iload_n 2, 1) := by decide +kernel
theorem dX5_path_12 : decode cX5_path 12 = .ok (.iconst 2, 1) := by decide +kernel
theorem dX5_path_13 : decode cX5_path 13 = .ok (.if_icmp .le 5, 3) := by decide +kernel
theorem dX5_path_16 : decode cX5_path 16 = .ok (.iconst (-1), 1) := by decide +kernel
theorem dX5_path_17 : decode cX5_path 17 = .ok (.ireturn, 1) := by decide +kernel
theorem dX5_path_18 : decode cX5_path 18 = .ok (.aload_n 0, 1) := by decide +kernel
theorem dX5_path_19 : decode cX5_path 19 = .ok (.getfield 25, 3) := by decide +kernel
theorem dX5_path_22 : decode cX5_path 22 = .ok (.iload_n 1, 1) := by decide +kernel
theorem dX5_path_23 : decode cX5_path 23 = .ok (.iload_n 2, 1) := by decide +kernel
theorem dX5_path_24 : decode cX5_path 24 = .ok (.invokevirtual 129, 3) := by decide +kernel
theorem dX5_path_27 : decode cX5_path 27 = .ok (.ireturn, 1) := by decide +kernel
theorem dX5_shut_0 : decode cX5_shut 0 = .ok (.iconst 0, 1) := by decide +kernel
theorem dX5_shut_1 : decode cX5_shut 1 = .ok (.istore_n 1, 1) := by decide +kernel
theorem dX5_shut_2 : decode cX5_shut 2 = .ok (.iconst 0, 1) := by decide +kernel
theorem dX5_shut_3 : decode cX5_shut 3 = .ok (.istore_n 2, 1) := by decide +kernel
theorem dX5_shut_4 : decode cX5_shut 4 = .ok (.iload_n 2, 1) := by decide +kernel
theorem dX5_shut_5 : decode cX5_shut 5 = .ok (.aload_n 0, 1) := by decide +kernel
theorem dX5_shut_6 : decode cX5_shut 6 = .ok (.getfield 25, 3) := by decide +kernel
theorem dX5_shut_9 : decode cX5_shut 9 = .ok (.invokevirtual 132, 3) := by decide +kernel
theorem dX5_shut_12 : decode cX5_shut 12 = .ok (.if_icmp .ge 60, 3) := by decide +kernel
theorem dX5_shut_15 : decode cX5_shut 15 = .ok (.aload_n 0, 1) := by decide +kernel
theorem dX5_shut_16 : decode cX5_shut 16 = .ok (.getfield 25, 3) := by decide +kernel
theorem dX5_shut_19 : decode cX5_shut 19 = .ok (.iload_n 2, 1) := by decide +kernel
theorem dX5_shut_20 : decode cX5_shut 20 = .ok (.invokevirtual 135, 3) := by decide +kernel
theorem dX5_shut_23 : decode cX5_shut 23 = .ok (.istore_n 3, 1) := by decide +kernel
theorem dX5_shut_24 : decode cX5_shut 24 = .ok (.iload_n 3, 1) := by decide +kernel
theorem dX5_shut_25 : decode cX5_shut 25 = .ok (.invokestatic 83, 3) := by decide +kernel
theorem dX5_shut_28 : decode cX5_shut 28 = .ok (.ifCond .eq 38, 3) := by decide +kernel
theorem dX5_shut_31 : decode cX5_shut 31 = .ok (.aload_n 0, 1) := by decide +kernel
theorem dX5_shut_32 : decode cX5_shut 32 = .ok (.getfield 11, 3) := by decide +kernel
theorem dX5_shut_35 : decode cX5_shut 35 = .ok (.iload_n 3, 1) := by decide +kernel
theorem dX5_shut_36 : decode cX5_shut 36 = .ok (.aaload, 1) := by decide +kernel
theorem dX5_shut_37 : decode cX5_shut 37 = .ok (.aload_n 0, 1) := by decide +kernel
theorem dX5_shut_38 : decode cX5_shut 38 = .ok (.getfield 25, 3) := by decide +kernel
theorem dX5_shut_41 : decode cX5_shut 41 = .ok (.iload_n 2, 1) := by decide +kernel
theorem dX5_shut_42 : decode cX5_shut 42 = .ok (.invokevirtual 138, 3) := by decide +kernel
theorem dX5_shut_45 : decode cX5_shut 45 = .ok (.aload_n 0, 1) := by decide +kernel
theorem dX5_shut_46 : decode cX5_shut 46 = .ok (.getfield 11, 3) := by decide +kernel
theorem dX5_shut_49 : decode cX5_shut 49 = .ok (.iload_n 3, 1) := by decide +kernel
theorem dX5_shut_50 : decode cX5_shut 50 = .ok (.aaload, 1) := by decide +kernel
theorem dX5_shut_51 : decode cX5_shut 51 = .ok (.invokevirtual 105, 3) := by decide +kernel
theorem dX5_shut_54 : decode cX5_shut 54 = .ok (.invokevirtual 141, 3) := by decide +kernel
theorem dX5_shut_57 : decode cX5_shut 57 = .ok (.ifCond .eq 9, 3) := by decide +kernel
theorem dX5_shut_60 : decode cX5_shut 60 = .ok (.iload_n 1, 1) := by decide +kernel
theorem dX5_shut_61 : decode cX5_shut 61 = .ok (.iconst 1, 1) := by decide +kernel
theorem dX5_shut_62 : decode cX5_shut 62 = .ok (.iload_n 2, 1) := by decide +kernel
theorem dX5_shut_63 : decode cX5_shut 63 = .ok (.ishl, 1) := by decide +kernel
theorem dX5_shut_64 : decode cX5_shut 64 = .ok (.ior, 1) := by decide +kernel
theorem dX5_shut_65 : decode cX5_shut 65 = .ok (.istore_n 1, 1) := by decide +kernel
theorem dX5_shut_66 : decode cX5_shut 66 = .ok (.iinc 2 1, 3) := by decide +kernel
theorem dX5_shut_69 : decode cX5_shut 69 = .ok (.goto (-65), 3) := by decide +kernel
theorem dX5_shut_72 : decode cX5_shut 72 = .ok (.iload_n 1, 1) := by decide +kernel
theorem dX5_shut_73 : decode cX5_shut 73 = .ok (.ireturn, 1) := by decide +kernel
theorem dX5_shots_0 : decode cX5_shots 0 = .ok (.iconst 0, 1) := by decide +kernel
theorem dX5_shots_1 : decode cX5_shots 1 = .ok (.istore_n 1, 1) := by decide +kernel
theorem dX5_shots_2 : decode cX5_shots 2 = .ok (.iconst 0, 1) := by decide +kernel
theorem dX5_shots_3 : decode cX5_shots 3 = .ok (.istore_n 2, 1) := by decide +kernel
theorem dX5_shots_4 : decode cX5_shots 4 = .ok (.iload_n 2, 1) := by decide +kernel
theorem dX5_shots_5 : decode cX5_shots 5 = .ok (.bipush 12, 2) := by decide +kernel
theorem dX5_shots_7 : decode cX5_shots 7 = .ok (.if_icmp .ge 65, 3) := by decide +kernel
theorem dX5_shots_10 : decode cX5_shots 10 = .ok (.aload_n 0, 1) := by decide +kernel
theorem dX5_shots_11 : decode cX5_shots 11 = .ok (.getfield 11, 3) := by decide +kernel
theorem dX5_shots_14 : decode cX5_shots 14 = .ok (.iload_n 2, 1) := by decide +kernel
theorem dX5_shots_15 : decode cX5_shots 15 = .ok (.aaload, 1) := by decide +kernel
theorem dX5_shots_16 : decode cX5_shots 16 = .ok (.astore_n 3, 1) := by decide +kernel
theorem dX5_shots_17 : decode cX5_shots 17 = .ok (.aload_n 0, 1) := by decide +kernel
theorem dX5_shots_18 : decode cX5_shots 18 = .ok (.getfield 25, 3) := by decide +kernel
theorem dX5_shots_21 : decode cX5_shots 21 = .ok (.iload_n 2, 1) := by decide +kernel
theorem dX5_shots_22 : decode cX5_shots 22 = .ok (.invokevirtual 145, 3) := by decide +kernel
theorem dX5_shots_25 : decode cX5_shots 25 = .ok (.istore 4, 2) := by decide +kernel
theorem dX5_shots_27 : decode cX5_shots 27 = .ok (.aload_n 3, 1) := by decide +kernel
theorem dX5_shots_28 : decode cX5_shots 28 = .ok (.invokevirtual 105, 3) := by decide +kernel
theorem dX5_shots_31 : decode cX5_shots 31 = .ok (.istore 5, 2) := by decide +kernel
theorem dX5_shots_33 : decode cX5_shots 33 = .ok (.aload_n 3, 1) := by decide +kernel
theorem dX5_shots_34 : decode cX5_shots 34 = .ok (.iload 4, 2) := by decide +kernel
theorem dX5_shots_36 : decode cX5_shots 36 = .ok (.iload 5, 2) := by decide +kernel
theorem dX5_shots_38 : decode cX5_shots 38 = .ok (.invokevirtual 141, 3) := by decide +kernel
theorem dX5_shots_41 : decode cX5_shots 41 = .ok (.ifCond .eq 25, 3) := by decide +kernel
theorem dX5_shots_44 : decode cX5_shots 44 = .ok (.aload_n 3, 1) := by decide +kernel
theorem dX5_shots_45 : decode cX5_shots 45 = .ok (.iload 4, 2) := by decide +kernel
theorem dX5_shots_47 : decode cX5_shots 47 = .ok (.aload_n 3, 1) := by decide +kernel
theorem dX5_shots_48 : decode cX5_shots 48 = .ok (.iload 5, 2) := by decide +kernel
theorem dX5_shots_50 : decode cX5_shots 50 = .ok (.invokevirtual 118, 3) := by decide +kernel
theorem dX5_shots_53 : decode cX5_shots 53 = .ok (.iconst 1, 1) := by decide +kernel
theorem dX5_shots_54 : decode cX5_shots 54 = .ok (.iadd, 1) := by decide +kernel
theorem dX5_shots_55 : decode cX5_shots 55 = .ok (.invokevirtual 141, 3) := by decide +kernel
theorem dX5_shots_58 : decode cX5_shots 58 = .ok (.ifCond .eq 5, 3) := by decide +kernel
theorem dX5_shots_61 : decode cX5_shots 61 = .ok (.iconst (-1), 1) := by decide +kernel
theorem dX5_shots_62 : decode cX5_shots 62 = .ok (.ireturn, 1) := by decide +kernel
theorem dX5_shots_63 : decode cX5_shots 63 = .ok (.iinc 1 1, 3) := by decide +kernel
theorem dX5_shots_66 : decode cX5_shots 66 = .ok (.iinc 2 1, 3) := by decide +kernel
theorem dX5_shots_69 : decode cX5_shots 69 = .ok (.goto (-65), 3) := by decide +kernel
theorem dX5_shots_72 : decode cX5_shots 72 = .ok (.iload_n 1, 1) := by decide +kernel
theorem dX5_shots_73 : decode cX5_shots 73 = .ok (.ireturn, 1) := by decide +kernel
theorem dX5_pit_0 : decode cX5_pit 0 = .ok (.aload_n 0, 1) := by decide +kernel
theorem dX5_pit_1 : decode cX5_pit 1 = .ok (.getfield 32, 3) := by decide +kernel
theorem dX5_pit_4 : decode cX5_pit 4 = .ok (.invokevirtual 148, 3) := by decide +kernel
theorem dX5_pit_7 : decode cX5_pit 7 = .ok (.ireturn, 1) := by decide +kernel
theorem dX5_seen_0 : decode cX5_seen 0 = .ok (.aload_n 0, 1) := by decide +kernel
theorem dX5_seen_1 : decode cX5_seen 1 = .ok (.getfield 32, 3) := by decide +kernel
theorem dX5_seen_4 : decode cX5_seen 4 = .ok (.iload_n 1, 1) := by decide +kernel
theorem dX5_seen_5 : decode cX5_seen 5 = .ok (.iload_n 2, 1) := by decide +kernel
theorem dX5_seen_6 : decode cX5_seen 6 = .ok (.invokevirtual 151, 3) := by decide +kernel
theorem dX5_seen_9 : decode cX5_seen 9 = .ok (.ireturn, 1) := by decide +kernel
theorem dX5_matched_0 : decode cX5_matched 0 = .ok (.iload_n 1, 1) := by decide +kernel
theorem dX5_matched_1 : decode cX5_matched 1 = .ok (.invokestatic 83, 3) := by decide +kernel
theorem dX5_matched_4 : decode cX5_matched 4 = .ok (.ifCond .eq 19, 3) := by decide +kernel
theorem dX5_matched_7 : decode cX5_matched 7 = .ok (.aload_n 0, 1) := by decide +kernel
theorem dX5_matched_8 : decode cX5_matched 8 = .ok (.getfield 32, 3) := by decide +kernel
theorem dX5_matched_11 : decode cX5_matched 11 = .ok (.aload_n 0, 1) := by decide +kernel
theorem dX5_matched_12 : decode cX5_matched 12 = .ok (.getfield 11, 3) := by decide +kernel
theorem dX5_matched_15 : decode cX5_matched 15 = .ok (.iload_n 1, 1) := by decide +kernel
theorem dX5_matched_16 : decode cX5_matched 16 = .ok (.aaload, 1) := by decide +kernel
theorem dX5_matched_17 : decode cX5_matched 17 = .ok (.invokevirtual 154, 3) := by decide +kernel
theorem dX5_matched_20 : decode cX5_matched 20 = .ok (.goto 4, 3) := by decide +kernel
theorem dX5_matched_23 : decode cX5_matched 23 = .ok (.iconst (-1), 1) := by decide +kernel
theorem dX5_matched_24 : decode cX5_matched 24 = .ok (.ireturn, 1) := by decide +kernel
theorem dX5_nearest_0 : decode cX5_nearest 0 = .ok (.iconst 0, 1) := by decide +kernel
theorem dX5_nearest_1 : decode cX5_nearest 1 = .ok (.istore_n 1, 1) := by decide +kernel
theorem dX5_nearest_2 : decode cX5_nearest 2 = .ok (.aload_n 0, 1) := by decide +kernel
theorem dX5_nearest_3 : decode cX5_nearest 3 = .ok (.getfield 32, 3) := by decide +kernel
theorem dX5_nearest_6 : decode cX5_nearest 6 = .ok (.aload_n 0, 1) := by decide +kernel
theorem dX5_nearest_7 : decode cX5_nearest 7 = .ok (.getfield 11, 3) := by decide +kernel
theorem dX5_nearest_10 : decode cX5_nearest 10 = .ok (.iconst 0, 1) := by decide +kernel
theorem dX5_nearest_11 : decode cX5_nearest 11 = .ok (.aaload, 1) := by decide +kernel
theorem dX5_nearest_12 : decode cX5_nearest 12 = .ok (.invokevirtual 154, 3) := by decide +kernel
theorem dX5_nearest_15 : decode cX5_nearest 15 = .ok (.istore_n 2, 1) := by decide +kernel
theorem dX5_nearest_16 : decode cX5_nearest 16 = .ok (.iconst 1, 1) := by decide +kernel
theorem dX5_nearest_17 : decode cX5_nearest 17 = .ok (.istore_n 3, 1) := by decide +kernel
theorem dX5_nearest_18 : decode cX5_nearest 18 = .ok (.iload_n 3, 1) := by decide +kernel
theorem dX5_nearest_19 : decode cX5_nearest 19 = .ok (.bipush 12, 2) := by decide +kernel
theorem dX5_nearest_21 : decode cX5_nearest 21 = .ok (.if_icmp .ge 35, 3) := by decide +kernel
theorem dX5_nearest_24 : decode cX5_nearest 24 = .ok (.aload_n 0, 1) := by decide +kernel
theorem dX5_nearest_25 : decode cX5_nearest 25 = .ok (.getfield 32, 3) := by decide +kernel
theorem dX5_nearest_28 : decode cX5_nearest 28 = .ok (.aload_n 0, 1) := by decide +kernel
theorem dX5_nearest_29 : decode cX5_nearest 29 = .ok (.getfield 11, 3) := by decide +kernel
theorem dX5_nearest_32 : decode cX5_nearest 32 = .ok (.iload_n 3, 1) := by decide +kernel
theorem dX5_nearest_33 : decode cX5_nearest 33 = .ok (.aaload, 1) := by decide +kernel
theorem dX5_nearest_34 : decode cX5_nearest 34 = .ok (.invokevirtual 154, 3) := by decide +kernel
theorem dX5_nearest_37 : decode cX5_nearest 37 = .ok (.istore 4, 2) := by decide +kernel
theorem dX5_nearest_39 : decode cX5_nearest 39 = .ok (.iload 4, 2) := by decide +kernel
theorem dX5_nearest_41 : decode cX5_nearest 41 = .ok (.iload_n 2, 1) := by decide +kernel
theorem dX5_nearest_42 : decode cX5_nearest 42 = .ok (.if_icmp .ge 8, 3) := by decide +kernel
theorem dX5_nearest_45 : decode cX5_nearest 45 = .ok (.iload 4, 2) := by decide +kernel
theorem dX5_nearest_47 : decode cX5_nearest 47 = .ok (.istore_n 2, 1) := by decide +kernel
theorem dX5_nearest_48 : decode cX5_nearest 48 = .ok (.iload_n 3, 1) := by decide +kernel
theorem dX5_nearest_49 : decode cX5_nearest 49 = .ok (.istore_n 1, 1) := by decide +kernel
theorem dX5_nearest_50 : decode cX5_nearest 50 = .ok (.iinc 3 1, 3) := by decide +kernel
theorem dX5_nearest_53 : decode cX5_nearest 53 = .ok (.goto (-35), 3) := by decide +kernel
theorem dX5_nearest_56 : decode cX5_nearest 56 = .ok (.iload_n 1, 1) := by decide +kernel
theorem dX5_nearest_57 : decode cX5_nearest 57 = .ok (.ireturn, 1) := by decide +kernel
theorem dX5_watch_0 : decode cX5_watch 0 = .ok (.iload_n 1, 1) := by decide +kernel
theorem dX5_watch_1 : decode cX5_watch 1 = .ok (.invokestatic 83, 3) := by decide +kernel
theorem dX5_watch_4 : decode cX5_watch 4 = .ok (.ifCond .eq 13, 3) := by decide +kernel
theorem dX5_watch_7 : decode cX5_watch 7 = .ok (.aload_n 0, 1) := by decide +kernel
theorem dX5_watch_8 : decode cX5_watch 8 = .ok (.getfield 43, 3) := by decide +kernel
theorem dX5_watch_11 : decode cX5_watch 11 = .ok (.sipush 400, 3) := by decide +kernel
theorem dX5_watch_14 : decode cX5_watch 14 = .ok (.if_icmp .lt 5, 3) := by decide +kernel
theorem dX5_watch_17 : decode cX5_watch 17 = .ok (.iconst (-1), 1) := by decide +kernel
theorem dX5_watch_18 : decode cX5_watch 18 = .ok (.ireturn, 1) := by decide +kernel
theorem dX5_watch_19 : decode cX5_watch 19 = .ok (.aload_n 0, 1) := by decide +kernel
theorem dX5_watch_20 : decode cX5_watch 20 = .ok (.iload_n 1, 1) := by decide +kernel
theorem dX5_watch_21 : decode cX5_watch 21 = .ok (.invokevirtual 115, 3) := by decide +kernel
theorem dX5_watch_24 : decode cX5_watch 24 = .ok (.istore_n 2, 1) := by decide +kernel
theorem dX5_watch_25 : decode cX5_watch 25 = .ok (.aload_n 0, 1) := by decide +kernel
theorem dX5_watch_26 : decode cX5_watch 26 = .ok (.getfield 39, 3) := by decide +kernel
theorem dX5_watch_29 : decode cX5_watch 29 = .ok (.iload_n 1, 1) := by decide +kernel
theorem dX5_watch_30 : decode cX5_watch 30 = .ok (.iload_n 2, 1) := by decide +kernel
theorem dX5_watch_31 : decode cX5_watch 31 = .ok (.invokevirtual 158, 3) := by decide +kernel
theorem dX5_watch_34 : decode cX5_watch 34 = .ok (.iload_n 2, 1) := by decide +kernel
theorem dX5_watch_35 : decode cX5_watch 35 = .ok (.ireturn, 1) := by decide +kernel
theorem dX5_right_0 : decode cX5_right 0 = .ok (.aload_n 0, 1) := by decide +kernel
theorem dX5_right_1 : decode cX5_right 1 = .ok (.getfield 39, 3) := by decide +kernel
theorem dX5_right_4 : decode cX5_right 4 = .ok (.iload_n 1, 1) := by decide +kernel
theorem dX5_right_5 : decode cX5_right 5 = .ok (.invokevirtual 161, 3) := by decide +kernel
theorem dX5_right_8 : decode cX5_right 8 = .ok (.ireturn, 1) := by decide +kernel
theorem dX5_count_0 : decode cX5_count 0 = .ok (.iload_n 1, 1) := by decide +kernel
theorem dX5_count_1 : decode cX5_count 1 = .ok (.tableswitch 93 0 7 #[47, 52, 57, 62, 67, 72, 77, 85], 47) := by decide +kernel
theorem dX5_count_48 : decode cX5_count 48 = .ok (.aload_n 0, 1) := by decide +kernel
theorem dX5_count_49 : decode cX5_count 49 = .ok (.getfield 43, 3) := by decide +kernel
theorem dX5_count_52 : decode cX5_count 52 = .ok (.ireturn, 1) := by decide +kernel
theorem dX5_count_53 : decode cX5_count 53 = .ok (.aload_n 0, 1) := by decide +kernel
theorem dX5_count_54 : decode cX5_count 54 = .ok (.invokevirtual 164, 3) := by decide +kernel
theorem dX5_count_57 : decode cX5_count 57 = .ok (.ireturn, 1) := by decide +kernel
theorem dX5_count_58 : decode cX5_count 58 = .ok (.aload_n 0, 1) := by decide +kernel
theorem dX5_count_59 : decode cX5_count 59 = .ok (.getfield 47, 3) := by decide +kernel
theorem dX5_count_62 : decode cX5_count 62 = .ok (.ireturn, 1) := by decide +kernel
theorem dX5_count_63 : decode cX5_count 63 = .ok (.aload_n 0, 1) := by decide +kernel
theorem dX5_count_64 : decode cX5_count 64 = .ok (.getfield 50, 3) := by decide +kernel
theorem dX5_count_67 : decode cX5_count 67 = .ok (.ireturn, 1) := by decide +kernel
theorem dX5_count_68 : decode cX5_count 68 = .ok (.aload_n 0, 1) := by decide +kernel
theorem dX5_count_69 : decode cX5_count 69 = .ok (.getfield 53, 3) := by decide +kernel
theorem dX5_count_72 : decode cX5_count 72 = .ok (.ireturn, 1) := by decide +kernel
theorem dX5_count_73 : decode cX5_count 73 = .ok (.aload_n 0, 1) := by decide +kernel
theorem dX5_count_74 : decode cX5_count 74 = .ok (.invokevirtual 167, 3) := by decide +kernel
theorem dX5_count_77 : decode cX5_count 77 = .ok (.ireturn, 1) := by decide +kernel
theorem dX5_count_78 : decode cX5_count 78 = .ok (.aload_n 0, 1) := by decide +kernel
theorem dX5_count_79 : decode cX5_count 79 = .ok (.getfield 25, 3) := by decide +kernel
theorem dX5_count_82 : decode cX5_count 82 = .ok (.invokevirtual 132, 3) := by decide +kernel
theorem dX5_count_85 : decode cX5_count 85 = .ok (.ireturn, 1) := by decide +kernel
theorem dX5_count_86 : decode cX5_count 86 = .ok (.aload_n 0, 1) := by decide +kernel
theorem dX5_count_87 : decode cX5_count 87 = .ok (.getfield 32, 3) := by decide +kernel
theorem dX5_count_90 : decode cX5_count 90 = .ok (.invokevirtual 170, 3) := by decide +kernel
theorem dX5_count_93 : decode cX5_count 93 = .ok (.ireturn, 1) := by decide +kernel
theorem dX5_count_94 : decode cX5_count 94 = .ok (.iconst (-1), 1) := by decide +kernel
theorem dX5_count_95 : decode cX5_count 95 = .ok (.ireturn, 1) := by decide +kernel
theorem dX5_isHeight_0 : decode cX5_isHeight 0 = .ok (.iload_n 0, 1) := by decide +kernel
theorem dX5_isHeight_1 : decode cX5_isHeight 1 = .ok (.ifCond .lt 12, 3) := by decide +kernel
theorem dX5_isHeight_4 : decode cX5_isHeight 4 = .ok (.iload_n 0, 1) := by decide +kernel
theorem dX5_isHeight_5 : decode cX5_isHeight 5 = .ok (.iconst 3, 1) := by decide +kernel
theorem dX5_isHeight_6 : decode cX5_isHeight 6 = .ok (.if_icmp .ge 7, 3) := by decide +kernel
theorem dX5_isHeight_9 : decode cX5_isHeight 9 = .ok (.iconst 1, 1) := by decide +kernel
theorem dX5_isHeight_10 : decode cX5_isHeight 10 = .ok (.goto 4, 3) := by decide +kernel
theorem dX5_isHeight_13 : decode cX5_isHeight 13 = .ok (.iconst 0, 1) := by decide +kernel
theorem dX5_isHeight_14 : decode cX5_isHeight 14 = .ok (.ireturn, 1) := by decide +kernel
theorem dX5_isClass_0 : decode cX5_isClass 0 = .ok (.iload_n 0, 1) := by decide +kernel
theorem dX5_isClass_1 : decode cX5_isClass 1 = .ok (.ifCond .lt 13, 3) := by decide +kernel
theorem dX5_isClass_4 : decode cX5_isClass 4 = .ok (.iload_n 0, 1) := by decide +kernel
theorem dX5_isClass_5 : decode cX5_isClass 5 = .ok (.bipush 12, 2) := by decide +kernel
theorem dX5_isClass_7 : decode cX5_isClass 7 = .ok (.if_icmp .ge 7, 3) := by decide +kernel
theorem dX5_isClass_10 : decode cX5_isClass 10 = .ok (.iconst 1, 1) := by decide +kernel
theorem dX5_isClass_11 : decode cX5_isClass 11 = .ok (.goto 4, 3) := by decide +kernel
theorem dX5_isClass_14 : decode cX5_isClass 14 = .ok (.iconst 0, 1) := by decide +kernel
theorem dX5_isClass_15 : decode cX5_isClass 15 = .ok (.ireturn, 1) := by decide +kernel
theorem dX5_endDay_0 : decode cX5_endDay 0 = .ok (.aload_n 0, 1) := by decide +kernel
theorem dX5_endDay_1 : decode cX5_endDay 1 = .ok (.getfield 39, 3) := by decide +kernel
theorem dX5_endDay_4 : decode cX5_endDay 4 = .ok (.invokevirtual 173, 3) := by decide +kernel
theorem dX5_endDay_7 : decode cX5_endDay 7 = .ok (.aload_n 0, 1) := by decide +kernel
theorem dX5_endDay_8 : decode cX5_endDay 8 = .ok (.invokevirtual 176, 3) := by decide +kernel
theorem dX5_endDay_11 : decode cX5_endDay 11 = .ok (.aload_n 0, 1) := by decide +kernel
theorem dX5_endDay_12 : decode cX5_endDay 12 = .ok (.getfield 18, 3) := by decide +kernel
theorem dX5_endDay_15 : decode cX5_endDay 15 = .ok (.invokevirtual 179, 3) := by decide +kernel
theorem dX5_endDay_18 : decode cX5_endDay 18 = .ok (.ifCond .eq 7, 3) := by decide +kernel
theorem dX5_endDay_21 : decode cX5_endDay 21 = .ok (.aload_n 0, 1) := by decide +kernel
theorem dX5_endDay_22 : decode cX5_endDay 22 = .ok (.invokevirtual 183, 3) := by decide +kernel
theorem dX5_endDay_25 : decode cX5_endDay 25 = .ok (.aload_n 0, 1) := by decide +kernel
theorem dX5_endDay_26 : decode cX5_endDay 26 = .ok (.invokevirtual 186, 3) := by decide +kernel
theorem dX5_endDay_29 : decode cX5_endDay 29 = .ok (.aload_n 0, 1) := by decide +kernel
theorem dX5_endDay_30 : decode cX5_endDay 30 = .ok (.getfield 18, 3) := by decide +kernel
theorem dX5_endDay_33 : decode cX5_endDay 33 = .ok (.invokevirtual 189, 3) := by decide +kernel
theorem dX5_endDay_36 : decode cX5_endDay 36 = .ok (.aload_n 0, 1) := by decide +kernel
theorem dX5_endDay_37 : decode cX5_endDay 37 = .ok (.dup, 1) := by decide +kernel
theorem dX5_endDay_38 : decode cX5_endDay 38 = .ok (.getfield 43, 3) := by decide +kernel
theorem dX5_endDay_41 : decode cX5_endDay 41 = .ok (.iconst 1, 1) := by decide +kernel
theorem dX5_endDay_42 : decode cX5_endDay 42 = .ok (.iadd, 1) := by decide +kernel
theorem dX5_endDay_43 : decode cX5_endDay 43 = .ok (.putfield 43, 3) := by decide +kernel
theorem dX5_endDay_46 : decode cX5_endDay 46 = .ok (.return_, 1) := by decide +kernel
theorem dX5_letSnowFall_0 : decode cX5_letSnowFall 0 = .ok (.iconst 0, 1) := by decide +kernel
theorem dX5_letSnowFall_1 : decode cX5_letSnowFall 1 = .ok (.istore_n 1, 1) := by decide +kernel
theorem dX5_letSnowFall_2 : decode cX5_letSnowFall 2 = .ok (.iload_n 1, 1) := by decide +kernel
theorem dX5_letSnowFall_3 : decode cX5_letSnowFall 3 = .ok (.bipush 12, 2) := by decide +kernel
theorem dX5_letSnowFall_5 : decode cX5_letSnowFall 5 = .ok (.if_icmp .ge 49, 3) := by decide +kernel
theorem dX5_letSnowFall_8 : decode cX5_letSnowFall 8 = .ok (.aload_n 0, 1) := by decide +kernel
theorem dX5_letSnowFall_9 : decode cX5_letSnowFall 9 = .ok (.getfield 18, 3) := by decide +kernel
theorem dX5_letSnowFall_12 : decode cX5_letSnowFall 12 = .ok (.iload_n 1, 1) := by decide +kernel
theorem dX5_letSnowFall_13 : decode cX5_letSnowFall 13 = .ok (.iconst 4, 1) := by decide +kernel
theorem dX5_letSnowFall_14 : decode cX5_letSnowFall 14 = .ok (.idiv, 1) := by decide +kernel
theorem dX5_letSnowFall_15 : decode cX5_letSnowFall 15 = .ok (.invokevirtual 190, 3) := by decide +kernel
theorem dX5_letSnowFall_18 : decode cX5_letSnowFall 18 = .ok (.istore_n 2, 1) := by decide +kernel
theorem dX5_letSnowFall_19 : decode cX5_letSnowFall 19 = .ok (.aload_n 0, 1) := by decide +kernel
theorem dX5_letSnowFall_20 : decode cX5_letSnowFall 20 = .ok (.getfield 11, 3) := by decide +kernel
theorem dX5_letSnowFall_23 : decode cX5_letSnowFall 23 = .ok (.iload_n 1, 1) := by decide +kernel
theorem dX5_letSnowFall_24 : decode cX5_letSnowFall 24 = .ok (.aaload, 1) := by decide +kernel
theorem dX5_letSnowFall_25 : decode cX5_letSnowFall 25 = .ok (.invokevirtual 193, 3) := by decide +kernel
theorem dX5_letSnowFall_28 : decode cX5_letSnowFall 28 = .ok (.aload_n 0, 1) := by decide +kernel
theorem dX5_letSnowFall_29 : decode cX5_letSnowFall 29 = .ok (.getfield 11, 3) := by decide +kernel
theorem dX5_letSnowFall_32 : decode cX5_letSnowFall 32 = .ok (.iload_n 1, 1) := by decide +kernel
theorem dX5_letSnowFall_33 : decode cX5_letSnowFall 33 = .ok (.aaload, 1) := by decide +kernel
theorem dX5_letSnowFall_34 : decode cX5_letSnowFall 34 = .ok (.iload_n 2, 1) := by decide +kernel
theorem dX5_letSnowFall_35 : decode cX5_letSnowFall 35 = .ok (.invokevirtual 196, 3) := by decide +kernel
theorem dX5_letSnowFall_38 : decode cX5_letSnowFall 38 = .ok (.aload_n 0, 1) := by decide +kernel
theorem dX5_letSnowFall_39 : decode cX5_letSnowFall 39 = .ok (.dup, 1) := by decide +kernel
theorem dX5_letSnowFall_40 : decode cX5_letSnowFall 40 = .ok (.getfield 47, 3) := by decide +kernel
theorem dX5_letSnowFall_43 : decode cX5_letSnowFall 43 = .ok (.iload_n 2, 1) := by decide +kernel
theorem dX5_letSnowFall_44 : decode cX5_letSnowFall 44 = .ok (.iadd, 1) := by decide +kernel
theorem dX5_letSnowFall_45 : decode cX5_letSnowFall 45 = .ok (.putfield 47, 3) := by decide +kernel
theorem dX5_letSnowFall_48 : decode cX5_letSnowFall 48 = .ok (.iinc 1 1, 3) := by decide +kernel
theorem dX5_letSnowFall_51 : decode cX5_letSnowFall 51 = .ok (.goto (-49), 3) := by decide +kernel
theorem dX5_letSnowFall_54 : decode cX5_letSnowFall 54 = .ok (.return_, 1) := by decide +kernel
theorem dX5_letSnowDrift_0 : decode cX5_letSnowDrift 0 = .ok (.aload_n 0, 1) := by decide +kernel
theorem dX5_letSnowDrift_1 : decode cX5_letSnowDrift 1 = .ok (.getfield 18, 3) := by decide +kernel
theorem dX5_letSnowDrift_4 : decode cX5_letSnowDrift 4 = .ok (.invokevirtual 199, 3) := by decide +kernel
theorem dX5_letSnowDrift_7 : decode cX5_letSnowDrift 7 = .ok (.istore_n 1, 1) := by decide +kernel
theorem dX5_letSnowDrift_8 : decode cX5_letSnowDrift 8 = .ok (.iload_n 1, 1) := by decide +kernel
theorem dX5_letSnowDrift_9 : decode cX5_letSnowDrift 9 = .ok (.iconst 2, 1) := by decide +kernel
theorem dX5_letSnowDrift_10 : decode cX5_letSnowDrift 10 = .ok (.iadd, 1) := by decide +kernel
theorem dX5_letSnowDrift_11 : decode cX5_letSnowDrift 11 = .ok (.iconst 4, 1) := by decide +kernel
theorem dX5_letSnowDrift_12 : decode cX5_letSnowDrift 12 = .ok (.irem, 1) := by decide +kernel
theorem dX5_letSnowDrift_13 : decode cX5_letSnowDrift 13 = .ok (.istore_n 2, 1) := by decide +kernel
theorem dX5_letSnowDrift_14 : decode cX5_letSnowDrift 14 = .ok (.iconst 0, 1) := by decide +kernel
theorem dX5_letSnowDrift_15 : decode cX5_letSnowDrift 15 = .ok (.istore_n 3, 1) := by decide +kernel
theorem dX5_letSnowDrift_16 : decode cX5_letSnowDrift 16 = .ok (.iload_n 3, 1) := by decide +kernel
theorem dX5_letSnowDrift_17 : decode cX5_letSnowDrift 17 = .ok (.iconst 3, 1) := by decide +kernel
theorem dX5_letSnowDrift_18 : decode cX5_letSnowDrift 18 = .ok (.if_icmp .ge 46, 3) := by decide +kernel
theorem dX5_letSnowDrift_21 : decode cX5_letSnowDrift 21 = .ok (.aload_n 0, 1) := by decide +kernel
theorem dX5_letSnowDrift_22 : decode cX5_letSnowDrift 22 = .ok (.getfield 11, 3) := by decide +kernel
theorem dX5_letSnowDrift_25 : decode cX5_letSnowDrift 25 = .ok (.iload_n 3, 1) := by decide +kernel
theorem dX5_letSnowDrift_26 : decode cX5_letSnowDrift 26 = .ok (.iconst 4, 1) := by decide +kernel
theorem dX5_letSnowDrift_27 : decode cX5_letSnowDrift 27 = .ok (.imul, 1) := by decide +kernel
theorem dX5_letSnowDrift_28 : decode cX5_letSnowDrift 28 = .ok (.iload_n 1, 1) := by decide +kernel
theorem dX5_letSnowDrift_29 : decode cX5_letSnowDrift 29 = .ok (.iadd, 1) := by decide +kernel
theorem dX5_letSnowDrift_30 : decode cX5_letSnowDrift 30 = .ok (.aaload, 1) := by decide +kernel
theorem dX5_letSnowDrift_31 : decode cX5_letSnowDrift 31 = .ok (.aload_n 0, 1) := by decide +kernel
theorem dX5_letSnowDrift_32 : decode cX5_letSnowDrift 32 = .ok (.getfield 18, 3) := by decide +kernel
theorem dX5_letSnowDrift_35 : decode cX5_letSnowDrift 35 = .ok (.invokevirtual 202, 3) := by decide +kernel
theorem dX5_letSnowDrift_38 : decode cX5_letSnowDrift 38 = .ok (.invokevirtual 205, 3) := by decide +kernel
theorem dX5_letSnowDrift_41 : decode cX5_letSnowDrift 41 = .ok (.istore 4, 2) := by decide +kernel
theorem dX5_letSnowDrift_43 : decode cX5_letSnowDrift 43 = .ok (.aload_n 0, 1) := by decide +kernel
theorem dX5_letSnowDrift_44 : decode cX5_letSnowDrift 44 = .ok (.getfield 11, 3) := by decide +kernel
theorem dX5_letSnowDrift_47 : decode cX5_letSnowDrift 47 = .ok (.iload_n 3, 1) := by decide +kernel
theorem dX5_letSnowDrift_48 : decode cX5_letSnowDrift 48 = .ok (.iconst 4, 1) := by decide +kernel
theorem dX5_letSnowDrift_49 : decode cX5_letSnowDrift 49 = .ok (.imul, 1) := by decide +kernel
theorem dX5_letSnowDrift_50 : decode cX5_letSnowDrift 50 = .ok (.iload_n 2, 1) := by decide +kernel
theorem dX5_letSnowDrift_51 : decode cX5_letSnowDrift 51 = .ok (.iadd, 1) := by decide +kernel
theorem dX5_letSnowDrift_52 : decode cX5_letSnowDrift 52 = .ok (.aaload, 1) := by decide +kernel
theorem dX5_letSnowDrift_53 : decode cX5_letSnowDrift 53 = .ok (.iload 4, 2) := by decide +kernel
theorem dX5_letSnowDrift_55 : decode cX5_letSnowDrift 55 = .ok (.invokevirtual 208, 3) := by decide +kernel
theorem dX5_letSnowDrift_58 : decode cX5_letSnowDrift 58 = .ok (.iinc 3 1, 3) := by decide +kernel
theorem dX5_letSnowDrift_61 : decode cX5_letSnowDrift 61 = .ok (.goto (-45), 3) := by decide +kernel
theorem dX5_letSnowDrift_64 : decode cX5_letSnowDrift 64 = .ok (.return_, 1) := by decide +kernel
theorem dX5_letSnowChange_0 : decode cX5_letSnowChange 0 = .ok (.iconst 0, 1) := by decide +kernel
theorem dX5_letSnowChange_1 : decode cX5_letSnowChange 1 = .ok (.istore_n 1, 1) := by decide +kernel
theorem dX5_letSnowChange_2 : decode cX5_letSnowChange 2 = .ok (.iload_n 1, 1) := by decide +kernel
theorem dX5_letSnowChange_3 : decode cX5_letSnowChange 3 = .ok (.bipush 12, 2) := by decide +kernel
theorem dX5_letSnowChange_5 : decode cX5_letSnowChange 5 = .ok (.if_icmp .ge 49, 3) := by decide +kernel
theorem dX5_letSnowChange_8 : decode cX5_letSnowChange 8 = .ok (.aload_n 0, 1) := by decide +kernel
theorem dX5_letSnowChange_9 : decode cX5_letSnowChange 9 = .ok (.getfield 18, 3) := by decide +kernel
theorem dX5_letSnowChange_12 : decode cX5_letSnowChange 12 = .ok (.iload_n 1, 1) := by decide +kernel
theorem dX5_letSnowChange_13 : decode cX5_letSnowChange 13 = .ok (.iconst 4, 1) := by decide +kernel
theorem dX5_letSnowChange_14 : decode cX5_letSnowChange 14 = .ok (.idiv, 1) := by decide +kernel
theorem dX5_letSnowChange_15 : decode cX5_letSnowChange 15 = .ok (.invokevirtual 211, 3) := by decide +kernel
theorem dX5_letSnowChange_18 : decode cX5_letSnowChange 18 = .ok (.istore_n 2, 1) := by decide +kernel
theorem dX5_letSnowChange_19 : decode cX5_letSnowChange 19 = .ok (.aload_n 0, 1) := by decide +kernel
theorem dX5_letSnowChange_20 : decode cX5_letSnowChange 20 = .ok (.getfield 11, 3) := by decide +kernel
theorem dX5_letSnowChange_23 : decode cX5_letSnowChange 23 = .ok (.iload_n 1, 1) := by decide +kernel
theorem dX5_letSnowChange_24 : decode cX5_letSnowChange 24 = .ok (.aaload, 1) := by decide +kernel
theorem dX5_letSnowChange_25 : decode cX5_letSnowChange 25 = .ok (.iload_n 2, 1) := by decide +kernel
theorem dX5_letSnowChange_26 : decode cX5_letSnowChange 26 = .ok (.invokevirtual 214, 3) := by decide +kernel
theorem dX5_letSnowChange_29 : decode cX5_letSnowChange 29 = .ok (.aload_n 0, 1) := by decide +kernel
theorem dX5_letSnowChange_30 : decode cX5_letSnowChange 30 = .ok (.dup, 1) := by decide +kernel
theorem dX5_letSnowChange_31 : decode cX5_letSnowChange 31 = .ok (.getfield 50, 3) := by decide +kernel
theorem dX5_letSnowChange_34 : decode cX5_letSnowChange 34 = .ok (.aload_n 0, 1) := by decide +kernel
theorem dX5_letSnowChange_35 : decode cX5_letSnowChange 35 = .ok (.getfield 11, 3) := by decide +kernel
theorem dX5_letSnowChange_38 : decode cX5_letSnowChange 38 = .ok (.iload_n 1, 1) := by decide +kernel
theorem dX5_letSnowChange_39 : decode cX5_letSnowChange 39 = .ok (.aaload, 1) := by decide +kernel
theorem dX5_letSnowChange_40 : decode cX5_letSnowChange 40 = .ok (.iload_n 2, 1) := by decide +kernel
theorem dX5_letSnowChange_41 : decode cX5_letSnowChange 41 = .ok (.invokevirtual 217, 3) := by decide +kernel
theorem dX5_letSnowChange_44 : decode cX5_letSnowChange 44 = .ok (.iadd, 1) := by decide +kernel
theorem dX5_letSnowChange_45 : decode cX5_letSnowChange 45 = .ok (.putfield 50, 3) := by decide +kernel
theorem dX5_letSnowChange_48 : decode cX5_letSnowChange 48 = .ok (.iinc 1 1, 3) := by decide +kernel
theorem dX5_letSnowChange_51 : decode cX5_letSnowChange 51 = .ok (.goto (-49), 3) := by decide +kernel
theorem dX5_letSnowChange_54 : decode cX5_letSnowChange 54 = .ok (.return_, 1) := by decide +kernel
theorem dX5_takeAbove_0 : decode cX5_takeAbove 0 = .ok (.aload_n 0, 1) := by decide +kernel
theorem dX5_takeAbove_1 : decode cX5_takeAbove 1 = .ok (.getfield 11, 3) := by decide +kernel
theorem dX5_takeAbove_4 : decode cX5_takeAbove 4 = .ok (.iload_n 1, 1) := by decide +kernel
theorem dX5_takeAbove_5 : decode cX5_takeAbove 5 = .ok (.aaload, 1) := by decide +kernel
theorem dX5_takeAbove_6 : decode cX5_takeAbove 6 = .ok (.iload_n 2, 1) := by decide +kernel
theorem dX5_takeAbove_7 : decode cX5_takeAbove 7 = .ok (.invokevirtual 220, 3) := by decide +kernel
theorem dX5_takeAbove_10 : decode cX5_takeAbove 10 = .ok (.istore_n 3, 1) := by decide +kernel
theorem dX5_takeAbove_11 : decode cX5_takeAbove 11 = .ok (.aload_n 0, 1) := by decide +kernel
theorem dX5_takeAbove_12 : decode cX5_takeAbove 12 = .ok (.dup, 1) := by decide +kernel
theorem dX5_takeAbove_13 : decode cX5_takeAbove 13 = .ok (.getfield 53, 3) := by decide +kernel
theorem dX5_takeAbove_16 : decode cX5_takeAbove 16 = .ok (.iload_n 3, 1) := by decide +kernel
theorem dX5_takeAbove_17 : decode cX5_takeAbove 17 = .ok (.iadd, 1) := by decide +kernel
theorem dX5_takeAbove_18 : decode cX5_takeAbove 18 = .ok (.putfield 53, 3) := by decide +kernel
theorem dX5_takeAbove_21 : decode cX5_takeAbove 21 = .ok (.iload_n 3, 1) := by decide +kernel
theorem dX5_takeAbove_22 : decode cX5_takeAbove 22 = .ok (.ireturn, 1) := by decide +kernel
theorem dX5_dangerOf_0 : decode cX5_dangerOf 0 = .ok (.aload_n 0, 1) := by decide +kernel
theorem dX5_dangerOf_1 : decode cX5_dangerOf 1 = .ok (.getfield 11, 3) := by decide +kernel
theorem dX5_dangerOf_4 : decode cX5_dangerOf 4 = .ok (.iload_n 1, 1) := by decide +kernel
theorem dX5_dangerOf_5 : decode cX5_dangerOf 5 = .ok (.aaload, 1) := by decide +kernel
theorem dX5_dangerOf_6 : decode cX5_dangerOf 6 = .ok (.astore_n 2, 1) := by decide +kernel
theorem dX5_dangerOf_7 : decode cX5_dangerOf 7 = .ok (.aload_n 2, 1) := by decide +kernel
theorem dX5_dangerOf_8 : decode cX5_dangerOf 8 = .ok (.aload_n 2, 1) := by decide +kernel
theorem dX5_dangerOf_9 : decode cX5_dangerOf 9 = .ok (.invokevirtual 105, 3) := by decide +kernel
theorem dX5_dangerOf_12 : decode cX5_dangerOf 12 = .ok (.invokevirtual 109, 3) := by decide +kernel
theorem dX5_dangerOf_15 : decode cX5_dangerOf 15 = .ok (.istore_n 3, 1) := by decide +kernel
theorem dX5_dangerOf_16 : decode cX5_dangerOf 16 = .ok (.iload_n 3, 1) := by decide +kernel
theorem dX5_dangerOf_17 : decode cX5_dangerOf 17 = .ok (.ifCond .ne 5, 3) := by decide +kernel
theorem dX5_dangerOf_20 : decode cX5_dangerOf 20 = .ok (.iconst 1, 1) := by decide +kernel
theorem dX5_dangerOf_21 : decode cX5_dangerOf 21 = .ok (.ireturn, 1) := by decide +kernel
theorem dX5_dangerOf_22 : decode cX5_dangerOf 22 = .ok (.iconst 1, 1) := by decide +kernel
theorem dX5_dangerOf_23 : decode cX5_dangerOf 23 = .ok (.iload_n 3, 1) := by decide +kernel
theorem dX5_dangerOf_24 : decode cX5_dangerOf 24 = .ok (.iadd, 1) := by decide +kernel
theorem dX5_dangerOf_25 : decode cX5_dangerOf 25 = .ok (.aload_n 0, 1) := by decide +kernel
theorem dX5_dangerOf_26 : decode cX5_dangerOf 26 = .ok (.iload_n 1, 1) := by decide +kernel
theorem dX5_dangerOf_27 : decode cX5_dangerOf 27 = .ok (.iconst 4, 1) := by decide +kernel
theorem dX5_dangerOf_28 : decode cX5_dangerOf 28 = .ok (.idiv, 1) := by decide +kernel
theorem dX5_dangerOf_29 : decode cX5_dangerOf 29 = .ok (.invokevirtual 223, 3) := by decide +kernel
theorem dX5_dangerOf_32 : decode cX5_dangerOf 32 = .ok (.iadd, 1) := by decide +kernel
theorem dX5_dangerOf_33 : decode cX5_dangerOf 33 = .ok (.aload_n 2, 1) := by decide +kernel
theorem dX5_dangerOf_34 : decode cX5_dangerOf 34 = .ok (.aload_n 2, 1) := by decide +kernel
theorem dX5_dangerOf_35 : decode cX5_dangerOf 35 = .ok (.invokevirtual 105, 3) := by decide +kernel
theorem dX5_dangerOf_38 : decode cX5_dangerOf 38 = .ok (.invokevirtual 112, 3) := by decide +kernel
theorem dX5_dangerOf_41 : decode cX5_dangerOf 41 = .ok (.iadd, 1) := by decide +kernel
theorem dX5_dangerOf_42 : decode cX5_dangerOf 42 = .ok (.iconst 1, 1) := by decide +kernel
theorem dX5_dangerOf_43 : decode cX5_dangerOf 43 = .ok (.isub, 1) := by decide +kernel
theorem dX5_dangerOf_44 : decode cX5_dangerOf 44 = .ok (.istore 4, 2) := by decide +kernel
theorem dX5_dangerOf_46 : decode cX5_dangerOf 46 = .ok (.iconst 1, 1) := by decide +kernel
theorem dX5_dangerOf_47 : decode cX5_dangerOf 47 = .ok (.iconst 5, 1) := by decide +kernel
theorem dX5_dangerOf_48 : decode cX5_dangerOf 48 = .ok (.iload 4, 2) := by decide +kernel
theorem dX5_dangerOf_50 : decode cX5_dangerOf 50 = .ok (.invokestatic 226, 3) := by decide +kernel
theorem dX5_dangerOf_53 : decode cX5_dangerOf 53 = .ok (.invokestatic 231, 3) := by decide +kernel
theorem dX5_dangerOf_56 : decode cX5_dangerOf 56 = .ok (.ireturn, 1) := by decide +kernel
theorem dX5_spreadAt_0 : decode cX5_spreadAt 0 = .ok (.iconst 0, 1) := by decide +kernel
theorem dX5_spreadAt_1 : decode cX5_spreadAt 1 = .ok (.istore_n 2, 1) := by decide +kernel
theorem dX5_spreadAt_2 : decode cX5_spreadAt 2 = .ok (.iconst 0, 1) := by decide +kernel
theorem dX5_spreadAt_3 : decode cX5_spreadAt 3 = .ok (.istore_n 3, 1) := by decide +kernel
theorem dX5_spreadAt_4 : decode cX5_spreadAt 4 = .ok (.iload_n 3, 1) := by decide +kernel
theorem dX5_spreadAt_5 : decode cX5_spreadAt 5 = .ok (.iconst 4, 1) := by decide +kernel
theorem dX5_spreadAt_6 : decode cX5_spreadAt 6 = .ok (.if_icmp .ge 38, 3) := by decide +kernel
theorem dX5_spreadAt_9 : decode cX5_spreadAt 9 = .ok (.aload_n 0, 1) := by decide +kernel
theorem dX5_spreadAt_10 : decode cX5_spreadAt 10 = .ok (.getfield 11, 3) := by decide +kernel
theorem dX5_spreadAt_13 : decode cX5_spreadAt 13 = .ok (.iload_n 1, 1) := by decide +kernel
theorem dX5_spreadAt_14 : decode cX5_spreadAt 14 = .ok (.iconst 4, 1) := by decide +kernel
theorem dX5_spreadAt_15 : decode cX5_spreadAt 15 = .ok (.imul, 1) := by decide +kernel
theorem dX5_spreadAt_16 : decode cX5_spreadAt 16 = .ok (.iload_n 3, 1) := by decide +kernel
theorem dX5_spreadAt_17 : decode cX5_spreadAt 17 = .ok (.iadd, 1) := by decide +kernel
theorem dX5_spreadAt_18 : decode cX5_spreadAt 18 = .ok (.aaload, 1) := by decide +kernel
theorem dX5_spreadAt_19 : decode cX5_spreadAt 19 = .ok (.astore 4, 2) := by decide +kernel
theorem dX5_spreadAt_21 : decode cX5_spreadAt 21 = .ok (.aload 4, 2) := by decide +kernel
theorem dX5_spreadAt_23 : decode cX5_spreadAt 23 = .ok (.aload 4, 2) := by decide +kernel
theorem dX5_spreadAt_25 : decode cX5_spreadAt 25 = .ok (.invokevirtual 105, 3) := by decide +kernel
theorem dX5_spreadAt_28 : decode cX5_spreadAt 28 = .ok (.invokevirtual 109, 3) := by decide +kernel
theorem dX5_spreadAt_31 : decode cX5_spreadAt 31 = .ok (.iconst 2, 1) := by decide +kernel
theorem dX5_spreadAt_32 : decode cX5_spreadAt 32 = .ok (.if_icmp .lt 6, 3) := by decide +kernel
theorem dX5_spreadAt_35 : decode cX5_spreadAt 35 = .ok (.iinc 2 1, 3) := by decide +kernel
theorem dX5_spreadAt_38 : decode cX5_spreadAt 38 = .ok (.iinc 3 1, 3) := by decide +kernel
theorem dX5_spreadAt_41 : decode cX5_spreadAt 41 = .ok (.goto (-37), 3) := by decide +kernel
theorem dX5_spreadAt_44 : decode cX5_spreadAt 44 = .ok (.iload_n 2, 1) := by decide +kernel
theorem dX5_spreadAt_45 : decode cX5_spreadAt 45 = .ok (.iconst 2, 1) := by decide +kernel
theorem dX5_spreadAt_46 : decode cX5_spreadAt 46 = .ok (.if_icmp .lt 7, 3) := by decide +kernel
theorem dX5_spreadAt_49 : decode cX5_spreadAt 49 = .ok (.iconst 1, 1) := by decide +kernel
theorem dX5_spreadAt_50 : decode cX5_spreadAt 50 = .ok (.goto 4, 3) := by decide +kernel
theorem dX5_spreadAt_53 : decode cX5_spreadAt 53 = .ok (.iconst 0, 1) := by decide +kernel
theorem dX5_spreadAt_54 : decode cX5_spreadAt 54 = .ok (.ireturn, 1) := by decide +kernel
theorem dX5_greatestDanger_0 : decode cX5_greatestDanger 0 = .ok (.iconst 1, 1) := by decide +kernel
theorem dX5_greatestDanger_1 : decode cX5_greatestDanger 1 = .ok (.istore_n 1, 1) := by decide +kernel
theorem dX5_greatestDanger_2 : decode cX5_greatestDanger 2 = .ok (.iconst 0, 1) := by decide +kernel
theorem dX5_greatestDanger_3 : decode cX5_greatestDanger 3 = .ok (.istore_n 2, 1) := by decide +kernel
theorem dX5_greatestDanger_4 : decode cX5_greatestDanger 4 = .ok (.iload_n 2, 1) := by decide +kernel
theorem dX5_greatestDanger_5 : decode cX5_greatestDanger 5 = .ok (.bipush 12, 2) := by decide +kernel
theorem dX5_greatestDanger_7 : decode cX5_greatestDanger 7 = .ok (.if_icmp .ge 19, 3) := by decide +kernel
theorem dX5_greatestDanger_10 : decode cX5_greatestDanger 10 = .ok (.iload_n 1, 1) := by decide +kernel
theorem dX5_greatestDanger_11 : decode cX5_greatestDanger 11 = .ok (.aload_n 0, 1) := by decide +kernel
theorem dX5_greatestDanger_12 : decode cX5_greatestDanger 12 = .ok (.iload_n 2, 1) := by decide +kernel
theorem dX5_greatestDanger_13 : decode cX5_greatestDanger 13 = .ok (.invokevirtual 115, 3) := by decide +kernel
theorem dX5_greatestDanger_16 : decode cX5_greatestDanger 16 = .ok (.invokestatic 231, 3) := by decide +kernel
theorem dX5_greatestDanger_19 : decode cX5_greatestDanger 19 = .ok (.istore_n 1, 1) := by decide +kernel
theorem dX5_greatestDanger_20 : decode cX5_greatestDanger 20 = .ok (.iinc 2 1, 3) := by decide +kernel
theorem dX5_greatestDanger_23 : decode cX5_greatestDanger 23 = .ok (.goto (-19), 3) := by decide +kernel
theorem dX5_greatestDanger_26 : decode cX5_greatestDanger 26 = .ok (.iload_n 1, 1) := by decide +kernel
theorem dX5_greatestDanger_27 : decode cX5_greatestDanger 27 = .ok (.ireturn, 1) := by decide +kernel
theorem dX5_massOnSlopes_0 : decode cX5_massOnSlopes 0 = .ok (.iconst 0, 1) := by decide +kernel
theorem dX5_massOnSlopes_1 : decode cX5_massOnSlopes 1 = .ok (.istore_n 1, 1) := by decide +kernel
theorem dX5_massOnSlopes_2 : decode cX5_massOnSlopes 2 = .ok (.iconst 0, 1) := by decide +kernel
theorem dX5_massOnSlopes_3 : decode cX5_massOnSlopes 3 = .ok (.istore_n 2, 1) := by decide +kernel
theorem dX5_massOnSlopes_4 : decode cX5_massOnSlopes 4 = .ok (.iload_n 2, 1) := by decide +kernel
theorem dX5_massOnSlopes_5 : decode cX5_massOnSlopes 5 = .ok (.bipush 12, 2) := by decide +kernel
theorem dX5_massOnSlopes_7 : decode cX5_massOnSlopes 7 = .ok (.if_icmp .ge 22, 3) := by decide +kernel
theorem dX5_massOnSlopes_10 : decode cX5_massOnSlopes 10 = .ok (.iload_n 1, 1) := by decide +kernel
theorem dX5_massOnSlopes_11 : decode cX5_massOnSlopes 11 = .ok (.aload_n 0, 1) := by decide +kernel
theorem dX5_massOnSlopes_12 : decode cX5_massOnSlopes 12 = .ok (.getfield 11, 3) := by decide +kernel
theorem dX5_massOnSlopes_15 : decode cX5_massOnSlopes 15 = .ok (.iload_n 2, 1) := by decide +kernel
theorem dX5_massOnSlopes_16 : decode cX5_massOnSlopes 16 = .ok (.aaload, 1) := by decide +kernel
theorem dX5_massOnSlopes_17 : decode cX5_massOnSlopes 17 = .ok (.iconst (-1), 1) := by decide +kernel
theorem dX5_massOnSlopes_18 : decode cX5_massOnSlopes 18 = .ok (.invokevirtual 99, 3) := by decide +kernel
theorem dX5_massOnSlopes_21 : decode cX5_massOnSlopes 21 = .ok (.iadd, 1) := by decide +kernel
theorem dX5_massOnSlopes_22 : decode cX5_massOnSlopes 22 = .ok (.istore_n 1, 1) := by decide +kernel
theorem dX5_massOnSlopes_23 : decode cX5_massOnSlopes 23 = .ok (.iinc 2 1, 3) := by decide +kernel
theorem dX5_massOnSlopes_26 : decode cX5_massOnSlopes 26 = .ok (.goto (-22), 3) := by decide +kernel
theorem dX5_massOnSlopes_29 : decode cX5_massOnSlopes 29 = .ok (.iload_n 1, 1) := by decide +kernel
theorem dX5_massOnSlopes_30 : decode cX5_massOnSlopes 30 = .ok (.ireturn, 1) := by decide +kernel
theorem dX6_init_0 : decode cX6_init 0 = .ok (.aload_n 0, 1) := by decide +kernel
theorem dX6_init_1 : decode cX6_init 1 = .ok (.invokespecial 1, 3) := by decide +kernel
theorem dX6_init_4 : decode cX6_init 4 = .ok (.aload_n 0, 1) := by decide +kernel
theorem dX6_init_5 : decode cX6_init 5 = .ok (.bipush 12, 2) := by decide +kernel
theorem dX6_init_7 : decode cX6_init 7 = .ok (.newarray .int, 2) := by decide +kernel
theorem dX6_init_9 : decode cX6_init 9 = .ok (.putfield 9, 3) := by decide +kernel
theorem dX6_init_12 : decode cX6_init 12 = .ok (.aload_n 0, 1) := by decide +kernel
theorem dX6_init_13 : decode cX6_init 13 = .ok (.bipush 120, 2) := by decide +kernel
theorem dX6_init_15 : decode cX6_init 15 = .ok (.newarray .int, 2) := by decide +kernel
theorem dX6_init_17 : decode cX6_init 17 = .ok (.putfield 13, 3) := by decide +kernel
theorem dX6_init_20 : decode cX6_init 20 = .ok (.aload_n 0, 1) := by decide +kernel
theorem dX6_init_21 : decode cX6_init 21 = .ok (.bipush 120, 2) := by decide +kernel
theorem dX6_init_23 : decode cX6_init 23 = .ok (.newarray .int, 2) := by decide +kernel
theorem dX6_init_25 : decode cX6_init 25 = .ok (.putfield 16, 3) := by decide +kernel
theorem dX6_init_28 : decode cX6_init 28 = .ok (.aload_n 0, 1) := by decide +kernel
theorem dX6_init_29 : decode cX6_init 29 = .ok (.bipush 120, 2) := by decide +kernel
theorem dX6_init_31 : decode cX6_init 31 = .ok (.newarray .int, 2) := by decide +kernel
theorem dX6_init_33 : decode cX6_init 33 = .ok (.putfield 19, 3) := by decide +kernel
theorem dX6_init_36 : decode cX6_init 36 = .ok (.aload_n 0, 1) := by decide +kernel
theorem dX6_init_37 : decode cX6_init 37 = .ok (.iconst 3, 1) := by decide +kernel
theorem dX6_init_38 : decode cX6_init 38 = .ok (.newarray .int, 2) := by decide +kernel
theorem dX6_init_40 : decode cX6_init 40 = .ok (.dup, 1) := by decide +kernel
theorem dX6_init_41 : decode cX6_init 41 = .ok (.iconst 0, 1) := by decide +kernel
theorem dX6_init_42 : decode cX6_init 42 = .ok (.iconst (-1), 1) := by decide +kernel
theorem dX6_init_43 : decode cX6_init 43 = .ok (.iastore, 1) := by decide +kernel
theorem dX6_init_44 : decode cX6_init 44 = .ok (.dup, 1) := by decide +kernel
theorem dX6_init_45 : decode cX6_init 45 = .ok (.iconst 1, 1) := by decide +kernel
theorem dX6_init_46 : decode cX6_init 46 = .ok (.iconst (-1), 1) := by decide +kernel
theorem dX6_init_47 : decode cX6_init 47 = .ok (.iastore, 1) := by decide +kernel
theorem dX6_init_48 : decode cX6_init 48 = .ok (.dup, 1) := by decide +kernel
theorem dX6_init_49 : decode cX6_init 49 = .ok (.iconst 2, 1) := by decide +kernel
theorem dX6_init_50 : decode cX6_init 50 = .ok (.iconst (-1), 1) := by decide +kernel
theorem dX6_init_51 : decode cX6_init 51 = .ok (.iastore, 1) := by decide +kernel
theorem dX6_init_52 : decode cX6_init 52 = .ok (.putfield 22, 3) := by decide +kernel
theorem dX6_init_55 : decode cX6_init 55 = .ok (.aload_n 0, 1) := by decide +kernel
theorem dX6_init_56 : decode cX6_init 56 = .ok (.iconst 3, 1) := by decide +kernel
theorem dX6_init_57 : decode cX6_init 57 = .ok (.newarray .int, 2) := by decide +kernel
theorem dX6_init_59 : decode cX6_init 59 = .ok (.dup, 1) := by decide +kernel
theorem dX6_init_60 : decode cX6_init 60 = .ok (.iconst 0, 1) := by decide +kernel
theorem dX6_init_61 : decode cX6_init 61 = .ok (.bipush (-100), 2) := by decide +kernel
theorem dX6_init_63 : decode cX6_init 63 = .ok (.iastore, 1) := by decide +kernel
theorem dX6_init_64 : decode cX6_init 64 = .ok (.dup, 1) := by decide +kernel
theorem dX6_init_65 : decode cX6_init 65 = .ok (.iconst 1, 1) := by decide +kernel
theorem dX6_init_66 : decode cX6_init 66 = .ok (.bipush (-100), 2) := by decide +kernel
theorem dX6_init_68 : decode cX6_init 68 = .ok (.iastore, 1) := by decide +kernel
theorem dX6_init_69 : decode cX6_init 69 = .ok (.dup, 1) := by decide +kernel
theorem dX6_init_70 : decode cX6_init 70 = .ok (.iconst 2, 1) := by decide +kernel
theorem dX6_init_71 : decode cX6_init 71 = .ok (.bipush (-100), 2) := by decide +kernel
theorem dX6_init_73 : decode cX6_init 73 = .ok (.iastore, 1) := by decide +kernel
theorem dX6_init_74 : decode cX6_init 74 = .ok (.putfield 25, 3) := by decide +kernel
theorem dX6_init_77 : decode cX6_init 77 = .ok (.aload_n 0, 1) := by decide +kernel
theorem dX6_init_78 : decode cX6_init 78 = .ok (.iconst 3, 1) := by decide +kernel
theorem dX6_init_79 : decode cX6_init 79 = .ok (.newarray .int, 2) := by decide +kernel
theorem dX6_init_81 : decode cX6_init 81 = .ok (.dup, 1) := by decide +kernel
theorem dX6_init_82 : decode cX6_init 82 = .ok (.iconst 0, 1) := by decide +kernel
theorem dX6_init_83 : decode cX6_init 83 = .ok (.bipush (-5), 2) := by decide +kernel
theorem dX6_init_85 : decode cX6_init 85 = .ok (.iastore, 1) := by decide +kernel
theorem dX6_init_86 : decode cX6_init 86 = .ok (.dup, 1) := by decide +kernel
theorem dX6_init_87 : decode cX6_init 87 = .ok (.iconst 1, 1) := by decide +kernel
theorem dX6_init_88 : decode cX6_init 88 = .ok (.bipush (-5), 2) := by decide +kernel
theorem dX6_init_90 : decode cX6_init 90 = .ok (.iastore, 1) := by decide +kernel
theorem dX6_init_91 : decode cX6_init 91 = .ok (.dup, 1) := by decide +kernel
theorem dX6_init_92 : decode cX6_init 92 = .ok (.iconst 2, 1) := by decide +kernel
theorem dX6_init_93 : decode cX6_init 93 = .ok (.bipush (-5), 2) := by decide +kernel
theorem dX6_init_95 : decode cX6_init 95 = .ok (.iastore, 1) := by decide +kernel
theorem dX6_init_96 : decode cX6_init 96 = .ok (.putfield 28, 3) := by decide +kernel
theorem dX6_init_99 : decode cX6_init 99 = .ok (.aload_n 0, 1) := by decide +kernel
theorem dX6_init_100 : decode cX6_init 100 = .ok (.bipush 12, 2) := by decide +kernel
theorem dX6_init_102 : decode cX6_init 102 = .ok (.newarray .boolean, 2) := by decide +kernel
theorem dX6_init_104 : decode cX6_init 104 = .ok (.putfield 31, 3) := by decide +kernel
theorem dX6_init_107 : decode cX6_init 107 = .ok (.aload_n 0, 1) := by decide +kernel
theorem dX6_init_108 : decode cX6_init 108 = .ok (.bipush 12, 2) := by decide +kernel
theorem dX6_init_110 : decode cX6_init 110 = .ok (.newarray .int, 2) := by decide +kernel
theorem dX6_init_112 : decode cX6_init 112 = .ok (.putfield 35, 3) := by decide +kernel
theorem dX6_init_115 : decode cX6_init 115 = .ok (.aload_n 0, 1) := by decide +kernel
theorem dX6_init_116 : decode cX6_init 116 = .ok (.iconst 4, 1) := by decide +kernel
theorem dX6_init_117 : decode cX6_init 117 = .ok (.newarray .int, 2) := by decide +kernel
theorem dX6_init_119 : decode cX6_init 119 = .ok (.putfield 38, 3) := by decide +kernel
theorem dX6_init_122 : decode cX6_init 122 = .ok (.aload_n 0, 1) := by decide +kernel
theorem dX6_init_123 : decode cX6_init 123 = .ok (.bipush 10, 2) := by decide +kernel
theorem dX6_init_125 : decode cX6_init 125 = .ok (.newarray .int, 2) := by decide +kernel
theorem dX6_init_127 : decode cX6_init 127 = .ok (.putfield 41, 3) := by decide +kernel
theorem dX6_init_130 : decode cX6_init 130 = .ok (.aload_n 0, 1) := by decide +kernel
theorem dX6_init_131 : decode cX6_init 131 = .ok (.bipush 10, 2) := by decide +kernel
theorem dX6_init_133 : decode cX6_init 133 = .ok (.newarray .int, 2) := by decide +kernel
theorem dX6_init_135 : decode cX6_init 135 = .ok (.putfield 44, 3) := by decide +kernel
theorem dX6_init_138 : decode cX6_init 138 = .ok (.aload_n 0, 1) := by decide +kernel
theorem dX6_init_139 : decode cX6_init 139 = .ok (.bipush 6, 2) := by decide +kernel
theorem dX6_init_141 : decode cX6_init 141 = .ok (.newarray .int, 2) := by decide +kernel
theorem dX6_init_143 : decode cX6_init 143 = .ok (.putfield 47, 3) := by decide +kernel
theorem dX6_init_146 : decode cX6_init 146 = .ok (.aload_n 0, 1) := by decide +kernel
theorem dX6_init_147 : decode cX6_init 147 = .ok (.bipush 6, 2) := by decide +kernel
theorem dX6_init_149 : decode cX6_init 149 = .ok (.newarray .int, 2) := by decide +kernel
theorem dX6_init_151 : decode cX6_init 151 = .ok (.putfield 50, 3) := by decide +kernel
theorem dX6_init_154 : decode cX6_init 154 = .ok (.aload_n 0, 1) := by decide +kernel
theorem dX6_init_155 : decode cX6_init 155 = .ok (.bipush 77, 2) := by decide +kernel
theorem dX6_init_157 : decode cX6_init 157 = .ok (.newarray .int, 2) := by decide +kernel
theorem dX6_init_159 : decode cX6_init 159 = .ok (.putfield 53, 3) := by decide +kernel
theorem dX6_init_162 : decode cX6_init 162 = .ok (.return_, 1) := by decide +kernel
theorem dX6_in_0 : decode cX6_in 0 = .ok (.iload_n 0, 1) := by decide +kernel
theorem dX6_in_1 : decode cX6_in 1 = .ok (.iload_n 1, 1) := by decide +kernel
theorem dX6_in_2 : decode cX6_in 2 = .ok (.if_icmp .lt 12, 3) := by decide +kernel
theorem dX6_in_5 : decode cX6_in 5 = .ok (.iload_n 0, 1) := by decide +kernel
theorem dX6_in_6 : decode cX6_in 6 = .ok (.iload_n 2, 1) := by decide +kernel
theorem dX6_in_7 : decode cX6_in 7 = .ok (.if_icmp .gt 7, 3) := by decide +kernel
theorem dX6_in_10 : decode cX6_in 10 = .ok (.iconst 1, 1) := by decide +kernel
theorem dX6_in_11 : decode cX6_in 11 = .ok (.goto 4, 3) := by decide +kernel
theorem dX6_in_14 : decode cX6_in 14 = .ok (.iconst 0, 1) := by decide +kernel
theorem dX6_in_15 : decode cX6_in 15 = .ok (.ireturn, 1) := by decide +kernel
theorem dX6_isClass_0 : decode cX6_isClass 0 = .ok (.iload_n 0, 1) := by decide +kernel
theorem dX6_isClass_1 : decode cX6_isClass 1 = .ok (.iconst 0, 1) := by decide +kernel
theorem dX6_isClass_2 : decode cX6_isClass 2 = .ok (.bipush 11, 2) := by decide +kernel
theorem dX6_isClass_4 : decode cX6_isClass 4 = .ok (.invokestatic 56, 3) := by decide +kernel
theorem dX6_isClass_7 : decode cX6_isClass 7 = .ok (.ireturn, 1) := by decide +kernel
theorem dX6_snow_0 : decode cX6_snow 0 = .ok (.iload_n 1, 1) := by decide +kernel
theorem dX6_snow_1 : decode cX6_snow 1 = .ok (.iconst 0, 1) := by decide +kernel
theorem dX6_snow_2 : decode cX6_snow 2 = .ok (.iconst 2, 1) := by decide +kernel
theorem dX6_snow_3 : decode cX6_snow 3 = .ok (.invokestatic 56, 3) := by decide +kernel
theorem dX6_snow_6 : decode cX6_snow 6 = .ok (.ifCond .eq 24, 3) := by decide +kernel
theorem dX6_snow_9 : decode cX6_snow 9 = .ok (.iload_n 2, 1) := by decide +kernel
theorem dX6_snow_10 : decode cX6_snow 10 = .ok (.iconst (-1), 1) := by decide +kernel
theorem dX6_snow_11 : decode cX6_snow 11 = .ok (.sipush 200, 3) := by decide +kernel
theorem dX6_snow_14 : decode cX6_snow 14 = .ok (.invokestatic 56, 3) := by decide +kernel
theorem dX6_snow_17 : decode cX6_snow 17 = .ok (.ifCond .eq 13, 3) := by decide +kernel
theorem dX6_snow_20 : decode cX6_snow 20 = .ok (.aload_n 0, 1) := by decide +kernel
theorem dX6_snow_21 : decode cX6_snow 21 = .ok (.getfield 60, 3) := by decide +kernel
theorem dX6_snow_24 : decode cX6_snow 24 = .ok (.sipush 400, 3) := by decide +kernel
theorem dX6_snow_27 : decode cX6_snow 27 = .ok (.if_icmp .ne 5, 3) := by decide +kernel
theorem dX6_snow_30 : decode cX6_snow 30 = .ok (.iconst 0, 1) := by decide +kernel
theorem dX6_snow_31 : decode cX6_snow 31 = .ok (.ireturn, 1) := by decide +kernel
theorem dX6_snow_32 : decode cX6_snow 32 = .ok (.aload_n 0, 1) := by decide +kernel
theorem dX6_snow_33 : decode cX6_snow 33 = .ok (.getfield 22, 3) := by decide +kernel
theorem dX6_snow_36 : decode cX6_snow 36 = .ok (.iload_n 1, 1) := by decide +kernel
theorem dX6_snow_37 : decode cX6_snow 37 = .ok (.iload_n 2, 1) := by decide +kernel
theorem dX6_snow_38 : decode cX6_snow 38 = .ok (.iastore, 1) := by decide +kernel
theorem dX6_snow_39 : decode cX6_snow 39 = .ok (.iconst 1, 1) := by decide +kernel
theorem dX6_snow_40 : decode cX6_snow 40 = .ok (.ireturn, 1) := by decide +kernel
theorem dX6_warmth_0 : decode cX6_warmth 0 = .ok (.iload_n 1, 1) := by decide +kernel
theorem dX6_warmth_1 : decode cX6_warmth 1 = .ok (.iconst 0, 1) := by decide +kernel
theorem dX6_warmth_2 : decode cX6_warmth 2 = .ok (.iconst 2, 1) := by decide +kernel
theorem dX6_warmth_3 : decode cX6_warmth 3 = .ok (.invokestatic 56, 3) := by decide +kernel
theorem dX6_warmth_6 : decode cX6_warmth 6 = .ok (.ifCond .eq 30, 3) := by decide +kernel
theorem dX6_warmth_9 : decode cX6_warmth 9 = .ok (.iload_n 2, 1) := by decide +kernel
theorem dX6_warmth_10 : decode cX6_warmth 10 = .ok (.bipush (-100), 2) := by decide +kernel
theorem dX6_warmth_12 : decode cX6_warmth 12 = .ok (.if_icmp .eq 14, 3) := by decide +kernel
theorem dX6_warmth_15 : decode cX6_warmth 15 = .ok (.iload_n 2, 1) := by decide +kernel
theorem dX6_warmth_16 : decode cX6_warmth 16 = .ok (.bipush (-30), 2) := by decide +kernel
theorem dX6_warmth_18 : decode cX6_warmth 18 = .ok (.bipush 10, 2) := by decide +kernel
theorem dX6_warmth_20 : decode cX6_warmth 20 = .ok (.invokestatic 56, 3) := by decide +kernel
theorem dX6_warmth_23 : decode cX6_warmth 23 = .ok (.ifCond .eq 13, 3) := by decide +kernel
theorem dX6_warmth_26 : decode cX6_warmth 26 = .ok (.aload_n 0, 1) := by decide +kernel
theorem dX6_warmth_27 : decode cX6_warmth 27 = .ok (.getfield 60, 3) := by decide +kernel
theorem dX6_warmth_30 : decode cX6_warmth 30 = .ok (.sipush 400, 3) := by decide +kernel
theorem dX6_warmth_33 : decode cX6_warmth 33 = .ok (.if_icmp .ne 5, 3) := by decide +kernel
theorem dX6_warmth_36 : decode cX6_warmth 36 = .ok (.iconst 0, 1) := by decide +kernel
theorem dX6_warmth_37 : decode cX6_warmth 37 = .ok (.ireturn, 1) := by decide +kernel
theorem dX6_warmth_38 : decode cX6_warmth 38 = .ok (.aload_n 0, 1) := by decide +kernel
theorem dX6_warmth_39 : decode cX6_warmth 39 = .ok (.getfield 25, 3) := by decide +kernel
theorem dX6_warmth_42 : decode cX6_warmth 42 = .ok (.iload_n 1, 1) := by decide +kernel
theorem dX6_warmth_43 : decode cX6_warmth 43 = .ok (.iload_n 2, 1) := by decide +kernel
theorem dX6_warmth_44 : decode cX6_warmth 44 = .ok (.iastore, 1) := by decide +kernel
theorem dX6_warmth_45 : decode cX6_warmth 45 = .ok (.iconst 1, 1) := by decide +kernel
theorem dX6_warmth_46 : decode cX6_warmth 46 = .ok (.ireturn, 1) := by decide +kernel
theorem dX6_wind_0 : decode cX6_wind 0 = .ok (.iload_n 1, 1) := by decide +kernel
theorem dX6_wind_1 : decode cX6_wind 1 = .ok (.iconst 0, 1) := by decide +kernel
theorem dX6_wind_2 : decode cX6_wind 2 = .ok (.iconst 3, 1) := by decide +kernel
theorem dX6_wind_3 : decode cX6_wind 3 = .ok (.invokestatic 56, 3) := by decide +kernel
theorem dX6_wind_6 : decode cX6_wind 6 = .ok (.ifCond .eq 23, 3) := by decide +kernel
theorem dX6_wind_9 : decode cX6_wind 9 = .ok (.iload_n 2, 1) := by decide +kernel
theorem dX6_wind_10 : decode cX6_wind 10 = .ok (.iconst 0, 1) := by decide +kernel
theorem dX6_wind_11 : decode cX6_wind 11 = .ok (.bipush 9, 2) := by decide +kernel
theorem dX6_wind_13 : decode cX6_wind 13 = .ok (.invokestatic 56, 3) := by decide +kernel
theorem dX6_wind_16 : decode cX6_wind 16 = .ok (.ifCond .eq 13, 3) := by decide +kernel
theorem dX6_wind_19 : decode cX6_wind 19 = .ok (.aload_n 0, 1) := by decide +kernel
theorem dX6_wind_20 : decode cX6_wind 20 = .ok (.getfield 60, 3) := by decide +kernel
theorem dX6_wind_23 : decode cX6_wind 23 = .ok (.sipush 400, 3) := by decide +kernel
theorem dX6_wind_26 : decode cX6_wind 26 = .ok (.if_icmp .ne 5, 3) := by decide +kernel
theorem dX6_wind_29 : decode cX6_wind 29 = .ok (.iconst 0, 1) := by decide +kernel
theorem dX6_wind_30 : decode cX6_wind 30 = .ok (.ireturn, 1) := by decide +kernel
theorem dX6_wind_31 : decode cX6_wind 31 = .ok (.aload_n 0, 1) := by decide +kernel
theorem dX6_wind_32 : decode cX6_wind 32 = .ok (.iload_n 1, 1) := by decide +kernel
theorem dX6_wind_33 : decode cX6_wind 33 = .ok (.putfield 64, 3) := by decide +kernel
theorem dX6_wind_36 : decode cX6_wind 36 = .ok (.aload_n 0, 1) := by decide +kernel
theorem dX6_wind_37 : decode cX6_wind 37 = .ok (.iload_n 2, 1) := by decide +kernel
theorem dX6_wind_38 : decode cX6_wind 38 = .ok (.putfield 67, 3) := by decide +kernel
theorem dX6_wind_41 : decode cX6_wind 41 = .ok (.iconst 1, 1) := by decide +kernel
theorem dX6_wind_42 : decode cX6_wind 42 = .ok (.ireturn, 1) := by decide +kernel
theorem dX6_falls_0 : decode cX6_falls 0 = .ok (.bipush 10, 2) := by decide +kernel
theorem dX6_falls_2 : decode cX6_falls 2 = .ok (.iload_n 1, 1) := by decide +kernel
theorem dX6_falls_3 : decode cX6_falls 3 = .ok (.imul, 1) := by decide +kernel
theorem dX6_falls_4 : decode cX6_falls 4 = .ok (.istore_n 3, 1) := by decide +kernel
theorem dX6_falls_5 : decode cX6_falls 5 = .ok (.aload_n 0, 1) := by decide +kernel
theorem dX6_falls_6 : decode cX6_falls 6 = .ok (.getfield 9, 3) := by decide +kernel
theorem dX6_falls_9 : decode cX6_falls 9 = .ok (.iload_n 1, 1) := by decide +kernel
theorem dX6_falls_10 : decode cX6_falls 10 = .ok (.iaload, 1) := by decide +kernel
theorem dX6_falls_11 : decode cX6_falls 11 = .ok (.bipush 10, 2) := by decide +kernel
theorem dX6_falls_13 : decode cX6_falls 13 = .ok (.if_icmp .ne 139, 3) := by decide +kernel
theorem dX6_falls_16 : decode cX6_falls 16 = .ok (.aload_n 0, 1) := by decide +kernel
theorem dX6_falls_17 : decode cX6_falls 17 = .ok (.getfield 16, 3) := by decide +kernel
theorem dX6_falls_20 : decode cX6_falls 20 = .ok (.iload_n 3, 1) := by decide +kernel
theorem dX6_falls_21 : decode cX6_falls 21 = .ok (.iconst 1, 1) := by decide +kernel
theorem dX6_falls_22 : decode cX6_falls 22 = .ok (.iadd, 1) := by decide +kernel
theorem dX6_falls_23 : decode cX6_falls 23 = .ok (.dup2, 1) := by decide +kernel
theorem dX6_falls_24 : decode cX6_falls 24 = .ok (.iaload, 1) := by decide +kernel
theorem dX6_falls_25 : decode cX6_falls 25 = .ok (.aload_n 0, 1) := by decide +kernel
theorem dX6_falls_26 : decode cX6_falls 26 = .ok (.getfield 16, 3) := by decide +kernel
theorem dX6_falls_29 : decode cX6_falls 29 = .ok (.iload_n 3, 1) := by decide +kernel
theorem dX6_falls_30 : decode cX6_falls 30 = .ok (.iaload, 1) := by decide +kernel
theorem dX6_falls_31 : decode cX6_falls 31 = .ok (.iadd, 1) := by decide +kernel
theorem dX6_falls_32 : decode cX6_falls 32 = .ok (.iastore, 1) := by decide +kernel
theorem dX6_falls_33 : decode cX6_falls 33 = .ok (.aload_n 0, 1) := by decide +kernel
theorem dX6_falls_34 : decode cX6_falls 34 = .ok (.getfield 19, 3) := by decide +kernel
theorem dX6_falls_37 : decode cX6_falls 37 = .ok (.iload_n 3, 1) := by decide +kernel
theorem dX6_falls_38 : decode cX6_falls 38 = .ok (.iaload, 1) := by decide +kernel
theorem dX6_falls_39 : decode cX6_falls 39 = .ok (.aload_n 0, 1) := by decide +kernel
theorem dX6_falls_40 : decode cX6_falls 40 = .ok (.getfield 19, 3) := by decide +kernel
theorem dX6_falls_43 : decode cX6_falls 43 = .ok (.iload_n 3, 1) := by decide +kernel
theorem dX6_falls_44 : decode cX6_falls 44 = .ok (.iconst 1, 1) := by decide +kernel
theorem dX6_falls_45 : decode cX6_falls 45 = .ok (.iadd, 1) := by decide +kernel
theorem dX6_falls_46 : decode cX6_falls 46 = .ok (.iaload, 1) := by decide +kernel
theorem dX6_falls_47 : decode cX6_falls 47 = .ok (.if_icmp .le 17, 3) := by decide +kernel
theorem dX6_falls_50 : decode cX6_falls 50 = .ok (.aload_n 0, 1) := by decide +kernel
theorem dX6_falls_51 : decode cX6_falls 51 = .ok (.getfield 19, 3) := by decide +kernel
theorem dX6_falls_54 : decode cX6_falls 54 = .ok (.iload_n 3, 1) := by decide +kernel
theorem dX6_falls_55 : decode cX6_falls 55 = .ok (.iconst 1, 1) := by decide +kernel
theorem dX6_falls_56 : decode cX6_falls 56 = .ok (.iadd, 1) := by decide +kernel
theorem dX6_falls_57 : decode cX6_falls 57 = .ok (.aload_n 0, 1) := by decide +kernel
theorem dX6_falls_58 : decode cX6_falls 58 = .ok (.getfield 19, 3) := by decide +kernel
theorem dX6_falls_61 : decode cX6_falls 61 = .ok (.iload_n 3, 1) := by decide +kernel
theorem dX6_falls_62 : decode cX6_falls 62 = .ok (.iaload, 1) := by decide +kernel
theorem dX6_falls_63 : decode cX6_falls 63 = .ok (.iastore, 1) := by decide +kernel
theorem dX6_falls_64 : decode cX6_falls 64 = .ok (.iconst 0, 1) := by decide +kernel
theorem dX6_falls_65 : decode cX6_falls 65 = .ok (.istore 4, 2) := by decide +kernel
theorem dX6_falls_67 : decode cX6_falls 67 = .ok (.iload 4, 2) := by decide +kernel
theorem dX6_falls_69 : decode cX6_falls 69 = .ok (.iconst 1, 1) := by decide +kernel
theorem dX6_falls_70 : decode cX6_falls 70 = .ok (.iadd, 1) := by decide +kernel
theorem dX6_falls_71 : decode cX6_falls 71 = .ok (.bipush 10, 2) := by decide +kernel
theorem dX6_falls_73 : decode cX6_falls 73 = .ok (.if_icmp .ge 69, 3) := by decide +kernel
theorem dX6_falls_76 : decode cX6_falls 76 = .ok (.aload_n 0, 1) := by decide +kernel
theorem dX6_falls_77 : decode cX6_falls 77 = .ok (.getfield 13, 3) := by decide +kernel
theorem dX6_falls_80 : decode cX6_falls 80 = .ok (.iload_n 3, 1) := by decide +kernel
theorem dX6_falls_81 : decode cX6_falls 81 = .ok (.iload 4, 2) := by decide +kernel
theorem dX6_falls_83 : decode cX6_falls 83 = .ok (.iadd, 1) := by decide +kernel
theorem dX6_falls_84 : decode cX6_falls 84 = .ok (.aload_n 0, 1) := by decide +kernel
theorem dX6_falls_85 : decode cX6_falls 85 = .ok (.getfield 13, 3) := by decide +kernel
theorem dX6_falls_88 : decode cX6_falls 88 = .ok (.iload_n 3, 1) := by decide +kernel
theorem dX6_falls_89 : decode cX6_falls 89 = .ok (.iload 4, 2) := by decide +kernel
theorem dX6_falls_91 : decode cX6_falls 91 = .ok (.iadd, 1) := by decide +kernel
theorem dX6_falls_92 : decode cX6_falls 92 = .ok (.iconst 1, 1) := by decide +kernel
theorem dX6_falls_93 : decode cX6_falls 93 = .ok (.iadd, 1) := by decide +kernel
theorem dX6_falls_94 : decode cX6_falls 94 = .ok (.iaload, 1) := by decide +kernel
theorem dX6_falls_95 : decode cX6_falls 95 = .ok (.iastore, 1) := by decide +kernel
theorem dX6_falls_96 : decode cX6_falls 96 = .ok (.aload_n 0, 1) := by decide +kernel
theorem dX6_falls_97 : decode cX6_falls 97 = .ok (.getfield 16, 3) := by decide +kernel
theorem dX6_falls_100 : decode cX6_falls 100 = .ok (.iload_n 3, 1) := by decide +kernel
theorem dX6_falls_101 : decode cX6_falls 101 = .ok (.iload 4, 2) := by decide +kernel
theorem dX6_falls_103 : decode cX6_falls 103 = .ok (.iadd, 1) := by decide +kernel
theorem dX6_falls_104 : decode cX6_falls 104 = .ok (.aload_n 0, 1) := by decide +kernel
theorem dX6_falls_105 : decode cX6_falls 105 = .ok (.getfield 16, 3) := by decide +kernel
theorem dX6_falls_108 : decode cX6_falls 108 = .ok (.iload_n 3, 1) := by decide +kernel
theorem dX6_falls_109 : decode cX6_falls 109 = .ok (.iload 4, 2) := by decide +kernel
theorem dX6_falls_111 : decode cX6_falls 111 = .ok (.iadd, 1) := by decide +kernel
theorem dX6_falls_112 : decode cX6_falls 112 = .ok (.iconst 1, 1) := by decide +kernel
theorem dX6_falls_113 : decode cX6_falls 113 = .ok (.iadd, 1) := by decide +kernel
theorem dX6_falls_114 : decode cX6_falls 114 = .ok (.iaload, 1) := by decide +kernel
theorem dX6_falls_115 : decode cX6_falls 115 = .ok (.iastore, 1) := by decide +kernel
theorem dX6_falls_116 : decode cX6_falls 116 = .ok (.aload_n 0, 1) := by decide +kernel
theorem dX6_falls_117 : decode cX6_falls 117 = .ok (.getfield 19, 3) := by decide +kernel
theorem dX6_falls_120 : decode cX6_falls 120 = .ok (.iload_n 3, 1) := by decide +kernel
theorem dX6_falls_121 : decode cX6_falls 121 = .ok (.iload 4, 2) := by decide +kernel
theorem dX6_falls_123 : decode cX6_falls 123 = .ok (.iadd, 1) := by decide +kernel
theorem dX6_falls_124 : decode cX6_falls 124 = .ok (.aload_n 0, 1) := by decide +kernel
theorem dX6_falls_125 : decode cX6_falls 125 = .ok (.getfield 19, 3) := by decide +kernel
theorem dX6_falls_128 : decode cX6_falls 128 = .ok (.iload_n 3, 1) := by decide +kernel
theorem dX6_falls_129 : decode cX6_falls 129 = .ok (.iload 4, 2) := by decide +kernel
theorem dX6_falls_131 : decode cX6_falls 131 = .ok (.iadd, 1) := by decide +kernel
theorem dX6_falls_132 : decode cX6_falls 132 = .ok (.iconst 1, 1) := by decide +kernel
theorem dX6_falls_133 : decode cX6_falls 133 = .ok (.iadd, 1) := by decide +kernel
theorem dX6_falls_134 : decode cX6_falls 134 = .ok (.iaload, 1) := by decide +kernel
theorem dX6_falls_135 : decode cX6_falls 135 = .ok (.iastore, 1) := by decide +kernel
theorem dX6_falls_136 : decode cX6_falls 136 = .ok (.iinc 4 1, 3) := by decide +kernel
theorem dX6_falls_139 : decode cX6_falls 139 = .ok (.goto (-72), 3) := by decide +kernel
theorem dX6_falls_142 : decode cX6_falls 142 = .ok (.aload_n 0, 1) := by decide +kernel
theorem dX6_falls_143 : decode cX6_falls 143 = .ok (.getfield 9, 3) := by decide +kernel
theorem dX6_falls_146 : decode cX6_falls 146 = .ok (.iload_n 1, 1) := by decide +kernel
theorem dX6_falls_147 : decode cX6_falls 147 = .ok (.dup2, 1) := by decide +kernel
theorem dX6_falls_148 : decode cX6_falls 148 = .ok (.iaload, 1) := by decide +kernel
theorem dX6_falls_149 : decode cX6_falls 149 = .ok (.iconst 1, 1) := by decide +kernel
theorem dX6_falls_150 : decode cX6_falls 150 = .ok (.isub, 1) := by decide +kernel
theorem dX6_falls_151 : decode cX6_falls 151 = .ok (.iastore, 1) := by decide +kernel
theorem dX6_falls_152 : decode cX6_falls 152 = .ok (.aload_n 0, 1) := by decide +kernel
theorem dX6_falls_153 : decode cX6_falls 153 = .ok (.getfield 13, 3) := by decide +kernel
theorem dX6_falls_156 : decode cX6_falls 156 = .ok (.iload_n 3, 1) := by decide +kernel
theorem dX6_falls_157 : decode cX6_falls 157 = .ok (.aload_n 0, 1) := by decide +kernel
theorem dX6_falls_158 : decode cX6_falls 158 = .ok (.getfield 9, 3) := by decide +kernel
theorem dX6_falls_161 : decode cX6_falls 161 = .ok (.iload_n 1, 1) := by decide +kernel
theorem dX6_falls_162 : decode cX6_falls 162 = .ok (.iaload, 1) := by decide +kernel
theorem dX6_falls_163 : decode cX6_falls 163 = .ok (.iadd, 1) := by decide +kernel
theorem dX6_falls_164 : decode cX6_falls 164 = .ok (.iconst 0, 1) := by decide +kernel
theorem dX6_falls_165 : decode cX6_falls 165 = .ok (.iastore, 1) := by decide +kernel
theorem dX6_falls_166 : decode cX6_falls 166 = .ok (.aload_n 0, 1) := by decide +kernel
theorem dX6_falls_167 : decode cX6_falls 167 = .ok (.getfield 16, 3) := by decide +kernel
theorem dX6_falls_170 : decode cX6_falls 170 = .ok (.iload_n 3, 1) := by decide +kernel
theorem dX6_falls_171 : decode cX6_falls 171 = .ok (.aload_n 0, 1) := by decide +kernel
theorem dX6_falls_172 : decode cX6_falls 172 = .ok (.getfield 9, 3) := by decide +kernel
theorem dX6_falls_175 : decode cX6_falls 175 = .ok (.iload_n 1, 1) := by decide +kernel
theorem dX6_falls_176 : decode cX6_falls 176 = .ok (.iaload, 1) := by decide +kernel
theorem dX6_falls_177 : decode cX6_falls 177 = .ok (.iadd, 1) := by decide +kernel
theorem dX6_falls_178 : decode cX6_falls 178 = .ok (.iload_n 2, 1) := by decide +kernel
theorem dX6_falls_179 : decode cX6_falls 179 = .ok (.iastore, 1) := by decide +kernel
theorem dX6_falls_180 : decode cX6_falls 180 = .ok (.aload_n 0, 1) := by decide +kernel
theorem dX6_falls_181 : decode cX6_falls 181 = .ok (.getfield 19, 3) := by decide +kernel
theorem dX6_falls_184 : decode cX6_falls 184 = .ok (.iload_n 3, 1) := by decide +kernel
theorem dX6_falls_185 : decode cX6_falls 185 = .ok (.aload_n 0, 1) := by decide +kernel
theorem dX6_falls_186 : decode cX6_falls 186 = .ok (.getfield 9, 3) := by decide +kernel
theorem dX6_falls_189 : decode cX6_falls 189 = .ok (.iload_n 1, 1) := by decide +kernel
theorem dX6_falls_190 : decode cX6_falls 190 = .ok (.iaload, 1) := by decide +kernel
theorem dX6_falls_191 : decode cX6_falls 191 = .ok (.iadd, 1) := by decide +kernel
theorem dX6_falls_192 : decode cX6_falls 192 = .ok (.iconst 0, 1) := by decide +kernel
theorem dX6_falls_193 : decode cX6_falls 193 = .ok (.iastore, 1) := by decide +kernel
theorem dX6_falls_194 : decode cX6_falls 194 = .ok (.aload_n 0, 1) := by decide +kernel
theorem dX6_falls_195 : decode cX6_falls 195 = .ok (.getfield 9, 3) := by decide +kernel
theorem dX6_falls_198 : decode cX6_falls 198 = .ok (.iload_n 1, 1) := by decide +kernel
theorem dX6_falls_199 : decode cX6_falls 199 = .ok (.dup2, 1) := by decide +kernel
theorem dX6_falls_200 : decode cX6_falls 200 = .ok (.iaload, 1) := by decide +kernel
theorem dX6_falls_201 : decode cX6_falls 201 = .ok (.iconst 1, 1) := by decide +kernel
theorem dX6_falls_202 : decode cX6_falls 202 = .ok (.iadd, 1) := by decide +kernel
theorem dX6_falls_203 : decode cX6_falls 203 = .ok (.iastore, 1) := by decide +kernel
theorem dX6_falls_204 : decode cX6_falls 204 = .ok (.return_, 1) := by decide +kernel
theorem dX6_snowAt_0 : decode cX6_snowAt 0 = .ok (.aload_n 0, 1) := by decide +kernel
theorem dX6_snowAt_1 : decode cX6_snowAt 1 = .ok (.getfield 22, 3) := by decide +kernel
theorem dX6_snowAt_4 : decode cX6_snowAt 4 = .ok (.iload_n 1, 1) := by decide +kernel
theorem dX6_snowAt_5 : decode cX6_snowAt 5 = .ok (.iaload, 1) := by decide +kernel
theorem dX6_snowAt_6 : decode cX6_snowAt 6 = .ok (.iconst (-1), 1) := by decide +kernel
theorem dX6_snowAt_7 : decode cX6_snowAt 7 = .ok (.if_icmp .eq 10, 3) := by decide +kernel
theorem dX6_snowAt_10 : decode cX6_snowAt 10 = .ok (.aload_n 0, 1) := by decide +kernel
theorem dX6_snowAt_11 : decode cX6_snowAt 11 = .ok (.getfield 22, 3) := by decide +kernel
theorem dX6_snowAt_14 : decode cX6_snowAt 14 = .ok (.iload_n 1, 1) := by decide +kernel
theorem dX6_snowAt_15 : decode cX6_snowAt 15 = .ok (.iaload, 1) := by decide +kernel
theorem dX6_snowAt_16 : decode cX6_snowAt 16 = .ok (.ireturn, 1) := by decide +kernel
theorem dX6_snowAt_17 : decode cX6_snowAt 17 = .ok (.iconst 0, 1) := by decide +kernel
theorem dX6_snowAt_18 : decode cX6_snowAt 18 = .ok (.istore_n 2, 1) := by decide +kernel
theorem dX6_snowAt_19 : decode cX6_snowAt 19 = .ok (.iconst 0, 1) := by decide +kernel
theorem dX6_snowAt_20 : decode cX6_snowAt 20 = .ok (.istore_n 3, 1) := by decide +kernel
theorem dX6_snowAt_21 : decode cX6_snowAt 21 = .ok (.iconst 0, 1) := by decide +kernel
theorem dX6_snowAt_22 : decode cX6_snowAt 22 = .ok (.istore 4, 2) := by decide +kernel
theorem dX6_snowAt_24 : decode cX6_snowAt 24 = .ok (.iload 4, 2) := by decide +kernel
theorem dX6_snowAt_26 : decode cX6_snowAt 26 = .ok (.iconst 3, 1) := by decide +kernel
theorem dX6_snowAt_27 : decode cX6_snowAt 27 = .ok (.if_icmp .ge 36, 3) := by decide +kernel
theorem dX6_snowAt_30 : decode cX6_snowAt 30 = .ok (.aload_n 0, 1) := by decide +kernel
theorem dX6_snowAt_31 : decode cX6_snowAt 31 = .ok (.getfield 22, 3) := by decide +kernel
theorem dX6_snowAt_34 : decode cX6_snowAt 34 = .ok (.iload 4, 2) := by decide +kernel
theorem dX6_snowAt_36 : decode cX6_snowAt 36 = .ok (.iaload, 1) := by decide +kernel
theorem dX6_snowAt_37 : decode cX6_snowAt 37 = .ok (.iconst (-1), 1) := by decide +kernel
theorem dX6_snowAt_38 : decode cX6_snowAt 38 = .ok (.if_icmp .ne 6, 3) := by decide +kernel
theorem dX6_snowAt_41 : decode cX6_snowAt 41 = .ok (.goto 16, 3) := by decide +kernel
theorem dX6_snowAt_44 : decode cX6_snowAt 44 = .ok (.iinc 2 1, 3) := by decide +kernel
theorem dX6_snowAt_47 : decode cX6_snowAt 47 = .ok (.iload_n 3, 1) := by decide +kernel
theorem dX6_snowAt_48 : decode cX6_snowAt 48 = .ok (.aload_n 0, 1) := by decide +kernel
theorem dX6_snowAt_49 : decode cX6_snowAt 49 = .ok (.getfield 22, 3) := by decide +kernel
theorem dX6_snowAt_52 : decode cX6_snowAt 52 = .ok (.iload 4, 2) := by decide +kernel
theorem dX6_snowAt_54 : decode cX6_snowAt 54 = .ok (.iaload, 1) := by decide +kernel
theorem dX6_snowAt_55 : decode cX6_snowAt 55 = .ok (.iadd, 1) := by decide +kernel
theorem dX6_snowAt_56 : decode cX6_snowAt 56 = .ok (.istore_n 3, 1) := by decide +kernel
theorem dX6_snowAt_57 : decode cX6_snowAt 57 = .ok (.iinc 4 1, 3) := by decide +kernel
theorem dX6_snowAt_60 : decode cX6_snowAt 60 = .ok (.goto (-36), 3) := by decide +kernel
theorem dX6_snowAt_63 : decode cX6_snowAt 63 = .ok (.iload_n 2, 1) := by decide +kernel
theorem dX6_snowAt_64 : decode cX6_snowAt 64 = .ok (.ifCond .ne 7, 3) := by decide +kernel
theorem dX6_snowAt_67 : decode cX6_snowAt 67 = .ok (.iconst 0, 1) := by decide +kernel
theorem dX6_snowAt_68 : decode cX6_snowAt 68 = .ok (.goto 6, 3) := by decide +kernel
theorem dX6_snowAt_71 : decode cX6_snowAt 71 = .ok (.iload_n 3, 1) := by decide +kernel
theorem dX6_snowAt_72 : decode cX6_snowAt 72 = .ok (.iload_n 2, 1) := by decide +kernel
theorem dX6_snowAt_73 : decode cX6_snowAt 73 = .ok (.idiv, 1) := by decide +kernel
theorem dX6_snowAt_74 : decode cX6_snowAt 74 = .ok (.ireturn, 1) := by decide +kernel
theorem dX6_top_0 : decode cX6_top 0 = .ok (.bipush 10, 2) := by decide +kernel
theorem dX6_top_2 : decode cX6_top 2 = .ok (.iload_n 1, 1) := by decide +kernel
theorem dX6_top_3 : decode cX6_top 3 = .ok (.imul, 1) := by decide +kernel
theorem dX6_top_4 : decode cX6_top 4 = .ok (.aload_n 0, 1) := by decide +kernel
theorem dX6_top_5 : decode cX6_top 5 = .ok (.getfield 9, 3) := by decide +kernel
theorem dX6_top_8 : decode cX6_top 8 = .ok (.iload_n 1, 1) := by decide +kernel
theorem dX6_top_9 : decode cX6_top 9 = .ok (.iaload, 1) := by decide +kernel
theorem dX6_top_10 : decode cX6_top 10 = .ok (.iadd, 1) := by decide +kernel
theorem dX6_top_11 : decode cX6_top 11 = .ok (.iconst 1, 1) := by decide +kernel
theorem dX6_top_12 : decode cX6_top 12 = .ok (.isub, 1) := by decide +kernel
theorem dX6_top_13 : decode cX6_top 13 = .ok (.ireturn, 1) := by decide +kernel
theorem dX6_isNewOn_0 : decode cX6_isNewOn 0 = .ok (.aload_n 0, 1) := by decide +kernel
theorem dX6_isNewOn_1 : decode cX6_isNewOn 1 = .ok (.getfield 9, 3) := by decide +kernel
theorem dX6_isNewOn_4 : decode cX6_isNewOn 4 = .ok (.iload_n 1, 1) := by decide +kernel
theorem dX6_isNewOn_5 : decode cX6_isNewOn 5 = .ok (.iaload, 1) := by decide +kernel
theorem dX6_isNewOn_6 : decode cX6_isNewOn 6 = .ok (.ifCond .le 20, 3) := by decide +kernel
theorem dX6_isNewOn_9 : decode cX6_isNewOn 9 = .ok (.aload_n 0, 1) := by decide +kernel
theorem dX6_isNewOn_10 : decode cX6_isNewOn 10 = .ok (.getfield 13, 3) := by decide +kernel
theorem dX6_isNewOn_13 : decode cX6_isNewOn 13 = .ok (.aload_n 0, 1) := by decide +kernel
theorem dX6_isNewOn_14 : decode cX6_isNewOn 14 = .ok (.iload_n 1, 1) := by decide +kernel
theorem dX6_isNewOn_15 : decode cX6_isNewOn 15 = .ok (.invokevirtual 70, 3) := by decide +kernel
theorem dX6_isNewOn_18 : decode cX6_isNewOn 18 = .ok (.iaload, 1) := by decide +kernel
theorem dX6_isNewOn_19 : decode cX6_isNewOn 19 = .ok (.ifCond .ne 7, 3) := by decide +kernel
theorem dX6_isNewOn_22 : decode cX6_isNewOn 22 = .ok (.iconst 1, 1) := by decide +kernel
theorem dX6_isNewOn_23 : decode cX6_isNewOn 23 = .ok (.goto 4, 3) := by decide +kernel
theorem dX6_isNewOn_26 : decode cX6_isNewOn 26 = .ok (.iconst 0, 1) := by decide +kernel
theorem dX6_isNewOn_27 : decode cX6_isNewOn 27 = .ok (.ireturn, 1) := by decide +kernel
theorem dX6_drifts_0 : decode cX6_drifts 0 = .ok (.aload_n 0, 1) := by decide +kernel
theorem dX6_drifts_1 : decode cX6_drifts 1 = .ok (.iload_n 1, 1) := by decide +kernel
theorem dX6_drifts_2 : decode cX6_drifts 2 = .ok (.invokevirtual 74, 3) := by decide +kernel
theorem dX6_drifts_5 : decode cX6_drifts 5 = .ok (.ifCond .ne 4, 3) := by decide +kernel
theorem dX6_drifts_8 : decode cX6_drifts 8 = .ok (.return_, 1) := by decide +kernel
theorem dX6_drifts_9 : decode cX6_drifts 9 = .ok (.aload_n 0, 1) := by decide +kernel
theorem dX6_drifts_10 : decode cX6_drifts 10 = .ok (.getfield 16, 3) := by decide +kernel
theorem dX6_drifts_13 : decode cX6_drifts 13 = .ok (.aload_n 0, 1) := by decide +kernel
theorem dX6_drifts_14 : decode cX6_drifts 14 = .ok (.iload_n 1, 1) := by decide +kernel
theorem dX6_drifts_15 : decode cX6_drifts 15 = .ok (.invokevirtual 70, 3) := by decide +kernel
theorem dX6_drifts_18 : decode cX6_drifts 18 = .ok (.iaload, 1) := by decide +kernel
theorem dX6_drifts_19 : decode cX6_drifts 19 = .ok (.aload_n 0, 1) := by decide +kernel
theorem dX6_drifts_20 : decode cX6_drifts 20 = .ok (.getfield 67, 3) := by decide +kernel
theorem dX6_drifts_23 : decode cX6_drifts 23 = .ok (.imul, 1) := by decide +kernel
theorem dX6_drifts_24 : decode cX6_drifts 24 = .ok (.iconst 4, 1) := by decide +kernel
theorem dX6_drifts_25 : decode cX6_drifts 25 = .ok (.imul, 1) := by decide +kernel
theorem dX6_drifts_26 : decode cX6_drifts 26 = .ok (.bipush 100, 2) := by decide +kernel
theorem dX6_drifts_28 : decode cX6_drifts 28 = .ok (.idiv, 1) := by decide +kernel
theorem dX6_drifts_29 : decode cX6_drifts 29 = .ok (.istore_n 3, 1) := by decide +kernel
theorem dX6_drifts_30 : decode cX6_drifts 30 = .ok (.iload_n 3, 1) := by decide +kernel
theorem dX6_drifts_31 : decode cX6_drifts 31 = .ok (.ifCond .ne 4, 3) := by decide +kernel
theorem dX6_drifts_34 : decode cX6_drifts 34 = .ok (.return_, 1) := by decide +kernel
theorem dX6_drifts_35 : decode cX6_drifts 35 = .ok (.aload_n 0, 1) := by decide +kernel
theorem dX6_drifts_36 : decode cX6_drifts 36 = .ok (.getfield 16, 3) := by decide +kernel
theorem dX6_drifts_39 : decode cX6_drifts 39 = .ok (.aload_n 0, 1) := by decide +kernel
theorem dX6_drifts_40 : decode cX6_drifts 40 = .ok (.iload_n 1, 1) := by decide +kernel
theorem dX6_drifts_41 : decode cX6_drifts 41 = .ok (.invokevirtual 70, 3) := by decide +kernel
theorem dX6_drifts_44 : decode cX6_drifts 44 = .ok (.dup2, 1) := by decide +kernel
theorem dX6_drifts_45 : decode cX6_drifts 45 = .ok (.iaload, 1) := by decide +kernel
theorem dX6_drifts_46 : decode cX6_drifts 46 = .ok (.iload_n 3, 1) := by decide +kernel
theorem dX6_drifts_47 : decode cX6_drifts 47 = .ok (.isub, 1) := by decide +kernel
theorem dX6_drifts_48 : decode cX6_drifts 48 = .ok (.iastore, 1) := by decide +kernel
theorem dX6_drifts_49 : decode cX6_drifts 49 = .ok (.aload_n 0, 1) := by decide +kernel
theorem dX6_drifts_50 : decode cX6_drifts 50 = .ok (.iload_n 2, 1) := by decide +kernel
theorem dX6_drifts_51 : decode cX6_drifts 51 = .ok (.invokevirtual 74, 3) := by decide +kernel
theorem dX6_drifts_54 : decode cX6_drifts 54 = .ok (.ifCond .eq 20, 3) := by decide +kernel
theorem dX6_drifts_57 : decode cX6_drifts 57 = .ok (.aload_n 0, 1) := by decide +kernel
theorem dX6_drifts_58 : decode cX6_drifts 58 = .ok (.getfield 16, 3) := by decide +kernel
theorem dX6_drifts_61 : decode cX6_drifts 61 = .ok (.aload_n 0, 1) := by decide +kernel
theorem dX6_drifts_62 : decode cX6_drifts 62 = .ok (.iload_n 2, 1) := by decide +kernel
theorem dX6_drifts_63 : decode cX6_drifts 63 = .ok (.invokevirtual 70, 3) := by decide +kernel
theorem dX6_drifts_66 : decode cX6_drifts 66 = .ok (.dup2, 1) := by decide +kernel
theorem dX6_drifts_67 : decode cX6_drifts 67 = .ok (.iaload, 1) := by decide +kernel
theorem dX6_drifts_68 : decode cX6_drifts 68 = .ok (.iload_n 3, 1) := by decide +kernel
theorem dX6_drifts_69 : decode cX6_drifts 69 = .ok (.iadd, 1) := by decide +kernel
theorem dX6_drifts_70 : decode cX6_drifts 70 = .ok (.iastore, 1) := by decide +kernel
theorem dX6_drifts_71 : decode cX6_drifts 71 = .ok (.goto 9, 3) := by decide +kernel
theorem dX6_drifts_74 : decode cX6_drifts 74 = .ok (.aload_n 0, 1) := by decide +kernel
theorem dX6_drifts_75 : decode cX6_drifts 75 = .ok (.iload_n 2, 1) := by decide +kernel
theorem dX6_drifts_76 : decode cX6_drifts 76 = .ok (.iload_n 3, 1) := by decide +kernel
theorem dX6_drifts_77 : decode cX6_drifts 77 = .ok (.invokevirtual 78, 3) := by decide +kernel
theorem dX6_drifts_80 : decode cX6_drifts 80 = .ok (.return_, 1) := by decide +kernel
theorem dX6_ages_0 : decode cX6_ages 0 = .ok (.bipush 10, 2) := by decide +kernel
theorem dX6_ages_2 : decode cX6_ages 2 = .ok (.iload_n 1, 1) := by decide +kernel
theorem dX6_ages_3 : decode cX6_ages 3 = .ok (.imul, 1) := by decide +kernel
theorem dX6_ages_4 : decode cX6_ages 4 = .ok (.istore_n 2, 1) := by decide +kernel
theorem dX6_ages_5 : decode cX6_ages 5 = .ok (.iload_n 2, 1) := by decide +kernel
theorem dX6_ages_6 : decode cX6_ages 6 = .ok (.bipush 10, 2) := by decide +kernel
theorem dX6_ages_8 : decode cX6_ages 8 = .ok (.iload_n 1, 1) := by decide +kernel
theorem dX6_ages_9 : decode cX6_ages 9 = .ok (.imul, 1) := by decide +kernel
theorem dX6_ages_10 : decode cX6_ages 10 = .ok (.aload_n 0, 1) := by decide +kernel
theorem dX6_ages_11 : decode cX6_ages 11 = .ok (.getfield 9, 3) := by decide +kernel
theorem dX6_ages_14 : decode cX6_ages 14 = .ok (.iload_n 1, 1) := by decide +kernel
theorem dX6_ages_15 : decode cX6_ages 15 = .ok (.iaload, 1) := by decide +kernel
theorem dX6_ages_16 : decode cX6_ages 16 = .ok (.iadd, 1) := by decide +kernel
theorem dX6_ages_17 : decode cX6_ages 17 = .ok (.if_icmp .ge 92, 3) := by decide +kernel
theorem dX6_ages_20 : decode cX6_ages 20 = .ok (.aload_n 0, 1) := by decide +kernel
theorem dX6_ages_21 : decode cX6_ages 21 = .ok (.getfield 13, 3) := by decide +kernel
theorem dX6_ages_24 : decode cX6_ages 24 = .ok (.iload_n 2, 1) := by decide +kernel
theorem dX6_ages_25 : decode cX6_ages 25 = .ok (.iaload, 1) := by decide +kernel
theorem dX6_ages_26 : decode cX6_ages 26 = .ok (.ifCond .ne 49, 3) := by decide +kernel
theorem dX6_ages_29 : decode cX6_ages 29 = .ok (.aload_n 0, 1) := by decide +kernel
theorem dX6_ages_30 : decode cX6_ages 30 = .ok (.getfield 19, 3) := by decide +kernel
theorem dX6_ages_33 : decode cX6_ages 33 = .ok (.iload_n 2, 1) := by decide +kernel
theorem dX6_ages_34 : decode cX6_ages 34 = .ok (.iaload, 1) := by decide +kernel
theorem dX6_ages_35 : decode cX6_ages 35 = .ok (.iconst 3, 1) := by decide +kernel
theorem dX6_ages_36 : decode cX6_ages 36 = .ok (.if_icmp .lt 39, 3) := by decide +kernel
theorem dX6_ages_39 : decode cX6_ages 39 = .ok (.aload_n 0, 1) := by decide +kernel
theorem dX6_ages_40 : decode cX6_ages 40 = .ok (.getfield 13, 3) := by decide +kernel
theorem dX6_ages_43 : decode cX6_ages 43 = .ok (.iload_n 2, 1) := by decide +kernel
theorem dX6_ages_44 : decode cX6_ages 44 = .ok (.aload_n 0, 1) := by decide +kernel
theorem dX6_ages_45 : decode cX6_ages 45 = .ok (.getfield 28, 3) := by decide +kernel
theorem dX6_ages_48 : decode cX6_ages 48 = .ok (.iload_n 1, 1) := by decide +kernel
theorem dX6_ages_49 : decode cX6_ages 49 = .ok (.iconst 4, 1) := by decide +kernel
theorem dX6_ages_50 : decode cX6_ages 50 = .ok (.idiv, 1) := by decide +kernel
theorem dX6_ages_51 : decode cX6_ages 51 = .ok (.iaload, 1) := by decide +kernel
theorem dX6_ages_52 : decode cX6_ages 52 = .ok (.bipush (-8), 2) := by decide +kernel
theorem dX6_ages_54 : decode cX6_ages 54 = .ok (.if_icmp .gt 15, 3) := by decide +kernel
theorem dX6_ages_57 : decode cX6_ages 57 = .ok (.aload_n 0, 1) := by decide +kernel
theorem dX6_ages_58 : decode cX6_ages 58 = .ok (.getfield 16, 3) := by decide +kernel
theorem dX6_ages_61 : decode cX6_ages 61 = .ok (.iload_n 2, 1) := by decide +kernel
theorem dX6_ages_62 : decode cX6_ages 62 = .ok (.iaload, 1) := by decide +kernel
theorem dX6_ages_63 : decode cX6_ages 63 = .ok (.sipush 300, 3) := by decide +kernel
theorem dX6_ages_66 : decode cX6_ages 66 = .ok (.if_icmp .lt 7, 3) := by decide +kernel
theorem dX6_ages_69 : decode cX6_ages 69 = .ok (.iconst 1, 1) := by decide +kernel
theorem dX6_ages_70 : decode cX6_ages 70 = .ok (.goto 4, 3) := by decide +kernel
theorem dX6_ages_73 : decode cX6_ages 73 = .ok (.iconst 2, 1) := by decide +kernel
theorem dX6_ages_74 : decode cX6_ages 74 = .ok (.iastore, 1) := by decide +kernel
theorem dX6_ages_75 : decode cX6_ages 75 = .ok (.aload_n 0, 1) := by decide +kernel
theorem dX6_ages_76 : decode cX6_ages 76 = .ok (.getfield 13, 3) := by decide +kernel
theorem dX6_ages_79 : decode cX6_ages 79 = .ok (.iload_n 2, 1) := by decide +kernel
theorem dX6_ages_80 : decode cX6_ages 80 = .ok (.iaload, 1) := by decide +kernel
theorem dX6_ages_81 : decode cX6_ages 81 = .ok (.iconst 2, 1) := by decide +kernel
theorem dX6_ages_82 : decode cX6_ages 82 = .ok (.if_icmp .ne 21, 3) := by decide +kernel
theorem dX6_ages_85 : decode cX6_ages 85 = .ok (.aload_n 0, 1) := by decide +kernel
theorem dX6_ages_86 : decode cX6_ages 86 = .ok (.getfield 19, 3) := by decide +kernel
theorem dX6_ages_89 : decode cX6_ages 89 = .ok (.iload_n 2, 1) := by decide +kernel
theorem dX6_ages_90 : decode cX6_ages 90 = .ok (.iaload, 1) := by decide +kernel
theorem dX6_ages_91 : decode cX6_ages 91 = .ok (.bipush 20, 2) := by decide +kernel
theorem dX6_ages_93 : decode cX6_ages 93 = .ok (.if_icmp .lt 10, 3) := by decide +kernel
theorem dX6_ages_96 : decode cX6_ages 96 = .ok (.aload_n 0, 1) := by decide +kernel
theorem dX6_ages_97 : decode cX6_ages 97 = .ok (.getfield 13, 3) := by decide +kernel
theorem dX6_ages_100 : decode cX6_ages 100 = .ok (.iload_n 2, 1) := by decide +kernel
theorem dX6_ages_101 : decode cX6_ages 101 = .ok (.iconst 1, 1) := by decide +kernel
theorem dX6_ages_102 : decode cX6_ages 102 = .ok (.iastore, 1) := by decide +kernel
theorem dX6_ages_103 : decode cX6_ages 103 = .ok (.iinc 2 1, 3) := by decide +kernel
theorem dX6_ages_106 : decode cX6_ages 106 = .ok (.goto (-101), 3) := by decide +kernel
theorem dX6_ages_109 : decode cX6_ages 109 = .ok (.return_, 1) := by decide +kernel
theorem dX6_melts_0 : decode cX6_melts 0 = .ok (.bipush 6, 2) := by decide +kernel
theorem dX6_melts_2 : decode cX6_melts 2 = .ok (.aload_n 0, 1) := by decide +kernel
theorem dX6_melts_3 : decode cX6_melts 3 = .ok (.getfield 28, 3) := by decide +kernel
theorem dX6_melts_6 : decode cX6_melts 6 = .ok (.iload_n 1, 1) := by decide +kernel
theorem dX6_melts_7 : decode cX6_melts 7 = .ok (.iconst 4, 1) := by decide +kernel
theorem dX6_melts_8 : decode cX6_melts 8 = .ok (.idiv, 1) := by decide +kernel
theorem dX6_melts_9 : decode cX6_melts 9 = .ok (.iaload, 1) := by decide +kernel
theorem dX6_melts_10 : decode cX6_melts 10 = .ok (.imul, 1) := by decide +kernel
theorem dX6_melts_11 : decode cX6_melts 11 = .ok (.istore_n 2, 1) := by decide +kernel
theorem dX6_melts_12 : decode cX6_melts 12 = .ok (.iload_n 2, 1) := by decide +kernel
theorem dX6_melts_13 : decode cX6_melts 13 = .ok (.ifCond .gt 4, 3) := by decide +kernel
theorem dX6_melts_16 : decode cX6_melts 16 = .ok (.return_, 1) := by decide +kernel
theorem dX6_melts_17 : decode cX6_melts 17 = .ok (.iload_n 2, 1) := by decide +kernel
theorem dX6_melts_18 : decode cX6_melts 18 = .ok (.ifCond .le 95, 3) := by decide +kernel
theorem dX6_melts_21 : decode cX6_melts 21 = .ok (.aload_n 0, 1) := by decide +kernel
theorem dX6_melts_22 : decode cX6_melts 22 = .ok (.getfield 9, 3) := by decide +kernel
theorem dX6_melts_25 : decode cX6_melts 25 = .ok (.iload_n 1, 1) := by decide +kernel
theorem dX6_melts_26 : decode cX6_melts 26 = .ok (.iaload, 1) := by decide +kernel
theorem dX6_melts_27 : decode cX6_melts 27 = .ok (.ifCond .le 86, 3) := by decide +kernel
theorem dX6_melts_30 : decode cX6_melts 30 = .ok (.aload_n 0, 1) := by decide +kernel
theorem dX6_melts_31 : decode cX6_melts 31 = .ok (.getfield 16, 3) := by decide +kernel
theorem dX6_melts_34 : decode cX6_melts 34 = .ok (.aload_n 0, 1) := by decide +kernel
theorem dX6_melts_35 : decode cX6_melts 35 = .ok (.iload_n 1, 1) := by decide +kernel
theorem dX6_melts_36 : decode cX6_melts 36 = .ok (.invokevirtual 70, 3) := by decide +kernel
theorem dX6_melts_39 : decode cX6_melts 39 = .ok (.iaload, 1) := by decide +kernel
theorem dX6_melts_40 : decode cX6_melts 40 = .ok (.iload_n 2, 1) := by decide +kernel
theorem dX6_melts_41 : decode cX6_melts 41 = .ok (.if_icmp .ge 16, 3) := by decide +kernel
theorem dX6_melts_44 : decode cX6_melts 44 = .ok (.aload_n 0, 1) := by decide +kernel
theorem dX6_melts_45 : decode cX6_melts 45 = .ok (.getfield 16, 3) := by decide +kernel
theorem dX6_melts_48 : decode cX6_melts 48 = .ok (.aload_n 0, 1) := by decide +kernel
theorem dX6_melts_49 : decode cX6_melts 49 = .ok (.iload_n 1, 1) := by decide +kernel
theorem dX6_melts_50 : decode cX6_melts 50 = .ok (.invokevirtual 70, 3) := by decide +kernel
theorem dX6_melts_53 : decode cX6_melts 53 = .ok (.iaload, 1) := by decide +kernel
theorem dX6_melts_54 : decode cX6_melts 54 = .ok (.goto 4, 3) := by decide +kernel
theorem dX6_melts_57 : decode cX6_melts 57 = .ok (.iload_n 2, 1) := by decide +kernel
theorem dX6_melts_58 : decode cX6_melts 58 = .ok (.istore_n 3, 1) := by decide +kernel
theorem dX6_melts_59 : decode cX6_melts 59 = .ok (.aload_n 0, 1) := by decide +kernel
theorem dX6_melts_60 : decode cX6_melts 60 = .ok (.getfield 16, 3) := by decide +kernel
theorem dX6_melts_63 : decode cX6_melts 63 = .ok (.aload_n 0, 1) := by decide +kernel
theorem dX6_melts_64 : decode cX6_melts 64 = .ok (.iload_n 1, 1) := by decide +kernel
theorem dX6_melts_65 : decode cX6_melts 65 = .ok (.invokevirtual 70, 3) := by decide +kernel
theorem dX6_melts_68 : decode cX6_melts 68 = .ok (.dup2, 1) := by decide +kernel
theorem dX6_melts_69 : decode cX6_melts 69 = .ok (.iaload, 1) := by decide +kernel
theorem dX6_melts_70 : decode cX6_melts 70 = .ok (.iload_n 3, 1) := by decide +kernel
theorem dX6_melts_71 : decode cX6_melts 71 = .ok (.isub, 1) := by decide +kernel
theorem dX6_melts_72 : decode cX6_melts 72 = .ok (.iastore, 1) := by decide +kernel
theorem dX6_melts_73 : decode cX6_melts 73 = .ok (.aload_n 0, 1) := by decide +kernel
theorem dX6_melts_74 : decode cX6_melts 74 = .ok (.dup, 1) := by decide +kernel
theorem dX6_melts_75 : decode cX6_melts 75 = .ok (.getfield 82, 3) := by decide +kernel
theorem dX6_melts_78 : decode cX6_melts 78 = .ok (.iload_n 3, 1) := by decide +kernel
theorem dX6_melts_79 : decode cX6_melts 79 = .ok (.iadd, 1) := by decide +kernel
theorem dX6_melts_80 : decode cX6_melts 80 = .ok (.putfield 82, 3) := by decide +kernel
theorem dX6_melts_83 : decode cX6_melts 83 = .ok (.iload_n 2, 1) := by decide +kernel
theorem dX6_melts_84 : decode cX6_melts 84 = .ok (.iload_n 3, 1) := by decide +kernel
theorem dX6_melts_85 : decode cX6_melts 85 = .ok (.isub, 1) := by decide +kernel
theorem dX6_melts_86 : decode cX6_melts 86 = .ok (.istore_n 2, 1) := by decide +kernel
theorem dX6_melts_87 : decode cX6_melts 87 = .ok (.aload_n 0, 1) := by decide +kernel
theorem dX6_melts_88 : decode cX6_melts 88 = .ok (.getfield 16, 3) := by decide +kernel
theorem dX6_melts_91 : decode cX6_melts 91 = .ok (.aload_n 0, 1) := by decide +kernel
theorem dX6_melts_92 : decode cX6_melts 92 = .ok (.iload_n 1, 1) := by decide +kernel
theorem dX6_melts_93 : decode cX6_melts 93 = .ok (.invokevirtual 70, 3) := by decide +kernel
theorem dX6_melts_96 : decode cX6_melts 96 = .ok (.iaload, 1) := by decide +kernel
theorem dX6_melts_97 : decode cX6_melts 97 = .ok (.ifCond .ne 13, 3) := by decide +kernel
theorem dX6_melts_100 : decode cX6_melts 100 = .ok (.aload_n 0, 1) := by decide +kernel
theorem dX6_melts_101 : decode cX6_melts 101 = .ok (.getfield 9, 3) := by decide +kernel
theorem dX6_melts_104 : decode cX6_melts 104 = .ok (.iload_n 1, 1) := by decide +kernel
theorem dX6_melts_105 : decode cX6_melts 105 = .ok (.dup2, 1) := by decide +kernel
theorem dX6_melts_106 : decode cX6_melts 106 = .ok (.iaload, 1) := by decide +kernel
theorem dX6_melts_107 : decode cX6_melts 107 = .ok (.iconst 1, 1) := by decide +kernel
theorem dX6_melts_108 : decode cX6_melts 108 = .ok (.isub, 1) := by decide +kernel
theorem dX6_melts_109 : decode cX6_melts 109 = .ok (.iastore, 1) := by decide +kernel
theorem dX6_melts_110 : decode cX6_melts 110 = .ok (.goto (-93), 3) := by decide +kernel
theorem dX6_melts_113 : decode cX6_melts 113 = .ok (.aload_n 0, 1) := by decide +kernel
theorem dX6_melts_114 : decode cX6_melts 114 = .ok (.getfield 9, 3) := by decide +kernel
theorem dX6_melts_117 : decode cX6_melts 117 = .ok (.iload_n 1, 1) := by decide +kernel
theorem dX6_melts_118 : decode cX6_melts 118 = .ok (.iaload, 1) := by decide +kernel
theorem dX6_melts_119 : decode cX6_melts 119 = .ok (.ifCond .le 14, 3) := by decide +kernel
theorem dX6_melts_122 : decode cX6_melts 122 = .ok (.aload_n 0, 1) := by decide +kernel
theorem dX6_melts_123 : decode cX6_melts 123 = .ok (.getfield 13, 3) := by decide +kernel
theorem dX6_melts_126 : decode cX6_melts 126 = .ok (.aload_n 0, 1) := by decide +kernel
theorem dX6_melts_127 : decode cX6_melts 127 = .ok (.iload_n 1, 1) := by decide +kernel
theorem dX6_melts_128 : decode cX6_melts 128 = .ok (.invokevirtual 70, 3) := by decide +kernel
theorem dX6_melts_131 : decode cX6_melts 131 = .ok (.iconst 3, 1) := by decide +kernel
theorem dX6_melts_132 : decode cX6_melts 132 = .ok (.iastore, 1) := by decide +kernel
theorem dX6_melts_133 : decode cX6_melts 133 = .ok (.return_, 1) := by decide +kernel
theorem dX6_judges_0 : decode cX6_judges 0 = .ok (.iconst 0, 1) := by decide +kernel
theorem dX6_judges_1 : decode cX6_judges 1 = .ok (.istore_n 1, 1) := by decide +kernel
theorem dX6_judges_2 : decode cX6_judges 2 = .ok (.iload_n 1, 1) := by decide +kernel
theorem dX6_judges_3 : decode cX6_judges 3 = .ok (.bipush 12, 2) := by decide +kernel
theorem dX6_judges_5 : decode cX6_judges 5 = .ok (.if_icmp .ge 71, 3) := by decide +kernel
theorem dX6_judges_8 : decode cX6_judges 8 = .ok (.aload_n 0, 1) := by decide +kernel
theorem dX6_judges_9 : decode cX6_judges 9 = .ok (.getfield 35, 3) := by decide +kernel
theorem dX6_judges_12 : decode cX6_judges 12 = .ok (.iload_n 1, 1) := by decide +kernel
theorem dX6_judges_13 : decode cX6_judges 13 = .ok (.iaload, 1) := by decide +kernel
theorem dX6_judges_14 : decode cX6_judges 14 = .ok (.ifCond .le 42, 3) := by decide +kernel
theorem dX6_judges_17 : decode cX6_judges 17 = .ok (.aload_n 0, 1) := by decide +kernel
theorem dX6_judges_18 : decode cX6_judges 18 = .ok (.getfield 38, 3) := by decide +kernel
theorem dX6_judges_21 : decode cX6_judges 21 = .ok (.aload_n 0, 1) := by decide +kernel
theorem dX6_judges_22 : decode cX6_judges 22 = .ok (.getfield 35, 3) := by decide +kernel
theorem dX6_judges_25 : decode cX6_judges 25 = .ok (.iload_n 1, 1) := by decide +kernel
theorem dX6_judges_26 : decode cX6_judges 26 = .ok (.iaload, 1) := by decide +kernel
theorem dX6_judges_27 : decode cX6_judges 27 = .ok (.iconst 3, 1) := by decide +kernel
theorem dX6_judges_28 : decode cX6_judges 28 = .ok (.if_icmp .lt 7, 3) := by decide +kernel
theorem dX6_judges_31 : decode cX6_judges 31 = .ok (.iconst 0, 1) := by decide +kernel
theorem dX6_judges_32 : decode cX6_judges 32 = .ok (.goto 4, 3) := by decide +kernel
theorem dX6_judges_35 : decode cX6_judges 35 = .ok (.iconst 2, 1) := by decide +kernel
theorem dX6_judges_36 : decode cX6_judges 36 = .ok (.aload_n 0, 1) := by decide +kernel
theorem dX6_judges_37 : decode cX6_judges 37 = .ok (.getfield 31, 3) := by decide +kernel
theorem dX6_judges_40 : decode cX6_judges 40 = .ok (.iload_n 1, 1) := by decide +kernel
theorem dX6_judges_41 : decode cX6_judges 41 = .ok (.baload, 1) := by decide +kernel
theorem dX6_judges_42 : decode cX6_judges 42 = .ok (.ifCond .eq 7, 3) := by decide +kernel
theorem dX6_judges_45 : decode cX6_judges 45 = .ok (.iconst 0, 1) := by decide +kernel
theorem dX6_judges_46 : decode cX6_judges 46 = .ok (.goto 4, 3) := by decide +kernel
theorem dX6_judges_49 : decode cX6_judges 49 = .ok (.iconst 1, 1) := by decide +kernel
theorem dX6_judges_50 : decode cX6_judges 50 = .ok (.iadd, 1) := by decide +kernel
theorem dX6_judges_51 : decode cX6_judges 51 = .ok (.dup2, 1) := by decide +kernel
theorem dX6_judges_52 : decode cX6_judges 52 = .ok (.iaload, 1) := by decide +kernel
theorem dX6_judges_53 : decode cX6_judges 53 = .ok (.iconst 1, 1) := by decide +kernel
theorem dX6_judges_54 : decode cX6_judges 54 = .ok (.iadd, 1) := by decide +kernel
theorem dX6_judges_55 : decode cX6_judges 55 = .ok (.iastore, 1) := by decide +kernel
theorem dX6_judges_56 : decode cX6_judges 56 = .ok (.aload_n 0, 1) := by decide +kernel
theorem dX6_judges_57 : decode cX6_judges 57 = .ok (.getfield 35, 3) := by decide +kernel
theorem dX6_judges_60 : decode cX6_judges 60 = .ok (.iload_n 1, 1) := by decide +kernel
theorem dX6_judges_61 : decode cX6_judges 61 = .ok (.iconst 0, 1) := by decide +kernel
theorem dX6_judges_62 : decode cX6_judges 62 = .ok (.iastore, 1) := by decide +kernel
theorem dX6_judges_63 : decode cX6_judges 63 = .ok (.aload_n 0, 1) := by decide +kernel
theorem dX6_judges_64 : decode cX6_judges 64 = .ok (.getfield 31, 3) := by decide +kernel
theorem dX6_judges_67 : decode cX6_judges 67 = .ok (.iload_n 1, 1) := by decide +kernel
theorem dX6_judges_68 : decode cX6_judges 68 = .ok (.iconst 0, 1) := by decide +kernel
theorem dX6_judges_69 : decode cX6_judges 69 = .ok (.bastore, 1) := by decide +kernel
theorem dX6_judges_70 : decode cX6_judges 70 = .ok (.iinc 1 1, 3) := by decide +kernel
theorem dX6_judges_73 : decode cX6_judges 73 = .ok (.goto (-71), 3) := by decide +kernel
theorem dX6_judges_76 : decode cX6_judges 76 = .ok (.return_, 1) := by decide +kernel
theorem dX6_day_0 : decode cX6_day 0 = .ok (.aload_n 0, 1) := by decide +kernel
theorem dX6_day_1 : decode cX6_day 1 = .ok (.invokevirtual 85, 3) := by decide +kernel
theorem dX6_day_4 : decode cX6_day 4 = .ok (.iconst 0, 1) := by decide +kernel
theorem dX6_day_5 : decode cX6_day 5 = .ok (.istore_n 1, 1) := by decide +kernel
theorem dX6_day_6 : decode cX6_day 6 = .ok (.iload_n 1, 1) := by decide +kernel
theorem dX6_day_7 : decode cX6_day 7 = .ok (.iconst 3, 1) := by decide +kernel
theorem dX6_day_8 : decode cX6_day 8 = .ok (.if_icmp .ge 32, 3) := by decide +kernel
theorem dX6_day_11 : decode cX6_day 11 = .ok (.aload_n 0, 1) := by decide +kernel
theorem dX6_day_12 : decode cX6_day 12 = .ok (.getfield 25, 3) := by decide +kernel
theorem dX6_day_15 : decode cX6_day 15 = .ok (.iload_n 1, 1) := by decide +kernel
theorem dX6_day_16 : decode cX6_day 16 = .ok (.iaload, 1) := by decide +kernel
theorem dX6_day_17 : decode cX6_day 17 = .ok (.bipush (-100), 2) := by decide +kernel
theorem dX6_day_19 : decode cX6_day 19 = .ok (.if_icmp .eq 15, 3) := by decide +kernel
theorem dX6_day_22 : decode cX6_day 22 = .ok (.aload_n 0, 1) := by decide +kernel
theorem dX6_day_23 : decode cX6_day 23 = .ok (.getfield 28, 3) := by decide +kernel
theorem dX6_day_26 : decode cX6_day 26 = .ok (.iload_n 1, 1) := by decide +kernel
theorem dX6_day_27 : decode cX6_day 27 = .ok (.aload_n 0, 1) := by decide +kernel
theorem dX6_day_28 : decode cX6_day 28 = .ok (.getfield 25, 3) := by decide +kernel
theorem dX6_day_31 : decode cX6_day 31 = .ok (.iload_n 1, 1) := by decide +kernel
theorem dX6_day_32 : decode cX6_day 32 = .ok (.iaload, 1) := by decide +kernel
theorem dX6_day_33 : decode cX6_day 33 = .ok (.iastore, 1) := by decide +kernel
theorem dX6_day_34 : decode cX6_day 34 = .ok (.iinc 1 1, 3) := by decide +kernel
theorem dX6_day_37 : decode cX6_day 37 = .ok (.goto (-31), 3) := by decide +kernel
theorem dX6_day_40 : decode cX6_day 40 = .ok (.iconst 0, 1) := by decide +kernel
theorem dX6_day_41 : decode cX6_day 41 = .ok (.istore_n 1, 1) := by decide +kernel
theorem dX6_day_42 : decode cX6_day 42 = .ok (.iload_n 1, 1) := by decide +kernel
theorem dX6_day_43 : decode cX6_day 43 = .ok (.bipush 12, 2) := by decide +kernel
theorem dX6_day_45 : decode cX6_day 45 = .ok (.if_icmp .ge 79, 3) := by decide +kernel
theorem dX6_day_48 : decode cX6_day 48 = .ok (.bipush 10, 2) := by decide +kernel
theorem dX6_day_50 : decode cX6_day 50 = .ok (.iload_n 1, 1) := by decide +kernel
theorem dX6_day_51 : decode cX6_day 51 = .ok (.imul, 1) := by decide +kernel
theorem dX6_day_52 : decode cX6_day 52 = .ok (.istore_n 2, 1) := by decide +kernel
theorem dX6_day_53 : decode cX6_day 53 = .ok (.iload_n 2, 1) := by decide +kernel
theorem dX6_day_54 : decode cX6_day 54 = .ok (.bipush 10, 2) := by decide +kernel
theorem dX6_day_56 : decode cX6_day 56 = .ok (.iload_n 1, 1) := by decide +kernel
theorem dX6_day_57 : decode cX6_day 57 = .ok (.imul, 1) := by decide +kernel
theorem dX6_day_58 : decode cX6_day 58 = .ok (.aload_n 0, 1) := by decide +kernel
theorem dX6_day_59 : decode cX6_day 59 = .ok (.getfield 9, 3) := by decide +kernel
theorem dX6_day_62 : decode cX6_day 62 = .ok (.iload_n 1, 1) := by decide +kernel
theorem dX6_day_63 : decode cX6_day 63 = .ok (.iaload, 1) := by decide +kernel
theorem dX6_day_64 : decode cX6_day 64 = .ok (.iadd, 1) := by decide +kernel
theorem dX6_day_65 : decode cX6_day 65 = .ok (.if_icmp .ge 19, 3) := by decide +kernel
theorem dX6_day_68 : decode cX6_day 68 = .ok (.aload_n 0, 1) := by decide +kernel
theorem dX6_day_69 : decode cX6_day 69 = .ok (.getfield 19, 3) := by decide +kernel
theorem dX6_day_72 : decode cX6_day 72 = .ok (.iload_n 2, 1) := by decide +kernel
theorem dX6_day_73 : decode cX6_day 73 = .ok (.dup2, 1) := by decide +kernel
theorem dX6_day_74 : decode cX6_day 74 = .ok (.iaload, 1) := by decide +kernel
theorem dX6_day_75 : decode cX6_day 75 = .ok (.iconst 1, 1) := by decide +kernel
theorem dX6_day_76 : decode cX6_day 76 = .ok (.iadd, 1) := by decide +kernel
theorem dX6_day_77 : decode cX6_day 77 = .ok (.iastore, 1) := by decide +kernel
theorem dX6_day_78 : decode cX6_day 78 = .ok (.iinc 2 1, 3) := by decide +kernel
theorem dX6_day_81 : decode cX6_day 81 = .ok (.goto (-28), 3) := by decide +kernel
theorem dX6_day_84 : decode cX6_day 84 = .ok (.bipush 10, 2) := by decide +kernel
theorem dX6_day_86 : decode cX6_day 86 = .ok (.aload_n 0, 1) := by decide +kernel
theorem dX6_day_87 : decode cX6_day 87 = .ok (.iload_n 1, 1) := by decide +kernel
theorem dX6_day_88 : decode cX6_day 88 = .ok (.iconst 4, 1) := by decide +kernel
theorem dX6_day_89 : decode cX6_day 89 = .ok (.idiv, 1) := by decide +kernel
theorem dX6_day_90 : decode cX6_day 90 = .ok (.invokevirtual 88, 3) := by decide +kernel
theorem dX6_day_93 : decode cX6_day 93 = .ok (.imul, 1) := by decide +kernel
theorem dX6_day_94 : decode cX6_day 94 = .ok (.istore_n 2, 1) := by decide +kernel
theorem dX6_day_95 : decode cX6_day 95 = .ok (.iload_n 2, 1) := by decide +kernel
theorem dX6_day_96 : decode cX6_day 96 = .ok (.ifCond .ne 6, 3) := by decide +kernel
theorem dX6_day_99 : decode cX6_day 99 = .ok (.goto 19, 3) := by decide +kernel
theorem dX6_day_102 : decode cX6_day 102 = .ok (.aload_n 0, 1) := by decide +kernel
theorem dX6_day_103 : decode cX6_day 103 = .ok (.iload_n 1, 1) := by decide +kernel
theorem dX6_day_104 : decode cX6_day 104 = .ok (.iload_n 2, 1) := by decide +kernel
theorem dX6_day_105 : decode cX6_day 105 = .ok (.invokevirtual 78, 3) := by decide +kernel
theorem dX6_day_108 : decode cX6_day 108 = .ok (.aload_n 0, 1) := by decide +kernel
theorem dX6_day_109 : decode cX6_day 109 = .ok (.dup, 1) := by decide +kernel
theorem dX6_day_110 : decode cX6_day 110 = .ok (.getfield 91, 3) := by decide +kernel
theorem dX6_day_113 : decode cX6_day 113 = .ok (.iload_n 2, 1) := by decide +kernel
theorem dX6_day_114 : decode cX6_day 114 = .ok (.iadd, 1) := by decide +kernel
theorem dX6_day_115 : decode cX6_day 115 = .ok (.putfield 91, 3) := by decide +kernel
theorem dX6_day_118 : decode cX6_day 118 = .ok (.iinc 1 1, 3) := by decide +kernel
theorem dX6_day_121 : decode cX6_day 121 = .ok (.goto (-79), 3) := by decide +kernel
theorem dX6_day_124 : decode cX6_day 124 = .ok (.iconst 0, 1) := by decide +kernel
theorem dX6_day_125 : decode cX6_day 125 = .ok (.istore_n 1, 1) := by decide +kernel
theorem dX6_day_126 : decode cX6_day 126 = .ok (.iload_n 1, 1) := by decide +kernel
theorem dX6_day_127 : decode cX6_day 127 = .ok (.iconst 3, 1) := by decide +kernel
theorem dX6_day_128 : decode cX6_day 128 = .ok (.if_icmp .ge 41, 3) := by decide +kernel
theorem dX6_day_131 : decode cX6_day 131 = .ok (.aload_n 0, 1) := by decide +kernel
theorem dX6_day_132 : decode cX6_day 132 = .ok (.getfield 67, 3) := by decide +kernel
theorem dX6_day_135 : decode cX6_day 135 = .ok (.iconst 3, 1) := by decide +kernel
theorem dX6_day_136 : decode cX6_day 136 = .ok (.if_icmp .le 33, 3) := by decide +kernel
theorem dX6_day_139 : decode cX6_day 139 = .ok (.aload_n 0, 1) := by decide +kernel
theorem dX6_day_140 : decode cX6_day 140 = .ok (.iconst 4, 1) := by decide +kernel
theorem dX6_day_141 : decode cX6_day 141 = .ok (.iload_n 1, 1) := by decide +kernel
theorem dX6_day_142 : decode cX6_day 142 = .ok (.imul, 1) := by decide +kernel
theorem dX6_day_143 : decode cX6_day 143 = .ok (.aload_n 0, 1) := by decide +kernel
theorem dX6_day_144 : decode cX6_day 144 = .ok (.getfield 64, 3) := by decide +kernel
theorem dX6_day_147 : decode cX6_day 147 = .ok (.iadd, 1) := by decide +kernel
theorem dX6_day_148 : decode cX6_day 148 = .ok (.iconst 4, 1) := by decide +kernel
theorem dX6_day_149 : decode cX6_day 149 = .ok (.iload_n 1, 1) := by decide +kernel
theorem dX6_day_150 : decode cX6_day 150 = .ok (.imul, 1) := by decide +kernel
theorem dX6_day_151 : decode cX6_day 151 = .ok (.aload_n 0, 1) := by decide +kernel
theorem dX6_day_152 : decode cX6_day 152 = .ok (.getfield 64, 3) := by decide +kernel
theorem dX6_day_155 : decode cX6_day 155 = .ok (.iconst 2, 1) := by decide +kernel
theorem dX6_day_156 : decode cX6_day 156 = .ok (.iadd, 1) := by decide +kernel
theorem dX6_day_157 : decode cX6_day 157 = .ok (.iconst 4, 1) := by decide +kernel
theorem dX6_day_158 : decode cX6_day 158 = .ok (.irem, 1) := by decide +kernel
theorem dX6_day_159 : decode cX6_day 159 = .ok (.iadd, 1) := by decide +kernel
theorem dX6_day_160 : decode cX6_day 160 = .ok (.invokevirtual 94, 3) := by decide +kernel
theorem dX6_day_163 : decode cX6_day 163 = .ok (.iinc 1 1, 3) := by decide +kernel
theorem dX6_day_166 : decode cX6_day 166 = .ok (.goto (-40), 3) := by decide +kernel
theorem dX6_day_169 : decode cX6_day 169 = .ok (.iconst 0, 1) := by decide +kernel
theorem dX6_day_170 : decode cX6_day 170 = .ok (.istore_n 1, 1) := by decide +kernel
theorem dX6_day_171 : decode cX6_day 171 = .ok (.iload_n 1, 1) := by decide +kernel
theorem dX6_day_172 : decode cX6_day 172 = .ok (.bipush 12, 2) := by decide +kernel
theorem dX6_day_174 : decode cX6_day 174 = .ok (.if_icmp .ge 19, 3) := by decide +kernel
theorem dX6_day_177 : decode cX6_day 177 = .ok (.aload_n 0, 1) := by decide +kernel
theorem dX6_day_178 : decode cX6_day 178 = .ok (.iload_n 1, 1) := by decide +kernel
theorem dX6_day_179 : decode cX6_day 179 = .ok (.invokevirtual 97, 3) := by decide +kernel
theorem dX6_day_182 : decode cX6_day 182 = .ok (.aload_n 0, 1) := by decide +kernel
theorem dX6_day_183 : decode cX6_day 183 = .ok (.iload_n 1, 1) := by decide +kernel
theorem dX6_day_184 : decode cX6_day 184 = .ok (.invokevirtual 101, 3) := by decide +kernel
theorem dX6_day_187 : decode cX6_day 187 = .ok (.iinc 1 1, 3) := by decide +kernel
theorem dX6_day_190 : decode cX6_day 190 = .ok (.goto (-19), 3) := by decide +kernel
theorem dX6_day_193 : decode cX6_day 193 = .ok (.aload_n 0, 1) := by decide +kernel
theorem dX6_day_194 : decode cX6_day 194 = .ok (.dup, 1) := by decide +kernel
theorem dX6_day_195 : decode cX6_day 195 = .ok (.getfield 60, 3) := by decide +kernel
theorem dX6_day_198 : decode cX6_day 198 = .ok (.iconst 1, 1) := by decide +kernel
theorem dX6_day_199 : decode cX6_day 199 = .ok (.iadd, 1) := by decide +kernel
theorem dX6_day_200 : decode cX6_day 200 = .ok (.putfield 60, 3) := by decide +kernel
theorem dX6_day_203 : decode cX6_day 203 = .ok (.iconst 0, 1) := by decide +kernel
theorem dX6_day_204 : decode cX6_day 204 = .ok (.istore_n 1, 1) := by decide +kernel
theorem dX6_day_205 : decode cX6_day 205 = .ok (.iload_n 1, 1) := by decide +kernel
theorem dX6_day_206 : decode cX6_day 206 = .ok (.iconst 3, 1) := by decide +kernel
theorem dX6_day_207 : decode cX6_day 207 = .ok (.if_icmp .ge 24, 3) := by decide +kernel
theorem dX6_day_210 : decode cX6_day 210 = .ok (.aload_n 0, 1) := by decide +kernel
theorem dX6_day_211 : decode cX6_day 211 = .ok (.getfield 22, 3) := by decide +kernel
theorem dX6_day_214 : decode cX6_day 214 = .ok (.iload_n 1, 1) := by decide +kernel
theorem dX6_day_215 : decode cX6_day 215 = .ok (.iconst (-1), 1) := by decide +kernel
theorem dX6_day_216 : decode cX6_day 216 = .ok (.iastore, 1) := by decide +kernel
theorem dX6_day_217 : decode cX6_day 217 = .ok (.aload_n 0, 1) := by decide +kernel
theorem dX6_day_218 : decode cX6_day 218 = .ok (.getfield 25, 3) := by decide +kernel
theorem dX6_day_221 : decode cX6_day 221 = .ok (.iload_n 1, 1) := by decide +kernel
theorem dX6_day_222 : decode cX6_day 222 = .ok (.bipush (-100), 2) := by decide +kernel
theorem dX6_day_224 : decode cX6_day 224 = .ok (.iastore, 1) := by decide +kernel
theorem dX6_day_225 : decode cX6_day 225 = .ok (.iinc 1 1, 3) := by decide +kernel
theorem dX6_day_228 : decode cX6_day 228 = .ok (.goto (-23), 3) := by decide +kernel
theorem dX6_day_231 : decode cX6_day 231 = .ok (.aload_n 0, 1) := by decide +kernel
theorem dX6_day_232 : decode cX6_day 232 = .ok (.iconst 0, 1) := by decide +kernel
theorem dX6_day_233 : decode cX6_day 233 = .ok (.putfield 67, 3) := by decide +kernel
theorem dX6_day_236 : decode cX6_day 236 = .ok (.return_, 1) := by decide +kernel
theorem dX6_go_0 : decode cX6_go 0 = .ok (.iload_n 1, 1) := by decide +kernel
theorem dX6_go_1 : decode cX6_go 1 = .ok (.iconst 0, 1) := by decide +kernel
theorem dX6_go_2 : decode cX6_go 2 = .ok (.bipush 30, 2) := by decide +kernel
theorem dX6_go_4 : decode cX6_go 4 = .ok (.invokestatic 56, 3) := by decide +kernel
theorem dX6_go_7 : decode cX6_go 7 = .ok (.ifCond .ne 5, 3) := by decide +kernel
theorem dX6_go_10 : decode cX6_go 10 = .ok (.iconst (-1), 1) := by decide +kernel
theorem dX6_go_11 : decode cX6_go 11 = .ok (.ireturn, 1) := by decide +kernel
theorem dX6_go_12 : decode cX6_go 12 = .ok (.iconst 0, 1) := by decide +kernel
theorem dX6_go_13 : decode cX6_go 13 = .ok (.istore_n 2, 1) := by decide +kernel
theorem dX6_go_14 : decode cX6_go 14 = .ok (.iload_n 2, 1) := by decide +kernel
theorem dX6_go_15 : decode cX6_go 15 = .ok (.iload_n 1, 1) := by decide +kernel
theorem dX6_go_16 : decode cX6_go 16 = .ok (.if_icmp .ge 23, 3) := by decide +kernel
theorem dX6_go_19 : decode cX6_go 19 = .ok (.aload_n 0, 1) := by decide +kernel
theorem dX6_go_20 : decode cX6_go 20 = .ok (.getfield 60, 3) := by decide +kernel
theorem dX6_go_23 : decode cX6_go 23 = .ok (.sipush 400, 3) := by decide +kernel
theorem dX6_go_26 : decode cX6_go 26 = .ok (.if_icmp .ge 13, 3) := by decide +kernel
theorem dX6_go_29 : decode cX6_go 29 = .ok (.aload_n 0, 1) := by decide +kernel
theorem dX6_go_30 : decode cX6_go 30 = .ok (.invokevirtual 104, 3) := by decide +kernel
theorem dX6_go_33 : decode cX6_go 33 = .ok (.iinc 2 1, 3) := by decide +kernel
theorem dX6_go_36 : decode cX6_go 36 = .ok (.goto (-22), 3) := by decide +kernel
theorem dX6_go_39 : decode cX6_go 39 = .ok (.aload_n 0, 1) := by decide +kernel
theorem dX6_go_40 : decode cX6_go 40 = .ok (.getfield 60, 3) := by decide +kernel
theorem dX6_go_43 : decode cX6_go 43 = .ok (.ireturn, 1) := by decide +kernel
theorem dX6_load_0 : decode cX6_load 0 = .ok (.iconst 0, 1) := by decide +kernel
theorem dX6_load_1 : decode cX6_load 1 = .ok (.istore_n 3, 1) := by decide +kernel
theorem dX6_load_2 : decode cX6_load 2 = .ok (.iload_n 2, 1) := by decide +kernel
theorem dX6_load_3 : decode cX6_load 3 = .ok (.iconst 1, 1) := by decide +kernel
theorem dX6_load_4 : decode cX6_load 4 = .ok (.iadd, 1) := by decide +kernel
theorem dX6_load_5 : decode cX6_load 5 = .ok (.istore 4, 2) := by decide +kernel
theorem dX6_load_7 : decode cX6_load 7 = .ok (.iload 4, 2) := by decide +kernel
theorem dX6_load_9 : decode cX6_load 9 = .ok (.aload_n 0, 1) := by decide +kernel
theorem dX6_load_10 : decode cX6_load 10 = .ok (.getfield 9, 3) := by decide +kernel
theorem dX6_load_13 : decode cX6_load 13 = .ok (.iload_n 1, 1) := by decide +kernel
theorem dX6_load_14 : decode cX6_load 14 = .ok (.iaload, 1) := by decide +kernel
theorem dX6_load_15 : decode cX6_load 15 = .ok (.if_icmp .ge 24, 3) := by decide +kernel
theorem dX6_load_18 : decode cX6_load 18 = .ok (.iload_n 3, 1) := by decide +kernel
theorem dX6_load_19 : decode cX6_load 19 = .ok (.aload_n 0, 1) := by decide +kernel
theorem dX6_load_20 : decode cX6_load 20 = .ok (.getfield 16, 3) := by decide +kernel
theorem dX6_load_23 : decode cX6_load 23 = .ok (.bipush 10, 2) := by decide +kernel
theorem dX6_load_25 : decode cX6_load 25 = .ok (.iload_n 1, 1) := by decide +kernel
theorem dX6_load_26 : decode cX6_load 26 = .ok (.imul, 1) := by decide +kernel
theorem dX6_load_27 : decode cX6_load 27 = .ok (.iload 4, 2) := by decide +kernel
theorem dX6_load_29 : decode cX6_load 29 = .ok (.iadd, 1) := by decide +kernel
theorem dX6_load_30 : decode cX6_load 30 = .ok (.iaload, 1) := by decide +kernel
theorem dX6_load_31 : decode cX6_load 31 = .ok (.iadd, 1) := by decide +kernel
theorem dX6_load_32 : decode cX6_load 32 = .ok (.istore_n 3, 1) := by decide +kernel
theorem dX6_load_33 : decode cX6_load 33 = .ok (.iinc 4 1, 3) := by decide +kernel
theorem dX6_load_36 : decode cX6_load 36 = .ok (.goto (-29), 3) := by decide +kernel
theorem dX6_load_39 : decode cX6_load 39 = .ok (.iload_n 3, 1) := by decide +kernel
theorem dX6_load_40 : decode cX6_load 40 = .ok (.ireturn, 1) := by decide +kernel
theorem dX6_index_0 : decode cX6_index 0 = .ok (.aload_n 0, 1) := by decide +kernel
theorem dX6_index_1 : decode cX6_index 1 = .ok (.iload_n 1, 1) := by decide +kernel
theorem dX6_index_2 : decode cX6_index 2 = .ok (.iload_n 2, 1) := by decide +kernel
theorem dX6_index_3 : decode cX6_index 3 = .ok (.invokevirtual 107, 3) := by decide +kernel
theorem dX6_index_6 : decode cX6_index 6 = .ok (.istore_n 3, 1) := by decide +kernel
theorem dX6_index_7 : decode cX6_index 7 = .ok (.iload_n 3, 1) := by decide +kernel
theorem dX6_index_8 : decode cX6_index 8 = .ok (.ifCond .ne 5, 3) := by decide +kernel
theorem dX6_index_11 : decode cX6_index 11 = .ok (.iconst (-1), 1) := by decide +kernel
theorem dX6_index_12 : decode cX6_index 12 = .ok (.ireturn, 1) := by decide +kernel
theorem dX6_index_13 : decode cX6_index 13 = .ok (.bipush 10, 2) := by decide +kernel
theorem dX6_index_15 : decode cX6_index 15 = .ok (.iload_n 1, 1) := by decide +kernel
theorem dX6_index_16 : decode cX6_index 16 = .ok (.imul, 1) := by decide +kernel
theorem dX6_index_17 : decode cX6_index 17 = .ok (.iload_n 2, 1) := by decide +kernel
theorem dX6_index_18 : decode cX6_index 18 = .ok (.iadd, 1) := by decide +kernel
theorem dX6_index_19 : decode cX6_index 19 = .ok (.istore 4, 2) := by decide +kernel
theorem dX6_index_21 : decode cX6_index 21 = .ok (.aload_n 0, 1) := by decide +kernel
theorem dX6_index_22 : decode cX6_index 22 = .ok (.getfield 13, 3) := by decide +kernel
theorem dX6_index_25 : decode cX6_index 25 = .ok (.iload 4, 2) := by decide +kernel
theorem dX6_index_27 : decode cX6_index 27 = .ok (.iaload, 1) := by decide +kernel
theorem dX6_index_28 : decode cX6_index 28 = .ok (.ifCond .ne 9, 3) := by decide +kernel
theorem dX6_index_31 : decode cX6_index 31 = .ok (.sipush 400, 3) := by decide +kernel
theorem dX6_index_34 : decode cX6_index 34 = .ok (.goto 51, 3) := by decide +kernel
theorem dX6_index_37 : decode cX6_index 37 = .ok (.aload_n 0, 1) := by decide +kernel
theorem dX6_index_38 : decode cX6_index 38 = .ok (.getfield 13, 3) := by decide +kernel
theorem dX6_index_41 : decode cX6_index 41 = .ok (.iload 4, 2) := by decide +kernel
theorem dX6_index_43 : decode cX6_index 43 = .ok (.iaload, 1) := by decide +kernel
theorem dX6_index_44 : decode cX6_index 44 = .ok (.iconst 1, 1) := by decide +kernel
theorem dX6_index_45 : decode cX6_index 45 = .ok (.if_icmp .ne 9, 3) := by decide +kernel
theorem dX6_index_48 : decode cX6_index 48 = .ok (.sipush 900, 3) := by decide +kernel
theorem dX6_index_51 : decode cX6_index 51 = .ok (.goto 34, 3) := by decide +kernel
theorem dX6_index_54 : decode cX6_index 54 = .ok (.aload_n 0, 1) := by decide +kernel
theorem dX6_index_55 : decode cX6_index 55 = .ok (.getfield 13, 3) := by decide +kernel
theorem dX6_index_58 : decode cX6_index 58 = .ok (.iload 4, 2) := by decide +kernel
theorem dX6_index_60 : decode cX6_index 60 = .ok (.iaload, 1) := by decide +kernel
theorem dX6_index_61 : decode cX6_index 61 = .ok (.iconst 2, 1) := by decide +kernel
theorem dX6_index_62 : decode cX6_index 62 = .ok (.if_icmp .ne 20, 3) := by decide +kernel
theorem dX6_index_65 : decode cX6_index 65 = .ok (.sipush 250, 3) := by decide +kernel
theorem dX6_index_68 : decode cX6_index 68 = .ok (.bipush 15, 2) := by decide +kernel
theorem dX6_index_70 : decode cX6_index 70 = .ok (.aload_n 0, 1) := by decide +kernel
theorem dX6_index_71 : decode cX6_index 71 = .ok (.getfield 19, 3) := by decide +kernel
theorem dX6_index_74 : decode cX6_index 74 = .ok (.iload 4, 2) := by decide +kernel
theorem dX6_index_76 : decode cX6_index 76 = .ok (.iaload, 1) := by decide +kernel
theorem dX6_index_77 : decode cX6_index 77 = .ok (.imul, 1) := by decide +kernel
theorem dX6_index_78 : decode cX6_index 78 = .ok (.iadd, 1) := by decide +kernel
theorem dX6_index_79 : decode cX6_index 79 = .ok (.goto 6, 3) := by decide +kernel
theorem dX6_index_82 : decode cX6_index 82 = .ok (.sipush 3000, 3) := by decide +kernel
theorem dX6_index_85 : decode cX6_index 85 = .ok (.istore 5, 2) := by decide +kernel
theorem dX6_index_87 : decode cX6_index 87 = .ok (.bipush 100, 2) := by decide +kernel
theorem dX6_index_89 : decode cX6_index 89 = .ok (.iload 5, 2) := by decide +kernel
theorem dX6_index_91 : decode cX6_index 91 = .ok (.imul, 1) := by decide +kernel
theorem dX6_index_92 : decode cX6_index 92 = .ok (.iload_n 3, 1) := by decide +kernel
theorem dX6_index_93 : decode cX6_index 93 = .ok (.idiv, 1) := by decide +kernel
theorem dX6_index_94 : decode cX6_index 94 = .ok (.istore 6, 2) := by decide +kernel
theorem dX6_index_96 : decode cX6_index 96 = .ok (.iload 6, 2) := by decide +kernel
theorem dX6_index_98 : decode cX6_index 98 = .ok (.sipush 999, 3) := by decide +kernel
theorem dX6_index_101 : decode cX6_index 101 = .ok (.if_icmp .le 9, 3) := by decide +kernel
theorem dX6_index_104 : decode cX6_index 104 = .ok (.sipush 999, 3) := by decide +kernel
theorem dX6_index_107 : decode cX6_index 107 = .ok (.goto 5, 3) := by decide +kernel
theorem dX6_index_110 : decode cX6_index 110 = .ok (.iload 6, 2) := by decide +kernel
theorem dX6_index_112 : decode cX6_index 112 = .ok (.ireturn, 1) := by decide +kernel
theorem dX6_layer_0 : decode cX6_layer 0 = .ok (.iload_n 1, 1) := by decide +kernel
theorem dX6_layer_1 : decode cX6_layer 1 = .ok (.invokestatic 111, 3) := by decide +kernel
theorem dX6_layer_4 : decode cX6_layer 4 = .ok (.ifCond .eq 19, 3) := by decide +kernel
theorem dX6_layer_7 : decode cX6_layer 7 = .ok (.iload_n 2, 1) := by decide +kernel
theorem dX6_layer_8 : decode cX6_layer 8 = .ok (.iconst 0, 1) := by decide +kernel
theorem dX6_layer_9 : decode cX6_layer 9 = .ok (.aload_n 0, 1) := by decide +kernel
theorem dX6_layer_10 : decode cX6_layer 10 = .ok (.getfield 9, 3) := by decide +kernel
theorem dX6_layer_13 : decode cX6_layer 13 = .ok (.iload_n 1, 1) := by decide +kernel
theorem dX6_layer_14 : decode cX6_layer 14 = .ok (.iaload, 1) := by decide +kernel
theorem dX6_layer_15 : decode cX6_layer 15 = .ok (.iconst 1, 1) := by decide +kernel
theorem dX6_layer_16 : decode cX6_layer 16 = .ok (.isub, 1) := by decide +kernel
theorem dX6_layer_17 : decode cX6_layer 17 = .ok (.invokestatic 56, 3) := by decide +kernel
theorem dX6_layer_20 : decode cX6_layer 20 = .ok (.ifCond .ne 5, 3) := by decide +kernel
theorem dX6_layer_23 : decode cX6_layer 23 = .ok (.iconst (-1), 1) := by decide +kernel
theorem dX6_layer_24 : decode cX6_layer 24 = .ok (.ireturn, 1) := by decide +kernel
theorem dX6_layer_25 : decode cX6_layer 25 = .ok (.bipush 10, 2) := by decide +kernel
theorem dX6_layer_27 : decode cX6_layer 27 = .ok (.iload_n 1, 1) := by decide +kernel
theorem dX6_layer_28 : decode cX6_layer 28 = .ok (.imul, 1) := by decide +kernel
theorem dX6_layer_29 : decode cX6_layer 29 = .ok (.iload_n 2, 1) := by decide +kernel
theorem dX6_layer_30 : decode cX6_layer 30 = .ok (.iadd, 1) := by decide +kernel
theorem dX6_layer_31 : decode cX6_layer 31 = .ok (.istore 4, 2) := by decide +kernel
theorem dX6_layer_33 : decode cX6_layer 33 = .ok (.iload_n 3, 1) := by decide +kernel
theorem dX6_layer_34 : decode cX6_layer 34 = .ok (.tableswitch 72 0 4 #[34, 42, 50, 58, 65], 34) := by decide +kernel
theorem dX6_layer_68 : decode cX6_layer 68 = .ok (.aload_n 0, 1) := by decide +kernel
theorem dX6_layer_69 : decode cX6_layer 69 = .ok (.getfield 13, 3) := by decide +kernel
theorem dX6_layer_72 : decode cX6_layer 72 = .ok (.iload 4, 2) := by decide +kernel
theorem dX6_layer_74 : decode cX6_layer 74 = .ok (.iaload, 1) := by decide +kernel
theorem dX6_layer_75 : decode cX6_layer 75 = .ok (.ireturn, 1) := by decide +kernel
theorem dX6_layer_76 : decode cX6_layer 76 = .ok (.aload_n 0, 1) := by decide +kernel
theorem dX6_layer_77 : decode cX6_layer 77 = .ok (.getfield 16, 3) := by decide +kernel
theorem dX6_layer_80 : decode cX6_layer 80 = .ok (.iload 4, 2) := by decide +kernel
theorem dX6_layer_82 : decode cX6_layer 82 = .ok (.iaload, 1) := by decide +kernel
theorem dX6_layer_83 : decode cX6_layer 83 = .ok (.ireturn, 1) := by decide +kernel
theorem dX6_layer_84 : decode cX6_layer 84 = .ok (.aload_n 0, 1) := by decide +kernel
theorem dX6_layer_85 : decode cX6_layer 85 = .ok (.getfield 19, 3) := by decide +kernel
theorem dX6_layer_88 : decode cX6_layer 88 = .ok (.iload 4, 2) := by decide +kernel
theorem dX6_layer_90 : decode cX6_layer 90 = .ok (.iaload, 1) := by decide +kernel
theorem dX6_layer_91 : decode cX6_layer 91 = .ok (.ireturn, 1) := by decide +kernel
theorem dX6_layer_92 : decode cX6_layer 92 = .ok (.aload_n 0, 1) := by decide +kernel
theorem dX6_layer_93 : decode cX6_layer 93 = .ok (.iload_n 1, 1) := by decide +kernel
theorem dX6_layer_94 : decode cX6_layer 94 = .ok (.iload_n 2, 1) := by decide +kernel
theorem dX6_layer_95 : decode cX6_layer 95 = .ok (.invokevirtual 107, 3) := by decide +kernel
theorem dX6_layer_98 : decode cX6_layer 98 = .ok (.ireturn, 1) := by decide +kernel
theorem dX6_layer_99 : decode cX6_layer 99 = .ok (.aload_n 0, 1) := by decide +kernel
theorem dX6_layer_100 : decode cX6_layer 100 = .ok (.iload_n 1, 1) := by decide +kernel
theorem dX6_layer_101 : decode cX6_layer 101 = .ok (.iload_n 2, 1) := by decide +kernel
theorem dX6_layer_102 : decode cX6_layer 102 = .ok (.invokevirtual 114, 3) := by decide +kernel
theorem dX6_layer_105 : decode cX6_layer 105 = .ok (.ireturn, 1) := by decide +kernel
theorem dX6_layer_106 : decode cX6_layer 106 = .ok (.iconst (-1), 1) := by decide +kernel
theorem dX6_layer_107 : decode cX6_layer 107 = .ok (.ireturn, 1) := by decide +kernel
theorem dX6_why_0 : decode cX6_why 0 = .ok (.iconst (-1), 1) := by decide +kernel
theorem dX6_why_1 : decode cX6_why 1 = .ok (.istore_n 2, 1) := by decide +kernel
theorem dX6_why_2 : decode cX6_why 2 = .ok (.iconst 0, 1) := by decide +kernel
theorem dX6_why_3 : decode cX6_why 3 = .ok (.istore_n 3, 1) := by decide +kernel
theorem dX6_why_4 : decode cX6_why 4 = .ok (.iload_n 3, 1) := by decide +kernel
theorem dX6_why_5 : decode cX6_why 5 = .ok (.aload_n 0, 1) := by decide +kernel
theorem dX6_why_6 : decode cX6_why 6 = .ok (.getfield 9, 3) := by decide +kernel
theorem dX6_why_9 : decode cX6_why 9 = .ok (.iload_n 1, 1) := by decide +kernel
theorem dX6_why_10 : decode cX6_why 10 = .ok (.iaload, 1) := by decide +kernel
theorem dX6_why_11 : decode cX6_why 11 = .ok (.if_icmp .ge 41, 3) := by decide +kernel
theorem dX6_why_14 : decode cX6_why 14 = .ok (.aload_n 0, 1) := by decide +kernel
theorem dX6_why_15 : decode cX6_why 15 = .ok (.iload_n 1, 1) := by decide +kernel
theorem dX6_why_16 : decode cX6_why 16 = .ok (.iload_n 3, 1) := by decide +kernel
theorem dX6_why_17 : decode cX6_why 17 = .ok (.invokevirtual 114, 3) := by decide +kernel
theorem dX6_why_20 : decode cX6_why 20 = .ok (.iconst (-1), 1) := by decide +kernel
theorem dX6_why_21 : decode cX6_why 21 = .ok (.if_icmp .eq 25, 3) := by decide +kernel
theorem dX6_why_24 : decode cX6_why 24 = .ok (.iload_n 2, 1) := by decide +kernel
theorem dX6_why_25 : decode cX6_why 25 = .ok (.iconst (-1), 1) := by decide +kernel
theorem dX6_why_26 : decode cX6_why 26 = .ok (.if_icmp .eq 18, 3) := by decide +kernel
theorem dX6_why_29 : decode cX6_why 29 = .ok (.aload_n 0, 1) := by decide +kernel
theorem dX6_why_30 : decode cX6_why 30 = .ok (.iload_n 1, 1) := by decide +kernel
theorem dX6_why_31 : decode cX6_why 31 = .ok (.iload_n 3, 1) := by decide +kernel
theorem dX6_why_32 : decode cX6_why 32 = .ok (.invokevirtual 114, 3) := by decide +kernel
theorem dX6_why_35 : decode cX6_why 35 = .ok (.aload_n 0, 1) := by decide +kernel
theorem dX6_why_36 : decode cX6_why 36 = .ok (.iload_n 1, 1) := by decide +kernel
theorem dX6_why_37 : decode cX6_why 37 = .ok (.iload_n 2, 1) := by decide +kernel
theorem dX6_why_38 : decode cX6_why 38 = .ok (.invokevirtual 114, 3) := by decide +kernel
theorem dX6_why_41 : decode cX6_why 41 = .ok (.if_icmp .gt 5, 3) := by decide +kernel
theorem dX6_why_44 : decode cX6_why 44 = .ok (.iload_n 3, 1) := by decide +kernel
theorem dX6_why_45 : decode cX6_why 45 = .ok (.istore_n 2, 1) := by decide +kernel
theorem dX6_why_46 : decode cX6_why 46 = .ok (.iinc 3 1, 3) := by decide +kernel
theorem dX6_why_49 : decode cX6_why 49 = .ok (.goto (-45), 3) := by decide +kernel
theorem dX6_why_52 : decode cX6_why 52 = .ok (.iload_n 2, 1) := by decide +kernel
theorem dX6_why_53 : decode cX6_why 53 = .ok (.ireturn, 1) := by decide +kernel
theorem dX6_likely_0 : decode cX6_likely 0 = .ok (.aload_n 0, 1) := by decide +kernel
theorem dX6_likely_1 : decode cX6_likely 1 = .ok (.iload_n 1, 1) := by decide +kernel
theorem dX6_likely_2 : decode cX6_likely 2 = .ok (.invokevirtual 117, 3) := by decide +kernel
theorem dX6_likely_5 : decode cX6_likely 5 = .ok (.istore_n 2, 1) := by decide +kernel
theorem dX6_likely_6 : decode cX6_likely 6 = .ok (.iload_n 2, 1) := by decide +kernel
theorem dX6_likely_7 : decode cX6_likely 7 = .ok (.iconst (-1), 1) := by decide +kernel
theorem dX6_likely_8 : decode cX6_likely 8 = .ok (.if_icmp .ne 9, 3) := by decide +kernel
theorem dX6_likely_11 : decode cX6_likely 11 = .ok (.sipush 999, 3) := by decide +kernel
theorem dX6_likely_14 : decode cX6_likely 14 = .ok (.goto 9, 3) := by decide +kernel
theorem dX6_likely_17 : decode cX6_likely 17 = .ok (.aload_n 0, 1) := by decide +kernel
theorem dX6_likely_18 : decode cX6_likely 18 = .ok (.iload_n 1, 1) := by decide +kernel
theorem dX6_likely_19 : decode cX6_likely 19 = .ok (.iload_n 2, 1) := by decide +kernel
theorem dX6_likely_20 : decode cX6_likely 20 = .ok (.invokevirtual 114, 3) := by decide +kernel
theorem dX6_likely_23 : decode cX6_likely 23 = .ok (.istore_n 3, 1) := by decide +kernel
theorem dX6_likely_24 : decode cX6_likely 24 = .ok (.iload_n 3, 1) := by decide +kernel
theorem dX6_likely_25 : decode cX6_likely 25 = .ok (.bipush 100, 2) := by decide +kernel
theorem dX6_likely_27 : decode cX6_likely 27 = .ok (.if_icmp .ge 7, 3) := by decide +kernel
theorem dX6_likely_30 : decode cX6_likely 30 = .ok (.iconst 3, 1) := by decide +kernel
theorem dX6_likely_31 : decode cX6_likely 31 = .ok (.goto 26, 3) := by decide +kernel
theorem dX6_likely_34 : decode cX6_likely 34 = .ok (.iload_n 3, 1) := by decide +kernel
theorem dX6_likely_35 : decode cX6_likely 35 = .ok (.sipush 150, 3) := by decide +kernel
theorem dX6_likely_38 : decode cX6_likely 38 = .ok (.if_icmp .ge 7, 3) := by decide +kernel
theorem dX6_likely_41 : decode cX6_likely 41 = .ok (.iconst 2, 1) := by decide +kernel
theorem dX6_likely_42 : decode cX6_likely 42 = .ok (.goto 15, 3) := by decide +kernel
theorem dX6_likely_45 : decode cX6_likely 45 = .ok (.iload_n 3, 1) := by decide +kernel
theorem dX6_likely_46 : decode cX6_likely 46 = .ok (.sipush 300, 3) := by decide +kernel
theorem dX6_likely_49 : decode cX6_likely 49 = .ok (.if_icmp .ge 7, 3) := by decide +kernel
theorem dX6_likely_52 : decode cX6_likely 52 = .ok (.iconst 1, 1) := by decide +kernel
theorem dX6_likely_53 : decode cX6_likely 53 = .ok (.goto 4, 3) := by decide +kernel
theorem dX6_likely_56 : decode cX6_likely 56 = .ok (.iconst 0, 1) := by decide +kernel
theorem dX6_likely_57 : decode cX6_likely 57 = .ok (.ireturn, 1) := by decide +kernel
theorem dX6_size_0 : decode cX6_size 0 = .ok (.aload_n 0, 1) := by decide +kernel
theorem dX6_size_1 : decode cX6_size 1 = .ok (.iload_n 1, 1) := by decide +kernel
theorem dX6_size_2 : decode cX6_size 2 = .ok (.invokevirtual 117, 3) := by decide +kernel
theorem dX6_size_5 : decode cX6_size 5 = .ok (.istore_n 2, 1) := by decide +kernel
theorem dX6_size_6 : decode cX6_size 6 = .ok (.iload_n 2, 1) := by decide +kernel
theorem dX6_size_7 : decode cX6_size 7 = .ok (.iconst (-1), 1) := by decide +kernel
theorem dX6_size_8 : decode cX6_size 8 = .ok (.if_icmp .ne 7, 3) := by decide +kernel
theorem dX6_size_11 : decode cX6_size 11 = .ok (.iconst 0, 1) := by decide +kernel
theorem dX6_size_12 : decode cX6_size 12 = .ok (.goto 9, 3) := by decide +kernel
theorem dX6_size_15 : decode cX6_size 15 = .ok (.aload_n 0, 1) := by decide +kernel
theorem dX6_size_16 : decode cX6_size 16 = .ok (.iload_n 1, 1) := by decide +kernel
theorem dX6_size_17 : decode cX6_size 17 = .ok (.iload_n 2, 1) := by decide +kernel
theorem dX6_size_18 : decode cX6_size 18 = .ok (.invokevirtual 107, 3) := by decide +kernel
theorem dX6_size_21 : decode cX6_size 21 = .ok (.istore_n 3, 1) := by decide +kernel
theorem dX6_size_22 : decode cX6_size 22 = .ok (.iload_n 3, 1) := by decide +kernel
theorem dX6_size_23 : decode cX6_size 23 = .ok (.sipush 500, 3) := by decide +kernel
theorem dX6_size_26 : decode cX6_size 26 = .ok (.if_icmp .lt 7, 3) := by decide +kernel
theorem dX6_size_29 : decode cX6_size 29 = .ok (.iconst 2, 1) := by decide +kernel
theorem dX6_size_30 : decode cX6_size 30 = .ok (.goto 15, 3) := by decide +kernel
theorem dX6_size_33 : decode cX6_size 33 = .ok (.iload_n 3, 1) := by decide +kernel
theorem dX6_size_34 : decode cX6_size 34 = .ok (.sipush 200, 3) := by decide +kernel
theorem dX6_size_37 : decode cX6_size 37 = .ok (.if_icmp .lt 7, 3) := by decide +kernel
theorem dX6_size_40 : decode cX6_size 40 = .ok (.iconst 1, 1) := by decide +kernel
theorem dX6_size_41 : decode cX6_size 41 = .ok (.goto 4, 3) := by decide +kernel
theorem dX6_size_44 : decode cX6_size 44 = .ok (.iconst 0, 1) := by decide +kernel
theorem dX6_size_45 : decode cX6_size 45 = .ok (.ireturn, 1) := by decide +kernel
theorem dX6_danger_0 : decode cX6_danger 0 = .ok (.aload_n 0, 1) := by decide +kernel
theorem dX6_danger_1 : decode cX6_danger 1 = .ok (.iload_n 1, 1) := by decide +kernel
theorem dX6_danger_2 : decode cX6_danger 2 = .ok (.invokevirtual 120, 3) := by decide +kernel
theorem dX6_danger_5 : decode cX6_danger 5 = .ok (.ifCond .ne 5, 3) := by decide +kernel
theorem dX6_danger_8 : decode cX6_danger 8 = .ok (.iconst 1, 1) := by decide +kernel
theorem dX6_danger_9 : decode cX6_danger 9 = .ok (.ireturn, 1) := by decide +kernel
theorem dX6_danger_10 : decode cX6_danger 10 = .ok (.iconst 0, 1) := by decide +kernel
theorem dX6_danger_11 : decode cX6_danger 11 = .ok (.istore_n 2, 1) := by decide +kernel
theorem dX6_danger_12 : decode cX6_danger 12 = .ok (.iconst 0, 1) := by decide +kernel
theorem dX6_danger_13 : decode cX6_danger 13 = .ok (.istore_n 3, 1) := by decide +kernel
theorem dX6_danger_14 : decode cX6_danger 14 = .ok (.iload_n 3, 1) := by decide +kernel
theorem dX6_danger_15 : decode cX6_danger 15 = .ok (.iconst 4, 1) := by decide +kernel
theorem dX6_danger_16 : decode cX6_danger 16 = .ok (.if_icmp .ge 32, 3) := by decide +kernel
theorem dX6_danger_19 : decode cX6_danger 19 = .ok (.iload_n 2, 1) := by decide +kernel
theorem dX6_danger_20 : decode cX6_danger 20 = .ok (.aload_n 0, 1) := by decide +kernel
theorem dX6_danger_21 : decode cX6_danger 21 = .ok (.iload_n 1, 1) := by decide +kernel
theorem dX6_danger_22 : decode cX6_danger 22 = .ok (.iconst 4, 1) := by decide +kernel
theorem dX6_danger_23 : decode cX6_danger 23 = .ok (.idiv, 1) := by decide +kernel
theorem dX6_danger_24 : decode cX6_danger 24 = .ok (.iconst 4, 1) := by decide +kernel
theorem dX6_danger_25 : decode cX6_danger 25 = .ok (.imul, 1) := by decide +kernel
theorem dX6_danger_26 : decode cX6_danger 26 = .ok (.iload_n 3, 1) := by decide +kernel
theorem dX6_danger_27 : decode cX6_danger 27 = .ok (.iadd, 1) := by decide +kernel
theorem dX6_danger_28 : decode cX6_danger 28 = .ok (.invokevirtual 120, 3) := by decide +kernel
theorem dX6_danger_31 : decode cX6_danger 31 = .ok (.iconst 2, 1) := by decide +kernel
theorem dX6_danger_32 : decode cX6_danger 32 = .ok (.if_icmp .lt 7, 3) := by decide +kernel
theorem dX6_danger_35 : decode cX6_danger 35 = .ok (.iconst 1, 1) := by decide +kernel
theorem dX6_danger_36 : decode cX6_danger 36 = .ok (.goto 4, 3) := by decide +kernel
theorem dX6_danger_39 : decode cX6_danger 39 = .ok (.iconst 0, 1) := by decide +kernel
theorem dX6_danger_40 : decode cX6_danger 40 = .ok (.iadd, 1) := by decide +kernel
theorem dX6_danger_41 : decode cX6_danger 41 = .ok (.istore_n 2, 1) := by decide +kernel
theorem dX6_danger_42 : decode cX6_danger 42 = .ok (.iinc 3 1, 3) := by decide +kernel
theorem dX6_danger_45 : decode cX6_danger 45 = .ok (.goto (-31), 3) := by decide +kernel
theorem dX6_danger_48 : decode cX6_danger 48 = .ok (.iconst 1, 1) := by decide +kernel
theorem dX6_danger_49 : decode cX6_danger 49 = .ok (.aload_n 0, 1) := by decide +kernel
theorem dX6_danger_50 : decode cX6_danger 50 = .ok (.iload_n 1, 1) := by decide +kernel
theorem dX6_danger_51 : decode cX6_danger 51 = .ok (.invokevirtual 120, 3) := by decide +kernel
theorem dX6_danger_54 : decode cX6_danger 54 = .ok (.iadd, 1) := by decide +kernel
theorem dX6_danger_55 : decode cX6_danger 55 = .ok (.iload_n 2, 1) := by decide +kernel
theorem dX6_danger_56 : decode cX6_danger 56 = .ok (.iconst 2, 1) := by decide +kernel
theorem dX6_danger_57 : decode cX6_danger 57 = .ok (.if_icmp .lt 7, 3) := by decide +kernel
theorem dX6_danger_60 : decode cX6_danger 60 = .ok (.iconst 1, 1) := by decide +kernel
theorem dX6_danger_61 : decode cX6_danger 61 = .ok (.goto 4, 3) := by decide +kernel
theorem dX6_danger_64 : decode cX6_danger 64 = .ok (.iconst 0, 1) := by decide +kernel
theorem dX6_danger_65 : decode cX6_danger 65 = .ok (.iadd, 1) := by decide +kernel
theorem dX6_danger_66 : decode cX6_danger 66 = .ok (.aload_n 0, 1) := by decide +kernel
theorem dX6_danger_67 : decode cX6_danger 67 = .ok (.iload_n 1, 1) := by decide +kernel
theorem dX6_danger_68 : decode cX6_danger 68 = .ok (.invokevirtual 123, 3) := by decide +kernel
theorem dX6_danger_71 : decode cX6_danger 71 = .ok (.iadd, 1) := by decide +kernel
theorem dX6_danger_72 : decode cX6_danger 72 = .ok (.iconst 1, 1) := by decide +kernel
theorem dX6_danger_73 : decode cX6_danger 73 = .ok (.isub, 1) := by decide +kernel
theorem dX6_danger_74 : decode cX6_danger 74 = .ok (.istore_n 3, 1) := by decide +kernel
theorem dX6_danger_75 : decode cX6_danger 75 = .ok (.iload_n 3, 1) := by decide +kernel
theorem dX6_danger_76 : decode cX6_danger 76 = .ok (.iconst 5, 1) := by decide +kernel
theorem dX6_danger_77 : decode cX6_danger 77 = .ok (.if_icmp .le 7, 3) := by decide +kernel
theorem dX6_danger_80 : decode cX6_danger 80 = .ok (.iconst 5, 1) := by decide +kernel
theorem dX6_danger_81 : decode cX6_danger 81 = .ok (.goto 13, 3) := by decide +kernel
theorem dX6_danger_84 : decode cX6_danger 84 = .ok (.iload_n 3, 1) := by decide +kernel
theorem dX6_danger_85 : decode cX6_danger 85 = .ok (.iconst 1, 1) := by decide +kernel
theorem dX6_danger_86 : decode cX6_danger 86 = .ok (.if_icmp .ge 7, 3) := by decide +kernel
theorem dX6_danger_89 : decode cX6_danger 89 = .ok (.iconst 1, 1) := by decide +kernel
theorem dX6_danger_90 : decode cX6_danger 90 = .ok (.goto 4, 3) := by decide +kernel
theorem dX6_danger_93 : decode cX6_danger 93 = .ok (.iload_n 3, 1) := by decide +kernel
theorem dX6_danger_94 : decode cX6_danger 94 = .ok (.ireturn, 1) := by decide +kernel
theorem dX6_all_0 : decode cX6_all 0 = .ok (.aload_n 0, 1) := by decide +kernel
theorem dX6_all_1 : decode cX6_all 1 = .ok (.getfield 9, 3) := by decide +kernel
theorem dX6_all_4 : decode cX6_all 4 = .ok (.iload_n 1, 1) := by decide +kernel
theorem dX6_all_5 : decode cX6_all 5 = .ok (.iaload, 1) := by decide +kernel
theorem dX6_all_6 : decode cX6_all 6 = .ok (.ifCond .ne 7, 3) := by decide +kernel
theorem dX6_all_9 : decode cX6_all 9 = .ok (.iconst 0, 1) := by decide +kernel
theorem dX6_all_10 : decode cX6_all 10 = .ok (.goto 19, 3) := by decide +kernel
theorem dX6_all_13 : decode cX6_all 13 = .ok (.aload_n 0, 1) := by decide +kernel
theorem dX6_all_14 : decode cX6_all 14 = .ok (.getfield 16, 3) := by decide +kernel
theorem dX6_all_17 : decode cX6_all 17 = .ok (.bipush 10, 2) := by decide +kernel
theorem dX6_all_19 : decode cX6_all 19 = .ok (.iload_n 1, 1) := by decide +kernel
theorem dX6_all_20 : decode cX6_all 20 = .ok (.imul, 1) := by decide +kernel
theorem dX6_all_21 : decode cX6_all 21 = .ok (.iaload, 1) := by decide +kernel
theorem dX6_all_22 : decode cX6_all 22 = .ok (.aload_n 0, 1) := by decide +kernel
theorem dX6_all_23 : decode cX6_all 23 = .ok (.iload_n 1, 1) := by decide +kernel
theorem dX6_all_24 : decode cX6_all 24 = .ok (.iconst 0, 1) := by decide +kernel
theorem dX6_all_25 : decode cX6_all 25 = .ok (.invokevirtual 107, 3) := by decide +kernel
theorem dX6_all_28 : decode cX6_all 28 = .ok (.iadd, 1) := by decide +kernel
theorem dX6_all_29 : decode cX6_all 29 = .ok (.ireturn, 1) := by decide +kernel
theorem dX6_told_0 : decode cX6_told 0 = .ok (.iload_n 1, 1) := by decide +kernel
theorem dX6_told_1 : decode cX6_told 1 = .ok (.invokestatic 111, 3) := by decide +kernel
theorem dX6_told_4 : decode cX6_told 4 = .ok (.ifCond .ne 5, 3) := by decide +kernel
theorem dX6_told_7 : decode cX6_told 7 = .ok (.iconst (-1), 1) := by decide +kernel
theorem dX6_told_8 : decode cX6_told 8 = .ok (.ireturn, 1) := by decide +kernel
theorem dX6_told_9 : decode cX6_told 9 = .ok (.iload_n 2, 1) := by decide +kernel
theorem dX6_told_10 : decode cX6_told 10 = .ok (.tableswitch 75 0 5 #[38, 45, 51, 57, 63, 69], 38) := by decide +kernel
theorem dX6_told_48 : decode cX6_told 48 = .ok (.aload_n 0, 1) := by decide +kernel
theorem dX6_told_49 : decode cX6_told 49 = .ok (.getfield 9, 3) := by decide +kernel
theorem dX6_told_52 : decode cX6_told 52 = .ok (.iload_n 1, 1) := by decide +kernel
theorem dX6_told_53 : decode cX6_told 53 = .ok (.iaload, 1) := by decide +kernel
theorem dX6_told_54 : decode cX6_told 54 = .ok (.ireturn, 1) := by decide +kernel
theorem dX6_told_55 : decode cX6_told 55 = .ok (.aload_n 0, 1) := by decide +kernel
theorem dX6_told_56 : decode cX6_told 56 = .ok (.iload_n 1, 1) := by decide +kernel
theorem dX6_told_57 : decode cX6_told 57 = .ok (.invokevirtual 126, 3) := by decide +kernel
theorem dX6_told_60 : decode cX6_told 60 = .ok (.ireturn, 1) := by decide +kernel
theorem dX6_told_61 : decode cX6_told 61 = .ok (.aload_n 0, 1) := by decide +kernel
theorem dX6_told_62 : decode cX6_told 62 = .ok (.iload_n 1, 1) := by decide +kernel
theorem dX6_told_63 : decode cX6_told 63 = .ok (.invokevirtual 120, 3) := by decide +kernel
theorem dX6_told_66 : decode cX6_told 66 = .ok (.ireturn, 1) := by decide +kernel
theorem dX6_told_67 : decode cX6_told 67 = .ok (.aload_n 0, 1) := by decide +kernel
theorem dX6_told_68 : decode cX6_told 68 = .ok (.iload_n 1, 1) := by decide +kernel
theorem dX6_told_69 : decode cX6_told 69 = .ok (.invokevirtual 123, 3) := by decide +kernel
theorem dX6_told_72 : decode cX6_told 72 = .ok (.ireturn, 1) := by decide +kernel
theorem dX6_told_73 : decode cX6_told 73 = .ok (.aload_n 0, 1) := by decide +kernel
theorem dX6_told_74 : decode cX6_told 74 = .ok (.iload_n 1, 1) := by decide +kernel
theorem dX6_told_75 : decode cX6_told 75 = .ok (.invokevirtual 129, 3) := by decide +kernel
theorem dX6_told_78 : decode cX6_told 78 = .ok (.ireturn, 1) := by decide +kernel
theorem dX6_told_79 : decode cX6_told 79 = .ok (.aload_n 0, 1) := by decide +kernel
theorem dX6_told_80 : decode cX6_told 80 = .ok (.iload_n 1, 1) := by decide +kernel
theorem dX6_told_81 : decode cX6_told 81 = .ok (.invokevirtual 117, 3) := by decide +kernel
theorem dX6_told_84 : decode cX6_told 84 = .ok (.ireturn, 1) := by decide +kernel
theorem dX6_told_85 : decode cX6_told 85 = .ok (.iconst (-1), 1) := by decide +kernel
theorem dX6_told_86 : decode cX6_told 86 = .ok (.ireturn, 1) := by decide +kernel
theorem dX6_slides_0 : decode cX6_slides 0 = .ok (.aload_n 0, 1) := by decide +kernel
theorem dX6_slides_1 : decode cX6_slides 1 = .ok (.iload_n 1, 1) := by decide +kernel
theorem dX6_slides_2 : decode cX6_slides 2 = .ok (.iload_n 2, 1) := by decide +kernel
theorem dX6_slides_3 : decode cX6_slides 3 = .ok (.invokevirtual 107, 3) := by decide +kernel
theorem dX6_slides_6 : decode cX6_slides 6 = .ok (.istore_n 3, 1) := by decide +kernel
theorem dX6_slides_7 : decode cX6_slides 7 = .ok (.aload_n 0, 1) := by decide +kernel
theorem dX6_slides_8 : decode cX6_slides 8 = .ok (.getfield 9, 3) := by decide +kernel
theorem dX6_slides_11 : decode cX6_slides 11 = .ok (.iload_n 1, 1) := by decide +kernel
theorem dX6_slides_12 : decode cX6_slides 12 = .ok (.iload_n 2, 1) := by decide +kernel
theorem dX6_slides_13 : decode cX6_slides 13 = .ok (.iconst 1, 1) := by decide +kernel
theorem dX6_slides_14 : decode cX6_slides 14 = .ok (.iadd, 1) := by decide +kernel
theorem dX6_slides_15 : decode cX6_slides 15 = .ok (.iastore, 1) := by decide +kernel
theorem dX6_slides_16 : decode cX6_slides 16 = .ok (.aload_n 0, 1) := by decide +kernel
theorem dX6_slides_17 : decode cX6_slides 17 = .ok (.dup, 1) := by decide +kernel
theorem dX6_slides_18 : decode cX6_slides 18 = .ok (.getfield 132, 3) := by decide +kernel
theorem dX6_slides_21 : decode cX6_slides 21 = .ok (.iload_n 3, 1) := by decide +kernel
theorem dX6_slides_22 : decode cX6_slides 22 = .ok (.iadd, 1) := by decide +kernel
theorem dX6_slides_23 : decode cX6_slides 23 = .ok (.putfield 132, 3) := by decide +kernel
theorem dX6_slides_26 : decode cX6_slides 26 = .ok (.iload_n 3, 1) := by decide +kernel
theorem dX6_slides_27 : decode cX6_slides 27 = .ok (.ireturn, 1) := by decide +kernel
theorem dX6_slide_0 : decode cX6_slide 0 = .ok (.iload_n 1, 1) := by decide +kernel
theorem dX6_slide_1 : decode cX6_slide 1 = .ok (.invokestatic 111, 3) := by decide +kernel
theorem dX6_slide_4 : decode cX6_slide 4 = .ok (.ifCond .eq 19, 3) := by decide +kernel
theorem dX6_slide_7 : decode cX6_slide 7 = .ok (.iload_n 2, 1) := by decide +kernel
theorem dX6_slide_8 : decode cX6_slide 8 = .ok (.iconst 0, 1) := by decide +kernel
theorem dX6_slide_9 : decode cX6_slide 9 = .ok (.aload_n 0, 1) := by decide +kernel
theorem dX6_slide_10 : decode cX6_slide 10 = .ok (.getfield 9, 3) := by decide +kernel
theorem dX6_slide_13 : decode cX6_slide 13 = .ok (.iload_n 1, 1) := by decide +kernel
theorem dX6_slide_14 : decode cX6_slide 14 = .ok (.iaload, 1) := by decide +kernel
theorem dX6_slide_15 : decode cX6_slide 15 = .ok (.iconst 2, 1) := by decide +kernel
theorem dX6_slide_16 : decode cX6_slide 16 = .ok (.isub, 1) := by decide +kernel
theorem dX6_slide_17 : decode cX6_slide 17 = .ok (.invokestatic 56, 3) := by decide +kernel
theorem dX6_slide_20 : decode cX6_slide 20 = .ok (.ifCond .ne 5, 3) := by decide +kernel
theorem dX6_slide_23 : decode cX6_slide 23 = .ok (.iconst (-1), 1) := by decide +kernel
theorem dX6_slide_24 : decode cX6_slide 24 = .ok (.ireturn, 1) := by decide +kernel
theorem dX6_slide_25 : decode cX6_slide 25 = .ok (.aload_n 0, 1) := by decide +kernel
theorem dX6_slide_26 : decode cX6_slide 26 = .ok (.getfield 31, 3) := by decide +kernel
theorem dX6_slide_29 : decode cX6_slide 29 = .ok (.iload_n 1, 1) := by decide +kernel
theorem dX6_slide_30 : decode cX6_slide 30 = .ok (.iconst 1, 1) := by decide +kernel
theorem dX6_slide_31 : decode cX6_slide 31 = .ok (.bastore, 1) := by decide +kernel
theorem dX6_slide_32 : decode cX6_slide 32 = .ok (.aload_n 0, 1) := by decide +kernel
theorem dX6_slide_33 : decode cX6_slide 33 = .ok (.iload_n 1, 1) := by decide +kernel
theorem dX6_slide_34 : decode cX6_slide 34 = .ok (.iload_n 2, 1) := by decide +kernel
theorem dX6_slide_35 : decode cX6_slide 35 = .ok (.invokevirtual 135, 3) := by decide +kernel
theorem dX6_slide_38 : decode cX6_slide 38 = .ok (.ireturn, 1) := by decide +kernel
theorem dX6_shot_0 : decode cX6_shot 0 = .ok (.iload_n 1, 1) := by decide +kernel
theorem dX6_shot_1 : decode cX6_shot 1 = .ok (.invokestatic 111, 3) := by decide +kernel
theorem dX6_shot_4 : decode cX6_shot 4 = .ok (.ifCond .ne 5, 3) := by decide +kernel
theorem dX6_shot_7 : decode cX6_shot 7 = .ok (.iconst (-1), 1) := by decide +kernel
theorem dX6_shot_8 : decode cX6_shot 8 = .ok (.ireturn, 1) := by decide +kernel
theorem dX6_shot_9 : decode cX6_shot 9 = .ok (.aload_n 0, 1) := by decide +kernel
theorem dX6_shot_10 : decode cX6_shot 10 = .ok (.iload_n 1, 1) := by decide +kernel
theorem dX6_shot_11 : decode cX6_shot 11 = .ok (.invokevirtual 120, 3) := by decide +kernel
theorem dX6_shot_14 : decode cX6_shot 14 = .ok (.iconst 2, 1) := by decide +kernel
theorem dX6_shot_15 : decode cX6_shot 15 = .ok (.if_icmp .lt 16, 3) := by decide +kernel
theorem dX6_shot_18 : decode cX6_shot 18 = .ok (.aload_n 0, 1) := by decide +kernel
theorem dX6_shot_19 : decode cX6_shot 19 = .ok (.iload_n 1, 1) := by decide +kernel
theorem dX6_shot_20 : decode cX6_shot 20 = .ok (.aload_n 0, 1) := by decide +kernel
theorem dX6_shot_21 : decode cX6_shot 21 = .ok (.iload_n 1, 1) := by decide +kernel
theorem dX6_shot_22 : decode cX6_shot 22 = .ok (.invokevirtual 117, 3) := by decide +kernel
theorem dX6_shot_25 : decode cX6_shot 25 = .ok (.invokevirtual 135, 3) := by decide +kernel
theorem dX6_shot_28 : decode cX6_shot 28 = .ok (.goto 4, 3) := by decide +kernel
theorem dX6_shot_31 : decode cX6_shot 31 = .ok (.iconst 0, 1) := by decide +kernel
theorem dX6_shot_32 : decode cX6_shot 32 = .ok (.ireturn, 1) := by decide +kernel
theorem dX6_path_0 : decode cX6_path 0 = .ok (.iload_n 1, 1) := by decide +kernel
theorem dX6_path_1 : decode cX6_path 1 = .ok (.invokestatic 111, 3) := by decide +kernel
theorem dX6_path_4 : decode cX6_path 4 = .ok (.ifCond .eq 21, 3) := by decide +kernel
theorem dX6_path_7 : decode cX6_path 7 = .ok (.iload_n 2, 1) := by decide +kernel
theorem dX6_path_8 : decode cX6_path 8 = .ok (.iconst 0, 1) := by decide +kernel
theorem dX6_path_9 : decode cX6_path 9 = .ok (.iconst 2, 1) := by decide +kernel
theorem dX6_path_10 : decode cX6_path 10 = .ok (.invokestatic 56, 3) := by decide +kernel
theorem dX6_path_13 : decode cX6_path 13 = .ok (.ifCond .eq 12, 3) := by decide +kernel
theorem dX6_path_16 : decode cX6_path 16 = .ok (.aload_n 0, 1) := by decide +kernel
theorem dX6_path_17 : decode cX6_path 17 = .ok (.getfield 138, 3) := by decide +kernel
theorem dX6_path_20 : decode cX6_path 20 = .ok (.bipush 10, 2) := by decide +kernel
theorem dX6_path_22 : decode cX6_path 22 = .ok (.if_icmp .ne 5, 3) := by decide +kernel
theorem dX6_path_25 : decode cX6_path 25 = .ok (.iconst (-1), 1) := by decide +kernel
theorem dX6_path_26 : decode cX6_path 26 = .ok (.ireturn, 1) := by decide +kernel
theorem dX6_path_27 : decode cX6_path 27 = .ok (.aload_n 0, 1) := by decide +kernel
theorem dX6_path_28 : decode cX6_path 28 = .ok (.getfield 41, 3) := by decide +kernel
theorem dX6_path_31 : decode cX6_path 31 = .ok (.aload_n 0, 1) := by decide +kernel
theorem dX6_path_32 : decode cX6_path 32 = .ok (.getfield 138, 3) := by decide +kernel
theorem dX6_path_35 : decode cX6_path 35 = .ok (.iload_n 1, 1) := by decide +kernel
theorem dX6_path_36 : decode cX6_path 36 = .ok (.iastore, 1) := by decide +kernel
theorem dX6_path_37 : decode cX6_path 37 = .ok (.aload_n 0, 1) := by decide +kernel
theorem dX6_path_38 : decode cX6_path 38 = .ok (.getfield 44, 3) := by decide +kernel
theorem dX6_path_41 : decode cX6_path 41 = .ok (.aload_n 0, 1) := by decide +kernel
theorem dX6_path_42 : decode cX6_path 42 = .ok (.getfield 138, 3) := by decide +kernel
theorem dX6_path_45 : decode cX6_path 45 = .ok (.iload_n 2, 1) := by decide +kernel
theorem dX6_path_46 : decode cX6_path 46 = .ok (.iastore, 1) := by decide +kernel
theorem dX6_path_47 : decode cX6_path 47 = .ok (.aload_n 0, 1) := by decide +kernel
theorem dX6_path_48 : decode cX6_path 48 = .ok (.dup, 1) := by decide +kernel
theorem dX6_path_49 : decode cX6_path 49 = .ok (.getfield 138, 3) := by decide +kernel
theorem dX6_path_52 : decode cX6_path 52 = .ok (.iconst 1, 1) := by decide +kernel
theorem dX6_path_53 : decode cX6_path 53 = .ok (.iadd, 1) := by decide +kernel
theorem dX6_path_54 : decode cX6_path 54 = .ok (.putfield 138, 3) := by decide +kernel
theorem dX6_path_57 : decode cX6_path 57 = .ok (.aload_n 0, 1) := by decide +kernel
theorem dX6_path_58 : decode cX6_path 58 = .ok (.getfield 138, 3) := by decide +kernel
theorem dX6_path_61 : decode cX6_path 61 = .ok (.iconst 1, 1) := by decide +kernel
theorem dX6_path_62 : decode cX6_path 62 = .ok (.isub, 1) := by decide +kernel
theorem dX6_path_63 : decode cX6_path 63 = .ok (.ireturn, 1) := by decide +kernel
theorem dX6_shuts_0 : decode cX6_shuts 0 = .ok (.aload_n 0, 1) := by decide +kernel
theorem dX6_shuts_1 : decode cX6_shuts 1 = .ok (.aload_n 0, 1) := by decide +kernel
theorem dX6_shuts_2 : decode cX6_shuts 2 = .ok (.getfield 41, 3) := by decide +kernel
theorem dX6_shuts_5 : decode cX6_shuts 5 = .ok (.iload_n 1, 1) := by decide +kernel
theorem dX6_shuts_6 : decode cX6_shuts 6 = .ok (.iaload, 1) := by decide +kernel
theorem dX6_shuts_7 : decode cX6_shuts 7 = .ok (.invokevirtual 120, 3) := by decide +kernel
theorem dX6_shuts_10 : decode cX6_shuts 10 = .ok (.iconst 2, 1) := by decide +kernel
theorem dX6_shuts_11 : decode cX6_shuts 11 = .ok (.if_icmp .lt 26, 3) := by decide +kernel
theorem dX6_shuts_14 : decode cX6_shuts 14 = .ok (.aload_n 0, 1) := by decide +kernel
theorem dX6_shuts_15 : decode cX6_shuts 15 = .ok (.aload_n 0, 1) := by decide +kernel
theorem dX6_shuts_16 : decode cX6_shuts 16 = .ok (.getfield 41, 3) := by decide +kernel
theorem dX6_shuts_19 : decode cX6_shuts 19 = .ok (.iload_n 1, 1) := by decide +kernel
theorem dX6_shuts_20 : decode cX6_shuts 20 = .ok (.iaload, 1) := by decide +kernel
theorem dX6_shuts_21 : decode cX6_shuts 21 = .ok (.invokevirtual 123, 3) := by decide +kernel
theorem dX6_shuts_24 : decode cX6_shuts 24 = .ok (.aload_n 0, 1) := by decide +kernel
theorem dX6_shuts_25 : decode cX6_shuts 25 = .ok (.getfield 44, 3) := by decide +kernel
theorem dX6_shuts_28 : decode cX6_shuts 28 = .ok (.iload_n 1, 1) := by decide +kernel
theorem dX6_shuts_29 : decode cX6_shuts 29 = .ok (.iaload, 1) := by decide +kernel
theorem dX6_shuts_30 : decode cX6_shuts 30 = .ok (.if_icmp .lt 7, 3) := by decide +kernel
theorem dX6_shuts_33 : decode cX6_shuts 33 = .ok (.iconst 1, 1) := by decide +kernel
theorem dX6_shuts_34 : decode cX6_shuts 34 = .ok (.goto 4, 3) := by decide +kernel
theorem dX6_shuts_37 : decode cX6_shuts 37 = .ok (.iconst 0, 1) := by decide +kernel
theorem dX6_shuts_38 : decode cX6_shuts 38 = .ok (.ireturn, 1) := by decide +kernel
theorem dX6_shut_0 : decode cX6_shut 0 = .ok (.iconst 0, 1) := by decide +kernel
theorem dX6_shut_1 : decode cX6_shut 1 = .ok (.istore_n 1, 1) := by decide +kernel
theorem dX6_shut_2 : decode cX6_shut 2 = .ok (.iconst 0, 1) := by decide +kernel
theorem dX6_shut_3 : decode cX6_shut 3 = .ok (.istore_n 2, 1) := by decide +kernel
theorem dX6_shut_4 : decode cX6_shut 4 = .ok (.iload_n 2, 1) := by decide +kernel
theorem dX6_shut_5 : decode cX6_shut 5 = .ok (.aload_n 0, 1) := by decide +kernel
theorem dX6_shut_6 : decode cX6_shut 6 = .ok (.getfield 138, 3) := by decide +kernel
theorem dX6_shut_9 : decode cX6_shut 9 = .ok (.if_icmp .ge 27, 3) := by decide +kernel
theorem dX6_shut_12 : decode cX6_shut 12 = .ok (.iload_n 1, 1) := by decide +kernel
theorem dX6_shut_13 : decode cX6_shut 13 = .ok (.aload_n 0, 1) := by decide +kernel
theorem dX6_shut_14 : decode cX6_shut 14 = .ok (.iload_n 2, 1) := by decide +kernel
theorem dX6_shut_15 : decode cX6_shut 15 = .ok (.invokevirtual 141, 3) := by decide +kernel
theorem dX6_shut_18 : decode cX6_shut 18 = .ok (.ifCond .eq 9, 3) := by decide +kernel
theorem dX6_shut_21 : decode cX6_shut 21 = .ok (.iconst 1, 1) := by decide +kernel
theorem dX6_shut_22 : decode cX6_shut 22 = .ok (.iload_n 2, 1) := by decide +kernel
theorem dX6_shut_23 : decode cX6_shut 23 = .ok (.ishl, 1) := by decide +kernel
theorem dX6_shut_24 : decode cX6_shut 24 = .ok (.goto 4, 3) := by decide +kernel
theorem dX6_shut_27 : decode cX6_shut 27 = .ok (.iconst 0, 1) := by decide +kernel
theorem dX6_shut_28 : decode cX6_shut 28 = .ok (.ior, 1) := by decide +kernel
theorem dX6_shut_29 : decode cX6_shut 29 = .ok (.istore_n 1, 1) := by decide +kernel
theorem dX6_shut_30 : decode cX6_shut 30 = .ok (.iinc 2 1, 3) := by decide +kernel
theorem dX6_shut_33 : decode cX6_shut 33 = .ok (.goto (-29), 3) := by decide +kernel
theorem dX6_shut_36 : decode cX6_shut 36 = .ok (.iload_n 1, 1) := by decide +kernel
theorem dX6_shut_37 : decode cX6_shut 37 = .ok (.ireturn, 1) := by decide +kernel
theorem dX6_shots_0 : decode cX6_shots 0 = .ok (.iconst 0, 1) := by decide +kernel
theorem dX6_shots_1 : decode cX6_shots 1 = .ok (.istore_n 1, 1) := by decide +kernel
theorem dX6_shots_2 : decode cX6_shots 2 = .ok (.iconst 0, 1) := by decide +kernel
theorem dX6_shots_3 : decode cX6_shots 3 = .ok (.istore_n 2, 1) := by decide +kernel
theorem dX6_shots_4 : decode cX6_shots 4 = .ok (.iload_n 2, 1) := by decide +kernel
theorem dX6_shots_5 : decode cX6_shots 5 = .ok (.bipush 12, 2) := by decide +kernel
theorem dX6_shots_7 : decode cX6_shots 7 = .ok (.if_icmp .ge 158, 3) := by decide +kernel
theorem dX6_shots_10 : decode cX6_shots 10 = .ok (.iconst 0, 1) := by decide +kernel
theorem dX6_shots_11 : decode cX6_shots 11 = .ok (.istore_n 3, 1) := by decide +kernel
theorem dX6_shots_12 : decode cX6_shots 12 = .ok (.iconst 0, 1) := by decide +kernel
theorem dX6_shots_13 : decode cX6_shots 13 = .ok (.istore 4, 2) := by decide +kernel
theorem dX6_shots_15 : decode cX6_shots 15 = .ok (.iload 4, 2) := by decide +kernel
theorem dX6_shots_17 : decode cX6_shots 17 = .ok (.aload_n 0, 1) := by decide +kernel
theorem dX6_shots_18 : decode cX6_shots 18 = .ok (.getfield 138, 3) := by decide +kernel
theorem dX6_shots_21 : decode cX6_shots 21 = .ok (.if_icmp .ge 39, 3) := by decide +kernel
theorem dX6_shots_24 : decode cX6_shots 24 = .ok (.iload_n 3, 1) := by decide +kernel
theorem dX6_shots_25 : decode cX6_shots 25 = .ok (.ifCond .ne 23, 3) := by decide +kernel
theorem dX6_shots_28 : decode cX6_shots 28 = .ok (.aload_n 0, 1) := by decide +kernel
theorem dX6_shots_29 : decode cX6_shots 29 = .ok (.getfield 41, 3) := by decide +kernel
theorem dX6_shots_32 : decode cX6_shots 32 = .ok (.iload 4, 2) := by decide +kernel
theorem dX6_shots_34 : decode cX6_shots 34 = .ok (.iaload, 1) := by decide +kernel
theorem dX6_shots_35 : decode cX6_shots 35 = .ok (.iload_n 2, 1) := by decide +kernel
theorem dX6_shots_36 : decode cX6_shots 36 = .ok (.if_icmp .ne 16, 3) := by decide +kernel
theorem dX6_shots_39 : decode cX6_shots 39 = .ok (.aload_n 0, 1) := by decide +kernel
theorem dX6_shots_40 : decode cX6_shots 40 = .ok (.iload 4, 2) := by decide +kernel
theorem dX6_shots_42 : decode cX6_shots 42 = .ok (.invokevirtual 141, 3) := by decide +kernel
theorem dX6_shots_45 : decode cX6_shots 45 = .ok (.ifCond .eq 7, 3) := by decide +kernel
theorem dX6_shots_48 : decode cX6_shots 48 = .ok (.iconst 1, 1) := by decide +kernel
theorem dX6_shots_49 : decode cX6_shots 49 = .ok (.goto 4, 3) := by decide +kernel
theorem dX6_shots_52 : decode cX6_shots 52 = .ok (.iconst 0, 1) := by decide +kernel
theorem dX6_shots_53 : decode cX6_shots 53 = .ok (.istore_n 3, 1) := by decide +kernel
theorem dX6_shots_54 : decode cX6_shots 54 = .ok (.iinc 4 1, 3) := by decide +kernel
theorem dX6_shots_57 : decode cX6_shots 57 = .ok (.goto (-42), 3) := by decide +kernel
theorem dX6_shots_60 : decode cX6_shots 60 = .ok (.iload_n 3, 1) := by decide +kernel
theorem dX6_shots_61 : decode cX6_shots 61 = .ok (.ifCond .ne 6, 3) := by decide +kernel
theorem dX6_shots_64 : decode cX6_shots 64 = .ok (.goto 95, 3) := by decide +kernel
theorem dX6_shots_67 : decode cX6_shots 67 = .ok (.aload_n 0, 1) := by decide +kernel
theorem dX6_shots_68 : decode cX6_shots 68 = .ok (.getfield 9, 3) := by decide +kernel
theorem dX6_shots_71 : decode cX6_shots 71 = .ok (.iload_n 2, 1) := by decide +kernel
theorem dX6_shots_72 : decode cX6_shots 72 = .ok (.iaload, 1) := by decide +kernel
theorem dX6_shots_73 : decode cX6_shots 73 = .ok (.istore 4, 2) := by decide +kernel
theorem dX6_shots_75 : decode cX6_shots 75 = .ok (.aload_n 0, 1) := by decide +kernel
theorem dX6_shots_76 : decode cX6_shots 76 = .ok (.getfield 9, 3) := by decide +kernel
theorem dX6_shots_79 : decode cX6_shots 79 = .ok (.iload_n 2, 1) := by decide +kernel
theorem dX6_shots_80 : decode cX6_shots 80 = .ok (.aload_n 0, 1) := by decide +kernel
theorem dX6_shots_81 : decode cX6_shots 81 = .ok (.iload_n 2, 1) := by decide +kernel
theorem dX6_shots_82 : decode cX6_shots 82 = .ok (.invokevirtual 117, 3) := by decide +kernel
theorem dX6_shots_85 : decode cX6_shots 85 = .ok (.iconst 1, 1) := by decide +kernel
theorem dX6_shots_86 : decode cX6_shots 86 = .ok (.iadd, 1) := by decide +kernel
theorem dX6_shots_87 : decode cX6_shots 87 = .ok (.iastore, 1) := by decide +kernel
theorem dX6_shots_88 : decode cX6_shots 88 = .ok (.iconst 0, 1) := by decide +kernel
theorem dX6_shots_89 : decode cX6_shots 89 = .ok (.istore 5, 2) := by decide +kernel
theorem dX6_shots_91 : decode cX6_shots 91 = .ok (.iconst 0, 1) := by decide +kernel
theorem dX6_shots_92 : decode cX6_shots 92 = .ok (.istore 6, 2) := by decide +kernel
theorem dX6_shots_94 : decode cX6_shots 94 = .ok (.iload 6, 2) := by decide +kernel
theorem dX6_shots_96 : decode cX6_shots 96 = .ok (.aload_n 0, 1) := by decide +kernel
theorem dX6_shots_97 : decode cX6_shots 97 = .ok (.getfield 138, 3) := by decide +kernel
theorem dX6_shots_100 : decode cX6_shots 100 = .ok (.if_icmp .ge 41, 3) := by decide +kernel
theorem dX6_shots_103 : decode cX6_shots 103 = .ok (.iload 5, 2) := by decide +kernel
theorem dX6_shots_105 : decode cX6_shots 105 = .ok (.ifCond .ne 23, 3) := by decide +kernel
theorem dX6_shots_108 : decode cX6_shots 108 = .ok (.aload_n 0, 1) := by decide +kernel
theorem dX6_shots_109 : decode cX6_shots 109 = .ok (.getfield 41, 3) := by decide +kernel
theorem dX6_shots_112 : decode cX6_shots 112 = .ok (.iload 6, 2) := by decide +kernel
theorem dX6_shots_114 : decode cX6_shots 114 = .ok (.iaload, 1) := by decide +kernel
theorem dX6_shots_115 : decode cX6_shots 115 = .ok (.iload_n 2, 1) := by decide +kernel
theorem dX6_shots_116 : decode cX6_shots 116 = .ok (.if_icmp .ne 16, 3) := by decide +kernel
theorem dX6_shots_119 : decode cX6_shots 119 = .ok (.aload_n 0, 1) := by decide +kernel
theorem dX6_shots_120 : decode cX6_shots 120 = .ok (.iload 6, 2) := by decide +kernel
theorem dX6_shots_122 : decode cX6_shots 122 = .ok (.invokevirtual 141, 3) := by decide +kernel
theorem dX6_shots_125 : decode cX6_shots 125 = .ok (.ifCond .eq 7, 3) := by decide +kernel
theorem dX6_shots_128 : decode cX6_shots 128 = .ok (.iconst 1, 1) := by decide +kernel
theorem dX6_shots_129 : decode cX6_shots 129 = .ok (.goto 4, 3) := by decide +kernel
theorem dX6_shots_132 : decode cX6_shots 132 = .ok (.iconst 0, 1) := by decide +kernel
theorem dX6_shots_133 : decode cX6_shots 133 = .ok (.istore 5, 2) := by decide +kernel
theorem dX6_shots_135 : decode cX6_shots 135 = .ok (.iinc 6 1, 3) := by decide +kernel
theorem dX6_shots_138 : decode cX6_shots 138 = .ok (.goto (-44), 3) := by decide +kernel
theorem dX6_shots_141 : decode cX6_shots 141 = .ok (.aload_n 0, 1) := by decide +kernel
theorem dX6_shots_142 : decode cX6_shots 142 = .ok (.getfield 9, 3) := by decide +kernel
theorem dX6_shots_145 : decode cX6_shots 145 = .ok (.iload_n 2, 1) := by decide +kernel
theorem dX6_shots_146 : decode cX6_shots 146 = .ok (.iload 4, 2) := by decide +kernel
theorem dX6_shots_148 : decode cX6_shots 148 = .ok (.iastore, 1) := by decide +kernel
theorem dX6_shots_149 : decode cX6_shots 149 = .ok (.iload 5, 2) := by decide +kernel
theorem dX6_shots_151 : decode cX6_shots 151 = .ok (.ifCond .eq 5, 3) := by decide +kernel
theorem dX6_shots_154 : decode cX6_shots 154 = .ok (.iconst (-1), 1) := by decide +kernel
theorem dX6_shots_155 : decode cX6_shots 155 = .ok (.ireturn, 1) := by decide +kernel
theorem dX6_shots_156 : decode cX6_shots 156 = .ok (.iinc 1 1, 3) := by decide +kernel
theorem dX6_shots_159 : decode cX6_shots 159 = .ok (.iinc 2 1, 3) := by decide +kernel
theorem dX6_shots_162 : decode cX6_shots 162 = .ok (.goto (-158), 3) := by decide +kernel
theorem dX6_shots_165 : decode cX6_shots 165 = .ok (.iload_n 1, 1) := by decide +kernel
theorem dX6_shots_166 : decode cX6_shots 166 = .ok (.ireturn, 1) := by decide +kernel
theorem dX6_pit_0 : decode cX6_pit 0 = .ok (.aload_n 0, 1) := by decide +kernel
theorem dX6_pit_1 : decode cX6_pit 1 = .ok (.getfield 144, 3) := by decide +kernel
theorem dX6_pit_4 : decode cX6_pit 4 = .ok (.istore_n 1, 1) := by decide +kernel
theorem dX6_pit_5 : decode cX6_pit 5 = .ok (.aload_n 0, 1) := by decide +kernel
theorem dX6_pit_6 : decode cX6_pit 6 = .ok (.iconst 0, 1) := by decide +kernel
theorem dX6_pit_7 : decode cX6_pit 7 = .ok (.putfield 144, 3) := by decide +kernel
theorem dX6_pit_10 : decode cX6_pit 10 = .ok (.iload_n 1, 1) := by decide +kernel
theorem dX6_pit_11 : decode cX6_pit 11 = .ok (.ireturn, 1) := by decide +kernel
theorem dX6_seen_0 : decode cX6_seen 0 = .ok (.iload_n 1, 1) := by decide +kernel
theorem dX6_seen_1 : decode cX6_seen 1 = .ok (.iconst 0, 1) := by decide +kernel
theorem dX6_seen_2 : decode cX6_seen 2 = .ok (.iconst 3, 1) := by decide +kernel
theorem dX6_seen_3 : decode cX6_seen 3 = .ok (.invokestatic 56, 3) := by decide +kernel
theorem dX6_seen_6 : decode cX6_seen 6 = .ok (.ifCond .eq 23, 3) := by decide +kernel
theorem dX6_seen_9 : decode cX6_seen 9 = .ok (.iload_n 2, 1) := by decide +kernel
theorem dX6_seen_10 : decode cX6_seen 10 = .ok (.iconst 1, 1) := by decide +kernel
theorem dX6_seen_11 : decode cX6_seen 11 = .ok (.sipush 9999, 3) := by decide +kernel
theorem dX6_seen_14 : decode cX6_seen 14 = .ok (.invokestatic 56, 3) := by decide +kernel
theorem dX6_seen_17 : decode cX6_seen 17 = .ok (.ifCond .eq 12, 3) := by decide +kernel
theorem dX6_seen_20 : decode cX6_seen 20 = .ok (.aload_n 0, 1) := by decide +kernel
theorem dX6_seen_21 : decode cX6_seen 21 = .ok (.getfield 144, 3) := by decide +kernel
theorem dX6_seen_24 : decode cX6_seen 24 = .ok (.bipush 6, 2) := by decide +kernel
theorem dX6_seen_26 : decode cX6_seen 26 = .ok (.if_icmp .ne 5, 3) := by decide +kernel
theorem dX6_seen_29 : decode cX6_seen 29 = .ok (.iconst (-1), 1) := by decide +kernel
theorem dX6_seen_30 : decode cX6_seen 30 = .ok (.ireturn, 1) := by decide +kernel
theorem dX6_seen_31 : decode cX6_seen 31 = .ok (.aload_n 0, 1) := by decide +kernel
theorem dX6_seen_32 : decode cX6_seen 32 = .ok (.getfield 47, 3) := by decide +kernel
theorem dX6_seen_35 : decode cX6_seen 35 = .ok (.aload_n 0, 1) := by decide +kernel
theorem dX6_seen_36 : decode cX6_seen 36 = .ok (.getfield 144, 3) := by decide +kernel
theorem dX6_seen_39 : decode cX6_seen 39 = .ok (.iload_n 1, 1) := by decide +kernel
theorem dX6_seen_40 : decode cX6_seen 40 = .ok (.iastore, 1) := by decide +kernel
theorem dX6_seen_41 : decode cX6_seen 41 = .ok (.aload_n 0, 1) := by decide +kernel
theorem dX6_seen_42 : decode cX6_seen 42 = .ok (.getfield 50, 3) := by decide +kernel
theorem dX6_seen_45 : decode cX6_seen 45 = .ok (.aload_n 0, 1) := by decide +kernel
theorem dX6_seen_46 : decode cX6_seen 46 = .ok (.getfield 144, 3) := by decide +kernel
theorem dX6_seen_49 : decode cX6_seen 49 = .ok (.iload_n 2, 1) := by decide +kernel
theorem dX6_seen_50 : decode cX6_seen 50 = .ok (.iastore, 1) := by decide +kernel
theorem dX6_seen_51 : decode cX6_seen 51 = .ok (.aload_n 0, 1) := by decide +kernel
theorem dX6_seen_52 : decode cX6_seen 52 = .ok (.dup, 1) := by decide +kernel
theorem dX6_seen_53 : decode cX6_seen 53 = .ok (.getfield 144, 3) := by decide +kernel
theorem dX6_seen_56 : decode cX6_seen 56 = .ok (.iconst 1, 1) := by decide +kernel
theorem dX6_seen_57 : decode cX6_seen 57 = .ok (.iadd, 1) := by decide +kernel
theorem dX6_seen_58 : decode cX6_seen 58 = .ok (.putfield 144, 3) := by decide +kernel
theorem dX6_seen_61 : decode cX6_seen 61 = .ok (.aload_n 0, 1) := by decide +kernel
theorem dX6_seen_62 : decode cX6_seen 62 = .ok (.getfield 144, 3) := by decide +kernel
theorem dX6_seen_65 : decode cX6_seen 65 = .ok (.ireturn, 1) := by decide +kernel
theorem dX6_matched_0 : decode cX6_matched 0 = .ok (.iload_n 1, 1) := by decide +kernel
theorem dX6_matched_1 : decode cX6_matched 1 = .ok (.invokestatic 111, 3) := by decide +kernel
theorem dX6_matched_4 : decode cX6_matched 4 = .ok (.ifCond .ne 5, 3) := by decide +kernel
theorem dX6_matched_7 : decode cX6_matched 7 = .ok (.iconst (-1), 1) := by decide +kernel
theorem dX6_matched_8 : decode cX6_matched 8 = .ok (.ireturn, 1) := by decide +kernel
theorem dX6_matched_9 : decode cX6_matched 9 = .ok (.aload_n 0, 1) := by decide +kernel
theorem dX6_matched_10 : decode cX6_matched 10 = .ok (.getfield 9, 3) := by decide +kernel
theorem dX6_matched_13 : decode cX6_matched 13 = .ok (.iload_n 1, 1) := by decide +kernel
theorem dX6_matched_14 : decode cX6_matched 14 = .ok (.iaload, 1) := by decide +kernel
theorem dX6_matched_15 : decode cX6_matched 15 = .ok (.istore_n 2, 1) := by decide +kernel
theorem dX6_matched_16 : decode cX6_matched 16 = .ok (.iconst 0, 1) := by decide +kernel
theorem dX6_matched_17 : decode cX6_matched 17 = .ok (.istore_n 3, 1) := by decide +kernel
theorem dX6_matched_18 : decode cX6_matched 18 = .ok (.iload_n 3, 1) := by decide +kernel
theorem dX6_matched_19 : decode cX6_matched 19 = .ok (.aload_n 0, 1) := by decide +kernel
theorem dX6_matched_20 : decode cX6_matched 20 = .ok (.getfield 144, 3) := by decide +kernel
theorem dX6_matched_23 : decode cX6_matched 23 = .ok (.if_icmp .gt 72, 3) := by decide +kernel
theorem dX6_matched_26 : decode cX6_matched 26 = .ok (.iconst 0, 1) := by decide +kernel
theorem dX6_matched_27 : decode cX6_matched 27 = .ok (.istore 4, 2) := by decide +kernel
theorem dX6_matched_29 : decode cX6_matched 29 = .ok (.iload 4, 2) := by decide +kernel
theorem dX6_matched_31 : decode cX6_matched 31 = .ok (.iload_n 2, 1) := by decide +kernel
theorem dX6_matched_32 : decode cX6_matched 32 = .ok (.if_icmp .gt 57, 3) := by decide +kernel
theorem dX6_matched_35 : decode cX6_matched 35 = .ok (.iload_n 3, 1) := by decide +kernel
theorem dX6_matched_36 : decode cX6_matched 36 = .ok (.ifCond .ne 11, 3) := by decide +kernel
theorem dX6_matched_39 : decode cX6_matched 39 = .ok (.bipush 30, 2) := by decide +kernel
theorem dX6_matched_41 : decode cX6_matched 41 = .ok (.iload 4, 2) := by decide +kernel
theorem dX6_matched_43 : decode cX6_matched 43 = .ok (.imul, 1) := by decide +kernel
theorem dX6_matched_44 : decode cX6_matched 44 = .ok (.goto 23, 3) := by decide +kernel
theorem dX6_matched_47 : decode cX6_matched 47 = .ok (.iload 4, 2) := by decide +kernel
theorem dX6_matched_49 : decode cX6_matched 49 = .ok (.ifCond .ne 10, 3) := by decide +kernel
theorem dX6_matched_52 : decode cX6_matched 52 = .ok (.bipush 30, 2) := by decide +kernel
theorem dX6_matched_54 : decode cX6_matched 54 = .ok (.iload_n 3, 1) := by decide +kernel
theorem dX6_matched_55 : decode cX6_matched 55 = .ok (.imul, 1) := by decide +kernel
theorem dX6_matched_56 : decode cX6_matched 56 = .ok (.goto 11, 3) := by decide +kernel
theorem dX6_matched_59 : decode cX6_matched 59 = .ok (.aload_n 0, 1) := by decide +kernel
theorem dX6_matched_60 : decode cX6_matched 60 = .ok (.iload_n 1, 1) := by decide +kernel
theorem dX6_matched_61 : decode cX6_matched 61 = .ok (.iload_n 3, 1) := by decide +kernel
theorem dX6_matched_62 : decode cX6_matched 62 = .ok (.iload 4, 2) := by decide +kernel
theorem dX6_matched_64 : decode cX6_matched 64 = .ok (.invokevirtual 147, 3) := by decide +kernel
theorem dX6_matched_67 : decode cX6_matched 67 = .ok (.istore 5, 2) := by decide +kernel
theorem dX6_matched_69 : decode cX6_matched 69 = .ok (.aload_n 0, 1) := by decide +kernel
theorem dX6_matched_70 : decode cX6_matched 70 = .ok (.getfield 53, 3) := by decide +kernel
theorem dX6_matched_73 : decode cX6_matched 73 = .ok (.bipush 11, 2) := by decide +kernel
theorem dX6_matched_75 : decode cX6_matched 75 = .ok (.iload_n 3, 1) := by decide +kernel
theorem dX6_matched_76 : decode cX6_matched 76 = .ok (.imul, 1) := by decide +kernel
theorem dX6_matched_77 : decode cX6_matched 77 = .ok (.iload 4, 2) := by decide +kernel
theorem dX6_matched_79 : decode cX6_matched 79 = .ok (.iadd, 1) := by decide +kernel
theorem dX6_matched_80 : decode cX6_matched 80 = .ok (.iload 5, 2) := by decide +kernel
theorem dX6_matched_82 : decode cX6_matched 82 = .ok (.iastore, 1) := by decide +kernel
theorem dX6_matched_83 : decode cX6_matched 83 = .ok (.iinc 4 1, 3) := by decide +kernel
theorem dX6_matched_86 : decode cX6_matched 86 = .ok (.goto (-57), 3) := by decide +kernel
theorem dX6_matched_89 : decode cX6_matched 89 = .ok (.iinc 3 1, 3) := by decide +kernel
theorem dX6_matched_92 : decode cX6_matched 92 = .ok (.goto (-74), 3) := by decide +kernel
theorem dX6_matched_95 : decode cX6_matched 95 = .ok (.aload_n 0, 1) := by decide +kernel
theorem dX6_matched_96 : decode cX6_matched 96 = .ok (.getfield 53, 3) := by decide +kernel
theorem dX6_matched_99 : decode cX6_matched 99 = .ok (.bipush 11, 2) := by decide +kernel
theorem dX6_matched_101 : decode cX6_matched 101 = .ok (.aload_n 0, 1) := by decide +kernel
theorem dX6_matched_102 : decode cX6_matched 102 = .ok (.getfield 144, 3) := by decide +kernel
theorem dX6_matched_105 : decode cX6_matched 105 = .ok (.imul, 1) := by decide +kernel
theorem dX6_matched_106 : decode cX6_matched 106 = .ok (.iload_n 2, 1) := by decide +kernel
theorem dX6_matched_107 : decode cX6_matched 107 = .ok (.iadd, 1) := by decide +kernel
theorem dX6_matched_108 : decode cX6_matched 108 = .ok (.iaload, 1) := by decide +kernel
theorem dX6_matched_109 : decode cX6_matched 109 = .ok (.ireturn, 1) := by decide +kernel
theorem dX6_pairs_0 : decode cX6_pairs 0 = .ok (.bipush 10, 2) := by decide +kernel
theorem dX6_pairs_2 : decode cX6_pairs 2 = .ok (.iload_n 1, 1) := by decide +kernel
theorem dX6_pairs_3 : decode cX6_pairs 3 = .ok (.imul, 1) := by decide +kernel
theorem dX6_pairs_4 : decode cX6_pairs 4 = .ok (.aload_n 0, 1) := by decide +kernel
theorem dX6_pairs_5 : decode cX6_pairs 5 = .ok (.getfield 9, 3) := by decide +kernel
theorem dX6_pairs_8 : decode cX6_pairs 8 = .ok (.iload_n 1, 1) := by decide +kernel
theorem dX6_pairs_9 : decode cX6_pairs 9 = .ok (.iaload, 1) := by decide +kernel
theorem dX6_pairs_10 : decode cX6_pairs 10 = .ok (.iadd, 1) := by decide +kernel
theorem dX6_pairs_11 : decode cX6_pairs 11 = .ok (.iload_n 3, 1) := by decide +kernel
theorem dX6_pairs_12 : decode cX6_pairs 12 = .ok (.isub, 1) := by decide +kernel
theorem dX6_pairs_13 : decode cX6_pairs 13 = .ok (.istore 4, 2) := by decide +kernel
theorem dX6_pairs_15 : decode cX6_pairs 15 = .ok (.aload_n 0, 1) := by decide +kernel
theorem dX6_pairs_16 : decode cX6_pairs 16 = .ok (.getfield 16, 3) := by decide +kernel
theorem dX6_pairs_19 : decode cX6_pairs 19 = .ok (.iload 4, 2) := by decide +kernel
theorem dX6_pairs_21 : decode cX6_pairs 21 = .ok (.iaload, 1) := by decide +kernel
theorem dX6_pairs_22 : decode cX6_pairs 22 = .ok (.aload_n 0, 1) := by decide +kernel
theorem dX6_pairs_23 : decode cX6_pairs 23 = .ok (.getfield 50, 3) := by decide +kernel
theorem dX6_pairs_26 : decode cX6_pairs 26 = .ok (.iload_n 2, 1) := by decide +kernel
theorem dX6_pairs_27 : decode cX6_pairs 27 = .ok (.iconst 1, 1) := by decide +kernel
theorem dX6_pairs_28 : decode cX6_pairs 28 = .ok (.isub, 1) := by decide +kernel
theorem dX6_pairs_29 : decode cX6_pairs 29 = .ok (.iaload, 1) := by decide +kernel
theorem dX6_pairs_30 : decode cX6_pairs 30 = .ok (.isub, 1) := by decide +kernel
theorem dX6_pairs_31 : decode cX6_pairs 31 = .ok (.istore 5, 2) := by decide +kernel
theorem dX6_pairs_33 : decode cX6_pairs 33 = .ok (.aload_n 0, 1) := by decide +kernel
theorem dX6_pairs_34 : decode cX6_pairs 34 = .ok (.getfield 53, 3) := by decide +kernel
theorem dX6_pairs_37 : decode cX6_pairs 37 = .ok (.bipush 11, 2) := by decide +kernel
theorem dX6_pairs_39 : decode cX6_pairs 39 = .ok (.iload_n 2, 1) := by decide +kernel
theorem dX6_pairs_40 : decode cX6_pairs 40 = .ok (.iconst 1, 1) := by decide +kernel
theorem dX6_pairs_41 : decode cX6_pairs 41 = .ok (.isub, 1) := by decide +kernel
theorem dX6_pairs_42 : decode cX6_pairs 42 = .ok (.imul, 1) := by decide +kernel
theorem dX6_pairs_43 : decode cX6_pairs 43 = .ok (.iload_n 3, 1) := by decide +kernel
theorem dX6_pairs_44 : decode cX6_pairs 44 = .ok (.iadd, 1) := by decide +kernel
theorem dX6_pairs_45 : decode cX6_pairs 45 = .ok (.iconst 1, 1) := by decide +kernel
theorem dX6_pairs_46 : decode cX6_pairs 46 = .ok (.isub, 1) := by decide +kernel
theorem dX6_pairs_47 : decode cX6_pairs 47 = .ok (.iaload, 1) := by decide +kernel
theorem dX6_pairs_48 : decode cX6_pairs 48 = .ok (.iload 5, 2) := by decide +kernel
theorem dX6_pairs_50 : decode cX6_pairs 50 = .ok (.ifCond .ge 9, 3) := by decide +kernel
theorem dX6_pairs_53 : decode cX6_pairs 53 = .ok (.iload 5, 2) := by decide +kernel
theorem dX6_pairs_55 : decode cX6_pairs 55 = .ok (.ineg, 1) := by decide +kernel
theorem dX6_pairs_56 : decode cX6_pairs 56 = .ok (.goto 5, 3) := by decide +kernel
theorem dX6_pairs_59 : decode cX6_pairs 59 = .ok (.iload 5, 2) := by decide +kernel
theorem dX6_pairs_61 : decode cX6_pairs 61 = .ok (.bipush 10, 2) := by decide +kernel
theorem dX6_pairs_63 : decode cX6_pairs 63 = .ok (.idiv, 1) := by decide +kernel
theorem dX6_pairs_64 : decode cX6_pairs 64 = .ok (.iadd, 1) := by decide +kernel
theorem dX6_pairs_65 : decode cX6_pairs 65 = .ok (.aload_n 0, 1) := by decide +kernel
theorem dX6_pairs_66 : decode cX6_pairs 66 = .ok (.getfield 13, 3) := by decide +kernel
theorem dX6_pairs_69 : decode cX6_pairs 69 = .ok (.iload 4, 2) := by decide +kernel
theorem dX6_pairs_71 : decode cX6_pairs 71 = .ok (.iaload, 1) := by decide +kernel
theorem dX6_pairs_72 : decode cX6_pairs 72 = .ok (.aload_n 0, 1) := by decide +kernel
theorem dX6_pairs_73 : decode cX6_pairs 73 = .ok (.getfield 47, 3) := by decide +kernel
theorem dX6_pairs_76 : decode cX6_pairs 76 = .ok (.iload_n 2, 1) := by decide +kernel
theorem dX6_pairs_77 : decode cX6_pairs 77 = .ok (.iconst 1, 1) := by decide +kernel
theorem dX6_pairs_78 : decode cX6_pairs 78 = .ok (.isub, 1) := by decide +kernel
theorem dX6_pairs_79 : decode cX6_pairs 79 = .ok (.iaload, 1) := by decide +kernel
theorem dX6_pairs_80 : decode cX6_pairs 80 = .ok (.if_icmp .ne 7, 3) := by decide +kernel
theorem dX6_pairs_83 : decode cX6_pairs 83 = .ok (.iconst 0, 1) := by decide +kernel
theorem dX6_pairs_84 : decode cX6_pairs 84 = .ok (.goto 5, 3) := by decide +kernel
theorem dX6_pairs_87 : decode cX6_pairs 87 = .ok (.bipush 40, 2) := by decide +kernel
theorem dX6_pairs_89 : decode cX6_pairs 89 = .ok (.iadd, 1) := by decide +kernel
theorem dX6_pairs_90 : decode cX6_pairs 90 = .ok (.istore 6, 2) := by decide +kernel
theorem dX6_pairs_92 : decode cX6_pairs 92 = .ok (.aload_n 0, 1) := by decide +kernel
theorem dX6_pairs_93 : decode cX6_pairs 93 = .ok (.getfield 53, 3) := by decide +kernel
theorem dX6_pairs_96 : decode cX6_pairs 96 = .ok (.bipush 11, 2) := by decide +kernel
theorem dX6_pairs_98 : decode cX6_pairs 98 = .ok (.iload_n 2, 1) := by decide +kernel
theorem dX6_pairs_99 : decode cX6_pairs 99 = .ok (.iconst 1, 1) := by decide +kernel
theorem dX6_pairs_100 : decode cX6_pairs 100 = .ok (.isub, 1) := by decide +kernel
theorem dX6_pairs_101 : decode cX6_pairs 101 = .ok (.imul, 1) := by decide +kernel
theorem dX6_pairs_102 : decode cX6_pairs 102 = .ok (.iload_n 3, 1) := by decide +kernel
theorem dX6_pairs_103 : decode cX6_pairs 103 = .ok (.iadd, 1) := by decide +kernel
theorem dX6_pairs_104 : decode cX6_pairs 104 = .ok (.iaload, 1) := by decide +kernel
theorem dX6_pairs_105 : decode cX6_pairs 105 = .ok (.bipush 30, 2) := by decide +kernel
theorem dX6_pairs_107 : decode cX6_pairs 107 = .ok (.iadd, 1) := by decide +kernel
theorem dX6_pairs_108 : decode cX6_pairs 108 = .ok (.istore 7, 2) := by decide +kernel
theorem dX6_pairs_110 : decode cX6_pairs 110 = .ok (.aload_n 0, 1) := by decide +kernel
theorem dX6_pairs_111 : decode cX6_pairs 111 = .ok (.getfield 53, 3) := by decide +kernel
theorem dX6_pairs_114 : decode cX6_pairs 114 = .ok (.bipush 11, 2) := by decide +kernel
theorem dX6_pairs_116 : decode cX6_pairs 116 = .ok (.iload_n 2, 1) := by decide +kernel
theorem dX6_pairs_117 : decode cX6_pairs 117 = .ok (.imul, 1) := by decide +kernel
theorem dX6_pairs_118 : decode cX6_pairs 118 = .ok (.iload_n 3, 1) := by decide +kernel
theorem dX6_pairs_119 : decode cX6_pairs 119 = .ok (.iadd, 1) := by decide +kernel
theorem dX6_pairs_120 : decode cX6_pairs 120 = .ok (.iconst 1, 1) := by decide +kernel
theorem dX6_pairs_121 : decode cX6_pairs 121 = .ok (.isub, 1) := by decide +kernel
theorem dX6_pairs_122 : decode cX6_pairs 122 = .ok (.iaload, 1) := by decide +kernel
theorem dX6_pairs_123 : decode cX6_pairs 123 = .ok (.bipush 30, 2) := by decide +kernel
theorem dX6_pairs_125 : decode cX6_pairs 125 = .ok (.iadd, 1) := by decide +kernel
theorem dX6_pairs_126 : decode cX6_pairs 126 = .ok (.istore 8, 2) := by decide +kernel
theorem dX6_pairs_128 : decode cX6_pairs 128 = .ok (.iload 7, 2) := by decide +kernel
theorem dX6_pairs_130 : decode cX6_pairs 130 = .ok (.iload 8, 2) := by decide +kernel
theorem dX6_pairs_132 : decode cX6_pairs 132 = .ok (.if_icmp .ge 8, 3) := by decide +kernel
theorem dX6_pairs_135 : decode cX6_pairs 135 = .ok (.iload 7, 2) := by decide +kernel
theorem dX6_pairs_137 : decode cX6_pairs 137 = .ok (.goto 5, 3) := by decide +kernel
theorem dX6_pairs_140 : decode cX6_pairs 140 = .ok (.iload 8, 2) := by decide +kernel
theorem dX6_pairs_142 : decode cX6_pairs 142 = .ok (.istore 9, 2) := by decide +kernel
theorem dX6_pairs_144 : decode cX6_pairs 144 = .ok (.iload 6, 2) := by decide +kernel
theorem dX6_pairs_146 : decode cX6_pairs 146 = .ok (.iload 9, 2) := by decide +kernel
theorem dX6_pairs_148 : decode cX6_pairs 148 = .ok (.if_icmp .ge 8, 3) := by decide +kernel
theorem dX6_pairs_151 : decode cX6_pairs 151 = .ok (.iload 6, 2) := by decide +kernel
theorem dX6_pairs_153 : decode cX6_pairs 153 = .ok (.goto 5, 3) := by decide +kernel
theorem dX6_pairs_156 : decode cX6_pairs 156 = .ok (.iload 9, 2) := by decide +kernel
theorem dX6_pairs_158 : decode cX6_pairs 158 = .ok (.ireturn, 1) := by decide +kernel
theorem dX6_nearest_0 : decode cX6_nearest 0 = .ok (.iconst 0, 1) := by decide +kernel
theorem dX6_nearest_1 : decode cX6_nearest 1 = .ok (.istore_n 1, 1) := by decide +kernel
theorem dX6_nearest_2 : decode cX6_nearest 2 = .ok (.iconst 1, 1) := by decide +kernel
theorem dX6_nearest_3 : decode cX6_nearest 3 = .ok (.istore_n 2, 1) := by decide +kernel
theorem dX6_nearest_4 : decode cX6_nearest 4 = .ok (.iload_n 2, 1) := by decide +kernel
theorem dX6_nearest_5 : decode cX6_nearest 5 = .ok (.bipush 12, 2) := by decide +kernel
theorem dX6_nearest_7 : decode cX6_nearest 7 = .ok (.if_icmp .ge 24, 3) := by decide +kernel
theorem dX6_nearest_10 : decode cX6_nearest 10 = .ok (.aload_n 0, 1) := by decide +kernel
theorem dX6_nearest_11 : decode cX6_nearest 11 = .ok (.iload_n 2, 1) := by decide +kernel
theorem dX6_nearest_12 : decode cX6_nearest 12 = .ok (.invokevirtual 151, 3) := by decide +kernel
theorem dX6_nearest_15 : decode cX6_nearest 15 = .ok (.aload_n 0, 1) := by decide +kernel
theorem dX6_nearest_16 : decode cX6_nearest 16 = .ok (.iload_n 1, 1) := by decide +kernel
theorem dX6_nearest_17 : decode cX6_nearest 17 = .ok (.invokevirtual 151, 3) := by decide +kernel
theorem dX6_nearest_20 : decode cX6_nearest 20 = .ok (.if_icmp .ge 5, 3) := by decide +kernel
theorem dX6_nearest_23 : decode cX6_nearest 23 = .ok (.iload_n 2, 1) := by decide +kernel
theorem dX6_nearest_24 : decode cX6_nearest 24 = .ok (.istore_n 1, 1) := by decide +kernel
theorem dX6_nearest_25 : decode cX6_nearest 25 = .ok (.iinc 2 1, 3) := by decide +kernel
theorem dX6_nearest_28 : decode cX6_nearest 28 = .ok (.goto (-24), 3) := by decide +kernel
theorem dX6_nearest_31 : decode cX6_nearest 31 = .ok (.iload_n 1, 1) := by decide +kernel
theorem dX6_nearest_32 : decode cX6_nearest 32 = .ok (.ireturn, 1) := by decide +kernel
theorem dX6_watch_0 : decode cX6_watch 0 = .ok (.iload_n 1, 1) := by decide +kernel
theorem dX6_watch_1 : decode cX6_watch 1 = .ok (.invokestatic 111, 3) := by decide +kernel
theorem dX6_watch_4 : decode cX6_watch 4 = .ok (.ifCond .eq 13, 3) := by decide +kernel
theorem dX6_watch_7 : decode cX6_watch 7 = .ok (.aload_n 0, 1) := by decide +kernel
theorem dX6_watch_8 : decode cX6_watch 8 = .ok (.getfield 60, 3) := by decide +kernel
theorem dX6_watch_11 : decode cX6_watch 11 = .ok (.sipush 400, 3) := by decide +kernel
theorem dX6_watch_14 : decode cX6_watch 14 = .ok (.if_icmp .ne 5, 3) := by decide +kernel
theorem dX6_watch_17 : decode cX6_watch 17 = .ok (.iconst (-1), 1) := by decide +kernel
theorem dX6_watch_18 : decode cX6_watch 18 = .ok (.ireturn, 1) := by decide +kernel
theorem dX6_watch_19 : decode cX6_watch 19 = .ok (.aload_n 0, 1) := by decide +kernel
theorem dX6_watch_20 : decode cX6_watch 20 = .ok (.iload_n 1, 1) := by decide +kernel
theorem dX6_watch_21 : decode cX6_watch 21 = .ok (.invokevirtual 129, 3) := by decide +kernel
theorem dX6_watch_24 : decode cX6_watch 24 = .ok (.istore_n 2, 1) := by decide +kernel
theorem dX6_watch_25 : decode cX6_watch 25 = .ok (.aload_n 0, 1) := by decide +kernel
theorem dX6_watch_26 : decode cX6_watch 26 = .ok (.getfield 35, 3) := by decide +kernel
theorem dX6_watch_29 : decode cX6_watch 29 = .ok (.iload_n 1, 1) := by decide +kernel
theorem dX6_watch_30 : decode cX6_watch 30 = .ok (.iaload, 1) := by decide +kernel
theorem dX6_watch_31 : decode cX6_watch 31 = .ok (.ifCond .ne 10, 3) := by decide +kernel
theorem dX6_watch_34 : decode cX6_watch 34 = .ok (.aload_n 0, 1) := by decide +kernel
theorem dX6_watch_35 : decode cX6_watch 35 = .ok (.getfield 35, 3) := by decide +kernel
theorem dX6_watch_38 : decode cX6_watch 38 = .ok (.iload_n 1, 1) := by decide +kernel
theorem dX6_watch_39 : decode cX6_watch 39 = .ok (.iload_n 2, 1) := by decide +kernel
theorem dX6_watch_40 : decode cX6_watch 40 = .ok (.iastore, 1) := by decide +kernel
theorem dX6_watch_41 : decode cX6_watch 41 = .ok (.iload_n 2, 1) := by decide +kernel
theorem dX6_watch_42 : decode cX6_watch 42 = .ok (.ireturn, 1) := by decide +kernel
theorem dX6_right_0 : decode cX6_right 0 = .ok (.iload_n 1, 1) := by decide +kernel
theorem dX6_right_1 : decode cX6_right 1 = .ok (.iconst 0, 1) := by decide +kernel
theorem dX6_right_2 : decode cX6_right 2 = .ok (.iconst 3, 1) := by decide +kernel
theorem dX6_right_3 : decode cX6_right 3 = .ok (.invokestatic 56, 3) := by decide +kernel
theorem dX6_right_6 : decode cX6_right 6 = .ok (.ifCond .eq 12, 3) := by decide +kernel
theorem dX6_right_9 : decode cX6_right 9 = .ok (.aload_n 0, 1) := by decide +kernel
theorem dX6_right_10 : decode cX6_right 10 = .ok (.getfield 38, 3) := by decide +kernel
theorem dX6_right_13 : decode cX6_right 13 = .ok (.iload_n 1, 1) := by decide +kernel
theorem dX6_right_14 : decode cX6_right 14 = .ok (.iaload, 1) := by decide +kernel
theorem dX6_right_15 : decode cX6_right 15 = .ok (.goto 4, 3) := by decide +kernel
theorem dX6_right_18 : decode cX6_right 18 = .ok (.iconst (-1), 1) := by decide +kernel
theorem dX6_right_19 : decode cX6_right 19 = .ok (.ireturn, 1) := by decide +kernel
theorem dX6_count_0 : decode cX6_count 0 = .ok (.iconst 0, 1) := by decide +kernel
theorem dX6_count_1 : decode cX6_count 1 = .ok (.istore_n 2, 1) := by decide +kernel
theorem dX6_count_2 : decode cX6_count 2 = .ok (.iload_n 1, 1) := by decide +kernel
theorem dX6_count_3 : decode cX6_count 3 = .ok (.tableswitch 134 0 7 #[45, 50, 74, 79, 84, 89, 124, 129], 45) := by decide +kernel
theorem dX6_count_48 : decode cX6_count 48 = .ok (.aload_n 0, 1) := by decide +kernel
theorem dX6_count_49 : decode cX6_count 49 = .ok (.getfield 60, 3) := by decide +kernel
theorem dX6_count_52 : decode cX6_count 52 = .ok (.ireturn, 1) := by decide +kernel
theorem dX6_count_53 : decode cX6_count 53 = .ok (.iconst 0, 1) := by decide +kernel
theorem dX6_count_54 : decode cX6_count 54 = .ok (.istore_n 3, 1) := by decide +kernel
theorem dX6_count_55 : decode cX6_count 55 = .ok (.iload_n 3, 1) := by decide +kernel
theorem dX6_count_56 : decode cX6_count 56 = .ok (.bipush 12, 2) := by decide +kernel
theorem dX6_count_58 : decode cX6_count 58 = .ok (.if_icmp .ge 17, 3) := by decide +kernel
theorem dX6_count_61 : decode cX6_count 61 = .ok (.iload_n 2, 1) := by decide +kernel
theorem dX6_count_62 : decode cX6_count 62 = .ok (.aload_n 0, 1) := by decide +kernel
theorem dX6_count_63 : decode cX6_count 63 = .ok (.iload_n 3, 1) := by decide +kernel
theorem dX6_count_64 : decode cX6_count 64 = .ok (.invokevirtual 126, 3) := by decide +kernel
theorem dX6_count_67 : decode cX6_count 67 = .ok (.iadd, 1) := by decide +kernel
theorem dX6_count_68 : decode cX6_count 68 = .ok (.istore_n 2, 1) := by decide +kernel
theorem dX6_count_69 : decode cX6_count 69 = .ok (.iinc 3 1, 3) := by decide +kernel
theorem dX6_count_72 : decode cX6_count 72 = .ok (.goto (-17), 3) := by decide +kernel
theorem dX6_count_75 : decode cX6_count 75 = .ok (.iload_n 2, 1) := by decide +kernel
theorem dX6_count_76 : decode cX6_count 76 = .ok (.ireturn, 1) := by decide +kernel
theorem dX6_count_77 : decode cX6_count 77 = .ok (.aload_n 0, 1) := by decide +kernel
theorem dX6_count_78 : decode cX6_count 78 = .ok (.getfield 91, 3) := by decide +kernel
theorem dX6_count_81 : decode cX6_count 81 = .ok (.ireturn, 1) := by decide +kernel
theorem dX6_count_82 : decode cX6_count 82 = .ok (.aload_n 0, 1) := by decide +kernel
theorem dX6_count_83 : decode cX6_count 83 = .ok (.getfield 82, 3) := by decide +kernel
theorem dX6_count_86 : decode cX6_count 86 = .ok (.ireturn, 1) := by decide +kernel
theorem dX6_count_87 : decode cX6_count 87 = .ok (.aload_n 0, 1) := by decide +kernel
theorem dX6_count_88 : decode cX6_count 88 = .ok (.getfield 132, 3) := by decide +kernel
theorem dX6_count_91 : decode cX6_count 91 = .ok (.ireturn, 1) := by decide +kernel
theorem dX6_count_92 : decode cX6_count 92 = .ok (.iconst 0, 1) := by decide +kernel
theorem dX6_count_93 : decode cX6_count 93 = .ok (.istore_n 3, 1) := by decide +kernel
theorem dX6_count_94 : decode cX6_count 94 = .ok (.iload_n 3, 1) := by decide +kernel
theorem dX6_count_95 : decode cX6_count 95 = .ok (.bipush 12, 2) := by decide +kernel
theorem dX6_count_97 : decode cX6_count 97 = .ok (.if_icmp .ge 28, 3) := by decide +kernel
theorem dX6_count_100 : decode cX6_count 100 = .ok (.aload_n 0, 1) := by decide +kernel
theorem dX6_count_101 : decode cX6_count 101 = .ok (.iload_n 3, 1) := by decide +kernel
theorem dX6_count_102 : decode cX6_count 102 = .ok (.invokevirtual 129, 3) := by decide +kernel
theorem dX6_count_105 : decode cX6_count 105 = .ok (.iload_n 2, 1) := by decide +kernel
theorem dX6_count_106 : decode cX6_count 106 = .ok (.if_icmp .le 11, 3) := by decide +kernel
theorem dX6_count_109 : decode cX6_count 109 = .ok (.aload_n 0, 1) := by decide +kernel
theorem dX6_count_110 : decode cX6_count 110 = .ok (.iload_n 3, 1) := by decide +kernel
theorem dX6_count_111 : decode cX6_count 111 = .ok (.invokevirtual 129, 3) := by decide +kernel
theorem dX6_count_114 : decode cX6_count 114 = .ok (.goto 4, 3) := by decide +kernel
theorem dX6_count_117 : decode cX6_count 117 = .ok (.iload_n 2, 1) := by decide +kernel
theorem dX6_count_118 : decode cX6_count 118 = .ok (.istore_n 2, 1) := by decide +kernel
theorem dX6_count_119 : decode cX6_count 119 = .ok (.iinc 3 1, 3) := by decide +kernel
theorem dX6_count_122 : decode cX6_count 122 = .ok (.goto (-28), 3) := by decide +kernel
theorem dX6_count_125 : decode cX6_count 125 = .ok (.iload_n 2, 1) := by decide +kernel
theorem dX6_count_126 : decode cX6_count 126 = .ok (.ireturn, 1) := by decide +kernel
theorem dX6_count_127 : decode cX6_count 127 = .ok (.aload_n 0, 1) := by decide +kernel
theorem dX6_count_128 : decode cX6_count 128 = .ok (.getfield 138, 3) := by decide +kernel
theorem dX6_count_131 : decode cX6_count 131 = .ok (.ireturn, 1) := by decide +kernel
theorem dX6_count_132 : decode cX6_count 132 = .ok (.aload_n 0, 1) := by decide +kernel
theorem dX6_count_133 : decode cX6_count 133 = .ok (.getfield 144, 3) := by decide +kernel
theorem dX6_count_136 : decode cX6_count 136 = .ok (.ireturn, 1) := by decide +kernel
theorem dX6_count_137 : decode cX6_count 137 = .ok (.iconst (-1), 1) := by decide +kernel
theorem dX6_count_138 : decode cX6_count 138 = .ok (.ireturn, 1) := by decide +kernel
theorem dJ9_abs_0f7a4_0 : decode cJ9_abs_0f7a4 0 = .ok (.iload_n 0, 1) := by decide +kernel
theorem dJ9_abs_0f7a4_1 : decode cJ9_abs_0f7a4 1 = .ok (.ifCond .ge 8, 3) := by decide +kernel
theorem dJ9_abs_0f7a4_4 : decode cJ9_abs_0f7a4 4 = .ok (.iload_n 0, 1) := by decide +kernel
theorem dJ9_abs_0f7a4_5 : decode cJ9_abs_0f7a4 5 = .ok (.ineg, 1) := by decide +kernel
theorem dJ9_abs_0f7a4_6 : decode cJ9_abs_0f7a4 6 = .ok (.goto 4, 3) := by decide +kernel
theorem dJ9_abs_0f7a4_9 : decode cJ9_abs_0f7a4 9 = .ok (.iload_n 0, 1) := by decide +kernel
theorem dJ9_abs_0f7a4_10 : decode cJ9_abs_0f7a4 10 = .ok (.ireturn, 1) := by decide +kernel
theorem dJ9_max_7cf53_0 : decode cJ9_max_7cf53 0 = .ok (.iload_n 0, 1) := by decide +kernel
theorem dJ9_max_7cf53_1 : decode cJ9_max_7cf53 1 = .ok (.iload_n 1, 1) := by decide +kernel
theorem dJ9_max_7cf53_2 : decode cJ9_max_7cf53 2 = .ok (.if_icmp .lt 7, 3) := by decide +kernel
theorem dJ9_max_7cf53_5 : decode cJ9_max_7cf53 5 = .ok (.iload_n 0, 1) := by decide +kernel
theorem dJ9_max_7cf53_6 : decode cJ9_max_7cf53 6 = .ok (.goto 4, 3) := by decide +kernel
theorem dJ9_max_7cf53_9 : decode cJ9_max_7cf53 9 = .ok (.iload_n 1, 1) := by decide +kernel
theorem dJ9_max_7cf53_10 : decode cJ9_max_7cf53 10 = .ok (.ireturn, 1) := by decide +kernel
theorem dJ9_min_7cf53_0 : decode cJ9_min_7cf53 0 = .ok (.iload_n 0, 1) := by decide +kernel
theorem dJ9_min_7cf53_1 : decode cJ9_min_7cf53 1 = .ok (.iload_n 1, 1) := by decide +kernel
theorem dJ9_min_7cf53_2 : decode cJ9_min_7cf53 2 = .ok (.if_icmp .gt 7, 3) := by decide +kernel
theorem dJ9_min_7cf53_5 : decode cJ9_min_7cf53 5 = .ok (.iload_n 0, 1) := by decide +kernel
theorem dJ9_min_7cf53_6 : decode cJ9_min_7cf53 6 = .ok (.goto 4, 3) := by decide +kernel
theorem dJ9_min_7cf53_9 : decode cJ9_min_7cf53 9 = .ok (.iload_n 1, 1) := by decide +kernel
theorem dJ9_min_7cf53_10 : decode cJ9_min_7cf53 10 = .ok (.ireturn, 1) := by decide +kernel
theorem dL_law_0 : decode cL_law 0 = .ok (.new 7, 3) := by decide +kernel
theorem dL_law_3 : decode cL_law 3 = .ok (.dup, 1) := by decide +kernel
theorem dL_law_4 : decode cL_law 4 = .ok (.invokespecial 9, 3) := by decide +kernel
theorem dL_law_7 : decode cL_law 7 = .ok (.astore_n 1, 1) := by decide +kernel
theorem dL_law_8 : decode cL_law 8 = .ok (.new 10, 3) := by decide +kernel
theorem dL_law_11 : decode cL_law 11 = .ok (.dup, 1) := by decide +kernel
theorem dL_law_12 : decode cL_law 12 = .ok (.invokespecial 12, 3) := by decide +kernel
theorem dL_law_15 : decode cL_law 15 = .ok (.astore_n 2, 1) := by decide +kernel
theorem dL_law_16 : decode cL_law 16 = .ok (.iconst 0, 1) := by decide +kernel
theorem dL_law_17 : decode cL_law 17 = .ok (.istore_n 3, 1) := by decide +kernel
theorem dL_law_18 : decode cL_law 18 = .ok (.iload_n 3, 1) := by decide +kernel
theorem dL_law_19 : decode cL_law 19 = .ok (.aload_n 0, 1) := by decide +kernel
theorem dL_law_20 : decode cL_law 20 = .ok (.arraylength, 1) := by decide +kernel
theorem dL_law_21 : decode cL_law 21 = .ok (.iconst 4, 1) := by decide +kernel
theorem dL_law_22 : decode cL_law 22 = .ok (.isub, 1) := by decide +kernel
theorem dL_law_23 : decode cL_law 23 = .ok (.if_icmp .gt 567, 3) := by decide +kernel
theorem dL_law_26 : decode cL_law 26 = .ok (.aload_n 0, 1) := by decide +kernel
theorem dL_law_27 : decode cL_law 27 = .ok (.iload_n 3, 1) := by decide +kernel
theorem dL_law_28 : decode cL_law 28 = .ok (.iaload, 1) := by decide +kernel
theorem dL_law_29 : decode cL_law 29 = .ok (.bipush 31, 2) := by decide +kernel
theorem dL_law_31 : decode cL_law 31 = .ok (.iand, 1) := by decide +kernel
theorem dL_law_32 : decode cL_law 32 = .ok (.tableswitch 552 0 17 #[88, 121, 154, 187, 210, 253, 286, 319, 342, 375, 388, 401, 414, 447, 470, 483, 506, 529], 88) := by decide +kernel
theorem dL_law_120 : decode cL_law 120 = .ok (.aload_n 1, 1) := by decide +kernel
theorem dL_law_121 : decode cL_law 121 = .ok (.aload_n 0, 1) := by decide +kernel
theorem dL_law_122 : decode cL_law 122 = .ok (.iload_n 3, 1) := by decide +kernel
theorem dL_law_123 : decode cL_law 123 = .ok (.iconst 1, 1) := by decide +kernel
theorem dL_law_124 : decode cL_law 124 = .ok (.iadd, 1) := by decide +kernel
theorem dL_law_125 : decode cL_law 125 = .ok (.iaload, 1) := by decide +kernel
theorem dL_law_126 : decode cL_law 126 = .ok (.aload_n 0, 1) := by decide +kernel
theorem dL_law_127 : decode cL_law 127 = .ok (.iload_n 3, 1) := by decide +kernel
theorem dL_law_128 : decode cL_law 128 = .ok (.iconst 2, 1) := by decide +kernel
theorem dL_law_129 : decode cL_law 129 = .ok (.iadd, 1) := by decide +kernel
theorem dL_law_130 : decode cL_law 130 = .ok (.iaload, 1) := by decide +kernel
theorem dL_law_131 : decode cL_law 131 = .ok (.invokevirtual 13, 3) := by decide +kernel
theorem dL_law_134 : decode cL_law 134 = .ok (.aload_n 2, 1) := by decide +kernel
theorem dL_law_135 : decode cL_law 135 = .ok (.aload_n 0, 1) := by decide +kernel
theorem dL_law_136 : decode cL_law 136 = .ok (.iload_n 3, 1) := by decide +kernel
theorem dL_law_137 : decode cL_law 137 = .ok (.iconst 1, 1) := by decide +kernel
theorem dL_law_138 : decode cL_law 138 = .ok (.iadd, 1) := by decide +kernel
theorem dL_law_139 : decode cL_law 139 = .ok (.iaload, 1) := by decide +kernel
theorem dL_law_140 : decode cL_law 140 = .ok (.aload_n 0, 1) := by decide +kernel
theorem dL_law_141 : decode cL_law 141 = .ok (.iload_n 3, 1) := by decide +kernel
theorem dL_law_142 : decode cL_law 142 = .ok (.iconst 2, 1) := by decide +kernel
theorem dL_law_143 : decode cL_law 143 = .ok (.iadd, 1) := by decide +kernel
theorem dL_law_144 : decode cL_law 144 = .ok (.iaload, 1) := by decide +kernel
theorem dL_law_145 : decode cL_law 145 = .ok (.invokevirtual 17, 3) := by decide +kernel
theorem dL_law_148 : decode cL_law 148 = .ok (.if_icmp .eq 436, 3) := by decide +kernel
theorem dL_law_151 : decode cL_law 151 = .ok (.iconst 0, 1) := by decide +kernel
theorem dL_law_152 : decode cL_law 152 = .ok (.ireturn, 1) := by decide +kernel
theorem dL_law_153 : decode cL_law 153 = .ok (.aload_n 1, 1) := by decide +kernel
theorem dL_law_154 : decode cL_law 154 = .ok (.aload_n 0, 1) := by decide +kernel
theorem dL_law_155 : decode cL_law 155 = .ok (.iload_n 3, 1) := by decide +kernel
theorem dL_law_156 : decode cL_law 156 = .ok (.iconst 1, 1) := by decide +kernel
theorem dL_law_157 : decode cL_law 157 = .ok (.iadd, 1) := by decide +kernel
theorem dL_law_158 : decode cL_law 158 = .ok (.iaload, 1) := by decide +kernel
theorem dL_law_159 : decode cL_law 159 = .ok (.aload_n 0, 1) := by decide +kernel
theorem dL_law_160 : decode cL_law 160 = .ok (.iload_n 3, 1) := by decide +kernel
theorem dL_law_161 : decode cL_law 161 = .ok (.iconst 2, 1) := by decide +kernel
theorem dL_law_162 : decode cL_law 162 = .ok (.iadd, 1) := by decide +kernel
theorem dL_law_163 : decode cL_law 163 = .ok (.iaload, 1) := by decide +kernel
theorem dL_law_164 : decode cL_law 164 = .ok (.invokevirtual 18, 3) := by decide +kernel
theorem dL_law_167 : decode cL_law 167 = .ok (.aload_n 2, 1) := by decide +kernel
theorem dL_law_168 : decode cL_law 168 = .ok (.aload_n 0, 1) := by decide +kernel
theorem dL_law_169 : decode cL_law 169 = .ok (.iload_n 3, 1) := by decide +kernel
theorem dL_law_170 : decode cL_law 170 = .ok (.iconst 1, 1) := by decide +kernel
theorem dL_law_171 : decode cL_law 171 = .ok (.iadd, 1) := by decide +kernel
theorem dL_law_172 : decode cL_law 172 = .ok (.iaload, 1) := by decide +kernel
theorem dL_law_173 : decode cL_law 173 = .ok (.aload_n 0, 1) := by decide +kernel
theorem dL_law_174 : decode cL_law 174 = .ok (.iload_n 3, 1) := by decide +kernel
theorem dL_law_175 : decode cL_law 175 = .ok (.iconst 2, 1) := by decide +kernel
theorem dL_law_176 : decode cL_law 176 = .ok (.iadd, 1) := by decide +kernel
theorem dL_law_177 : decode cL_law 177 = .ok (.iaload, 1) := by decide +kernel
theorem dL_law_178 : decode cL_law 178 = .ok (.invokevirtual 21, 3) := by decide +kernel
theorem dL_law_181 : decode cL_law 181 = .ok (.if_icmp .eq 403, 3) := by decide +kernel
theorem dL_law_184 : decode cL_law 184 = .ok (.iconst 0, 1) := by decide +kernel
theorem dL_law_185 : decode cL_law 185 = .ok (.ireturn, 1) := by decide +kernel
theorem dL_law_186 : decode cL_law 186 = .ok (.aload_n 1, 1) := by decide +kernel
theorem dL_law_187 : decode cL_law 187 = .ok (.aload_n 0, 1) := by decide +kernel
theorem dL_law_188 : decode cL_law 188 = .ok (.iload_n 3, 1) := by decide +kernel
theorem dL_law_189 : decode cL_law 189 = .ok (.iconst 1, 1) := by decide +kernel
theorem dL_law_190 : decode cL_law 190 = .ok (.iadd, 1) := by decide +kernel
theorem dL_law_191 : decode cL_law 191 = .ok (.iaload, 1) := by decide +kernel
theorem dL_law_192 : decode cL_law 192 = .ok (.aload_n 0, 1) := by decide +kernel
theorem dL_law_193 : decode cL_law 193 = .ok (.iload_n 3, 1) := by decide +kernel
theorem dL_law_194 : decode cL_law 194 = .ok (.iconst 2, 1) := by decide +kernel
theorem dL_law_195 : decode cL_law 195 = .ok (.iadd, 1) := by decide +kernel
theorem dL_law_196 : decode cL_law 196 = .ok (.iaload, 1) := by decide +kernel
theorem dL_law_197 : decode cL_law 197 = .ok (.invokevirtual 22, 3) := by decide +kernel
theorem dL_law_200 : decode cL_law 200 = .ok (.aload_n 2, 1) := by decide +kernel
theorem dL_law_201 : decode cL_law 201 = .ok (.aload_n 0, 1) := by decide +kernel
theorem dL_law_202 : decode cL_law 202 = .ok (.iload_n 3, 1) := by decide +kernel
theorem dL_law_203 : decode cL_law 203 = .ok (.iconst 1, 1) := by decide +kernel
theorem dL_law_204 : decode cL_law 204 = .ok (.iadd, 1) := by decide +kernel
theorem dL_law_205 : decode cL_law 205 = .ok (.iaload, 1) := by decide +kernel
theorem dL_law_206 : decode cL_law 206 = .ok (.aload_n 0, 1) := by decide +kernel
theorem dL_law_207 : decode cL_law 207 = .ok (.iload_n 3, 1) := by decide +kernel
theorem dL_law_208 : decode cL_law 208 = .ok (.iconst 2, 1) := by decide +kernel
theorem dL_law_209 : decode cL_law 209 = .ok (.iadd, 1) := by decide +kernel
theorem dL_law_210 : decode cL_law 210 = .ok (.iaload, 1) := by decide +kernel
theorem dL_law_211 : decode cL_law 211 = .ok (.invokevirtual 25, 3) := by decide +kernel
theorem dL_law_214 : decode cL_law 214 = .ok (.if_icmp .eq 370, 3) := by decide +kernel
theorem dL_law_217 : decode cL_law 217 = .ok (.iconst 0, 1) := by decide +kernel
theorem dL_law_218 : decode cL_law 218 = .ok (.ireturn, 1) := by decide +kernel
theorem dL_law_219 : decode cL_law 219 = .ok (.aload_n 1, 1) := by decide +kernel
theorem dL_law_220 : decode cL_law 220 = .ok (.aload_n 0, 1) := by decide +kernel
theorem dL_law_221 : decode cL_law 221 = .ok (.iload_n 3, 1) := by decide +kernel
theorem dL_law_222 : decode cL_law 222 = .ok (.iconst 1, 1) := by decide +kernel
theorem dL_law_223 : decode cL_law 223 = .ok (.iadd, 1) := by decide +kernel
theorem dL_law_224 : decode cL_law 224 = .ok (.iaload, 1) := by decide +kernel
theorem dL_law_225 : decode cL_law 225 = .ok (.invokevirtual 26, 3) := by decide +kernel
theorem dL_law_228 : decode cL_law 228 = .ok (.aload_n 2, 1) := by decide +kernel
theorem dL_law_229 : decode cL_law 229 = .ok (.aload_n 0, 1) := by decide +kernel
theorem dL_law_230 : decode cL_law 230 = .ok (.iload_n 3, 1) := by decide +kernel
theorem dL_law_231 : decode cL_law 231 = .ok (.iconst 1, 1) := by decide +kernel
theorem dL_law_232 : decode cL_law 232 = .ok (.iadd, 1) := by decide +kernel
theorem dL_law_233 : decode cL_law 233 = .ok (.iaload, 1) := by decide +kernel
theorem dL_law_234 : decode cL_law 234 = .ok (.invokevirtual 30, 3) := by decide +kernel
theorem dL_law_237 : decode cL_law 237 = .ok (.if_icmp .eq 347, 3) := by decide +kernel
theorem dL_law_240 : decode cL_law 240 = .ok (.iconst 0, 1) := by decide +kernel
theorem dL_law_241 : decode cL_law 241 = .ok (.ireturn, 1) := by decide +kernel
theorem dL_law_242 : decode cL_law 242 = .ok (.aload_n 1, 1) := by decide +kernel
theorem dL_law_243 : decode cL_law 243 = .ok (.aload_n 0, 1) := by decide +kernel
theorem dL_law_244 : decode cL_law 244 = .ok (.iload_n 3, 1) := by decide +kernel
theorem dL_law_245 : decode cL_law 245 = .ok (.iconst 1, 1) := by decide +kernel
theorem dL_law_246 : decode cL_law 246 = .ok (.iadd, 1) := by decide +kernel
theorem dL_law_247 : decode cL_law 247 = .ok (.iaload, 1) := by decide +kernel
theorem dL_law_248 : decode cL_law 248 = .ok (.aload_n 0, 1) := by decide +kernel
theorem dL_law_249 : decode cL_law 249 = .ok (.iload_n 3, 1) := by decide +kernel
theorem dL_law_250 : decode cL_law 250 = .ok (.iconst 2, 1) := by decide +kernel
theorem dL_law_251 : decode cL_law 251 = .ok (.iadd, 1) := by decide +kernel
theorem dL_law_252 : decode cL_law 252 = .ok (.iaload, 1) := by decide +kernel
theorem dL_law_253 : decode cL_law 253 = .ok (.aload_n 0, 1) := by decide +kernel
theorem dL_law_254 : decode cL_law 254 = .ok (.iload_n 3, 1) := by decide +kernel
theorem dL_law_255 : decode cL_law 255 = .ok (.iconst 3, 1) := by decide +kernel
theorem dL_law_256 : decode cL_law 256 = .ok (.iadd, 1) := by decide +kernel
theorem dL_law_257 : decode cL_law 257 = .ok (.iaload, 1) := by decide +kernel
theorem dL_law_258 : decode cL_law 258 = .ok (.invokevirtual 31, 3) := by decide +kernel
theorem dL_law_261 : decode cL_law 261 = .ok (.aload_n 2, 1) := by decide +kernel
theorem dL_law_262 : decode cL_law 262 = .ok (.aload_n 0, 1) := by decide +kernel
theorem dL_law_263 : decode cL_law 263 = .ok (.iload_n 3, 1) := by decide +kernel
theorem dL_law_264 : decode cL_law 264 = .ok (.iconst 1, 1) := by decide +kernel
theorem dL_law_265 : decode cL_law 265 = .ok (.iadd, 1) := by decide +kernel
theorem dL_law_266 : decode cL_law 266 = .ok (.iaload, 1) := by decide +kernel
theorem dL_law_267 : decode cL_law 267 = .ok (.aload_n 0, 1) := by decide +kernel
theorem dL_law_268 : decode cL_law 268 = .ok (.iload_n 3, 1) := by decide +kernel
theorem dL_law_269 : decode cL_law 269 = .ok (.iconst 2, 1) := by decide +kernel
theorem dL_law_270 : decode cL_law 270 = .ok (.iadd, 1) := by decide +kernel
theorem dL_law_271 : decode cL_law 271 = .ok (.iaload, 1) := by decide +kernel
theorem dL_law_272 : decode cL_law 272 = .ok (.aload_n 0, 1) := by decide +kernel
theorem dL_law_273 : decode cL_law 273 = .ok (.iload_n 3, 1) := by decide +kernel
theorem dL_law_274 : decode cL_law 274 = .ok (.iconst 3, 1) := by decide +kernel
theorem dL_law_275 : decode cL_law 275 = .ok (.iadd, 1) := by decide +kernel
theorem dL_law_276 : decode cL_law 276 = .ok (.iaload, 1) := by decide +kernel
theorem dL_law_277 : decode cL_law 277 = .ok (.invokevirtual 35, 3) := by decide +kernel
theorem dL_law_280 : decode cL_law 280 = .ok (.if_icmp .eq 304, 3) := by decide +kernel
theorem dL_law_283 : decode cL_law 283 = .ok (.iconst 0, 1) := by decide +kernel
theorem dL_law_284 : decode cL_law 284 = .ok (.ireturn, 1) := by decide +kernel
theorem dL_law_285 : decode cL_law 285 = .ok (.aload_n 1, 1) := by decide +kernel
theorem dL_law_286 : decode cL_law 286 = .ok (.aload_n 0, 1) := by decide +kernel
theorem dL_law_287 : decode cL_law 287 = .ok (.iload_n 3, 1) := by decide +kernel
theorem dL_law_288 : decode cL_law 288 = .ok (.iconst 1, 1) := by decide +kernel
theorem dL_law_289 : decode cL_law 289 = .ok (.iadd, 1) := by decide +kernel
theorem dL_law_290 : decode cL_law 290 = .ok (.iaload, 1) := by decide +kernel
theorem dL_law_291 : decode cL_law 291 = .ok (.aload_n 0, 1) := by decide +kernel
theorem dL_law_292 : decode cL_law 292 = .ok (.iload_n 3, 1) := by decide +kernel
theorem dL_law_293 : decode cL_law 293 = .ok (.iconst 2, 1) := by decide +kernel
theorem dL_law_294 : decode cL_law 294 = .ok (.iadd, 1) := by decide +kernel
theorem dL_law_295 : decode cL_law 295 = .ok (.iaload, 1) := by decide +kernel
theorem dL_law_296 : decode cL_law 296 = .ok (.invokevirtual 36, 3) := by decide +kernel
theorem dL_law_299 : decode cL_law 299 = .ok (.aload_n 2, 1) := by decide +kernel
theorem dL_law_300 : decode cL_law 300 = .ok (.aload_n 0, 1) := by decide +kernel
theorem dL_law_301 : decode cL_law 301 = .ok (.iload_n 3, 1) := by decide +kernel
theorem dL_law_302 : decode cL_law 302 = .ok (.iconst 1, 1) := by decide +kernel
theorem dL_law_303 : decode cL_law 303 = .ok (.iadd, 1) := by decide +kernel
theorem dL_law_304 : decode cL_law 304 = .ok (.iaload, 1) := by decide +kernel
theorem dL_law_305 : decode cL_law 305 = .ok (.aload_n 0, 1) := by decide +kernel
theorem dL_law_306 : decode cL_law 306 = .ok (.iload_n 3, 1) := by decide +kernel
theorem dL_law_307 : decode cL_law 307 = .ok (.iconst 2, 1) := by decide +kernel
theorem dL_law_308 : decode cL_law 308 = .ok (.iadd, 1) := by decide +kernel
theorem dL_law_309 : decode cL_law 309 = .ok (.iaload, 1) := by decide +kernel
theorem dL_law_310 : decode cL_law 310 = .ok (.invokevirtual 40, 3) := by decide +kernel
theorem dL_law_313 : decode cL_law 313 = .ok (.if_icmp .eq 271, 3) := by decide +kernel
theorem dL_law_316 : decode cL_law 316 = .ok (.iconst 0, 1) := by decide +kernel
theorem dL_law_317 : decode cL_law 317 = .ok (.ireturn, 1) := by decide +kernel
theorem dL_law_318 : decode cL_law 318 = .ok (.aload_n 1, 1) := by decide +kernel
theorem dL_law_319 : decode cL_law 319 = .ok (.aload_n 0, 1) := by decide +kernel
theorem dL_law_320 : decode cL_law 320 = .ok (.iload_n 3, 1) := by decide +kernel
theorem dL_law_321 : decode cL_law 321 = .ok (.iconst 1, 1) := by decide +kernel
theorem dL_law_322 : decode cL_law 322 = .ok (.iadd, 1) := by decide +kernel
theorem dL_law_323 : decode cL_law 323 = .ok (.iaload, 1) := by decide +kernel
theorem dL_law_324 : decode cL_law 324 = .ok (.aload_n 0, 1) := by decide +kernel
theorem dL_law_325 : decode cL_law 325 = .ok (.iload_n 3, 1) := by decide +kernel
theorem dL_law_326 : decode cL_law 326 = .ok (.iconst 2, 1) := by decide +kernel
theorem dL_law_327 : decode cL_law 327 = .ok (.iadd, 1) := by decide +kernel
theorem dL_law_328 : decode cL_law 328 = .ok (.iaload, 1) := by decide +kernel
theorem dL_law_329 : decode cL_law 329 = .ok (.invokevirtual 41, 3) := by decide +kernel
theorem dL_law_332 : decode cL_law 332 = .ok (.aload_n 2, 1) := by decide +kernel
theorem dL_law_333 : decode cL_law 333 = .ok (.aload_n 0, 1) := by decide +kernel
theorem dL_law_334 : decode cL_law 334 = .ok (.iload_n 3, 1) := by decide +kernel
theorem dL_law_335 : decode cL_law 335 = .ok (.iconst 1, 1) := by decide +kernel
theorem dL_law_336 : decode cL_law 336 = .ok (.iadd, 1) := by decide +kernel
theorem dL_law_337 : decode cL_law 337 = .ok (.iaload, 1) := by decide +kernel
theorem dL_law_338 : decode cL_law 338 = .ok (.aload_n 0, 1) := by decide +kernel
theorem dL_law_339 : decode cL_law 339 = .ok (.iload_n 3, 1) := by decide +kernel
theorem dL_law_340 : decode cL_law 340 = .ok (.iconst 2, 1) := by decide +kernel
theorem dL_law_341 : decode cL_law 341 = .ok (.iadd, 1) := by decide +kernel
theorem dL_law_342 : decode cL_law 342 = .ok (.iaload, 1) := by decide +kernel
theorem dL_law_343 : decode cL_law 343 = .ok (.invokevirtual 44, 3) := by decide +kernel
theorem dL_law_346 : decode cL_law 346 = .ok (.if_icmp .eq 238, 3) := by decide +kernel
theorem dL_law_349 : decode cL_law 349 = .ok (.iconst 0, 1) := by decide +kernel
theorem dL_law_350 : decode cL_law 350 = .ok (.ireturn, 1) := by decide +kernel
theorem dL_law_351 : decode cL_law 351 = .ok (.aload_n 1, 1) := by decide +kernel
theorem dL_law_352 : decode cL_law 352 = .ok (.aload_n 0, 1) := by decide +kernel
theorem dL_law_353 : decode cL_law 353 = .ok (.iload_n 3, 1) := by decide +kernel
theorem dL_law_354 : decode cL_law 354 = .ok (.iconst 1, 1) := by decide +kernel
theorem dL_law_355 : decode cL_law 355 = .ok (.iadd, 1) := by decide +kernel
theorem dL_law_356 : decode cL_law 356 = .ok (.iaload, 1) := by decide +kernel
theorem dL_law_357 : decode cL_law 357 = .ok (.invokevirtual 45, 3) := by decide +kernel
theorem dL_law_360 : decode cL_law 360 = .ok (.aload_n 2, 1) := by decide +kernel
theorem dL_law_361 : decode cL_law 361 = .ok (.aload_n 0, 1) := by decide +kernel
theorem dL_law_362 : decode cL_law 362 = .ok (.iload_n 3, 1) := by decide +kernel
theorem dL_law_363 : decode cL_law 363 = .ok (.iconst 1, 1) := by decide +kernel
theorem dL_law_364 : decode cL_law 364 = .ok (.iadd, 1) := by decide +kernel
theorem dL_law_365 : decode cL_law 365 = .ok (.iaload, 1) := by decide +kernel
theorem dL_law_366 : decode cL_law 366 = .ok (.invokevirtual 48, 3) := by decide +kernel
theorem dL_law_369 : decode cL_law 369 = .ok (.if_icmp .eq 215, 3) := by decide +kernel
theorem dL_law_372 : decode cL_law 372 = .ok (.iconst 0, 1) := by decide +kernel
theorem dL_law_373 : decode cL_law 373 = .ok (.ireturn, 1) := by decide +kernel
theorem dL_law_374 : decode cL_law 374 = .ok (.aload_n 1, 1) := by decide +kernel
theorem dL_law_375 : decode cL_law 375 = .ok (.aload_n 0, 1) := by decide +kernel
theorem dL_law_376 : decode cL_law 376 = .ok (.iload_n 3, 1) := by decide +kernel
theorem dL_law_377 : decode cL_law 377 = .ok (.iconst 1, 1) := by decide +kernel
theorem dL_law_378 : decode cL_law 378 = .ok (.iadd, 1) := by decide +kernel
theorem dL_law_379 : decode cL_law 379 = .ok (.iaload, 1) := by decide +kernel
theorem dL_law_380 : decode cL_law 380 = .ok (.aload_n 0, 1) := by decide +kernel
theorem dL_law_381 : decode cL_law 381 = .ok (.iload_n 3, 1) := by decide +kernel
theorem dL_law_382 : decode cL_law 382 = .ok (.iconst 2, 1) := by decide +kernel
theorem dL_law_383 : decode cL_law 383 = .ok (.iadd, 1) := by decide +kernel
theorem dL_law_384 : decode cL_law 384 = .ok (.iaload, 1) := by decide +kernel
theorem dL_law_385 : decode cL_law 385 = .ok (.invokevirtual 49, 3) := by decide +kernel
theorem dL_law_388 : decode cL_law 388 = .ok (.aload_n 2, 1) := by decide +kernel
theorem dL_law_389 : decode cL_law 389 = .ok (.aload_n 0, 1) := by decide +kernel
theorem dL_law_390 : decode cL_law 390 = .ok (.iload_n 3, 1) := by decide +kernel
theorem dL_law_391 : decode cL_law 391 = .ok (.iconst 1, 1) := by decide +kernel
theorem dL_law_392 : decode cL_law 392 = .ok (.iadd, 1) := by decide +kernel
theorem dL_law_393 : decode cL_law 393 = .ok (.iaload, 1) := by decide +kernel
theorem dL_law_394 : decode cL_law 394 = .ok (.aload_n 0, 1) := by decide +kernel
theorem dL_law_395 : decode cL_law 395 = .ok (.iload_n 3, 1) := by decide +kernel
theorem dL_law_396 : decode cL_law 396 = .ok (.iconst 2, 1) := by decide +kernel
theorem dL_law_397 : decode cL_law 397 = .ok (.iadd, 1) := by decide +kernel
theorem dL_law_398 : decode cL_law 398 = .ok (.iaload, 1) := by decide +kernel
theorem dL_law_399 : decode cL_law 399 = .ok (.invokevirtual 52, 3) := by decide +kernel
theorem dL_law_402 : decode cL_law 402 = .ok (.if_icmp .eq 182, 3) := by decide +kernel
theorem dL_law_405 : decode cL_law 405 = .ok (.iconst 0, 1) := by decide +kernel
theorem dL_law_406 : decode cL_law 406 = .ok (.ireturn, 1) := by decide +kernel
theorem dL_law_407 : decode cL_law 407 = .ok (.aload_n 1, 1) := by decide +kernel
theorem dL_law_408 : decode cL_law 408 = .ok (.invokevirtual 53, 3) := by decide +kernel
theorem dL_law_411 : decode cL_law 411 = .ok (.aload_n 2, 1) := by decide +kernel
theorem dL_law_412 : decode cL_law 412 = .ok (.invokevirtual 57, 3) := by decide +kernel
theorem dL_law_415 : decode cL_law 415 = .ok (.if_icmp .eq 169, 3) := by decide +kernel
theorem dL_law_418 : decode cL_law 418 = .ok (.iconst 0, 1) := by decide +kernel
theorem dL_law_419 : decode cL_law 419 = .ok (.ireturn, 1) := by decide +kernel
theorem dL_law_420 : decode cL_law 420 = .ok (.aload_n 1, 1) := by decide +kernel
theorem dL_law_421 : decode cL_law 421 = .ok (.invokevirtual 58, 3) := by decide +kernel
theorem dL_law_424 : decode cL_law 424 = .ok (.aload_n 2, 1) := by decide +kernel
theorem dL_law_425 : decode cL_law 425 = .ok (.invokevirtual 61, 3) := by decide +kernel
theorem dL_law_428 : decode cL_law 428 = .ok (.if_icmp .eq 156, 3) := by decide +kernel
theorem dL_law_431 : decode cL_law 431 = .ok (.iconst 0, 1) := by decide +kernel
theorem dL_law_432 : decode cL_law 432 = .ok (.ireturn, 1) := by decide +kernel
theorem dL_law_433 : decode cL_law 433 = .ok (.aload_n 1, 1) := by decide +kernel
theorem dL_law_434 : decode cL_law 434 = .ok (.invokevirtual 62, 3) := by decide +kernel
theorem dL_law_437 : decode cL_law 437 = .ok (.aload_n 2, 1) := by decide +kernel
theorem dL_law_438 : decode cL_law 438 = .ok (.invokevirtual 65, 3) := by decide +kernel
theorem dL_law_441 : decode cL_law 441 = .ok (.if_icmp .eq 143, 3) := by decide +kernel
theorem dL_law_444 : decode cL_law 444 = .ok (.iconst 0, 1) := by decide +kernel
theorem dL_law_445 : decode cL_law 445 = .ok (.ireturn, 1) := by decide +kernel
theorem dL_law_446 : decode cL_law 446 = .ok (.aload_n 1, 1) := by decide +kernel
theorem dL_law_447 : decode cL_law 447 = .ok (.aload_n 0, 1) := by decide +kernel
theorem dL_law_448 : decode cL_law 448 = .ok (.iload_n 3, 1) := by decide +kernel
theorem dL_law_449 : decode cL_law 449 = .ok (.iconst 1, 1) := by decide +kernel
theorem dL_law_450 : decode cL_law 450 = .ok (.iadd, 1) := by decide +kernel
theorem dL_law_451 : decode cL_law 451 = .ok (.iaload, 1) := by decide +kernel
theorem dL_law_452 : decode cL_law 452 = .ok (.aload_n 0, 1) := by decide +kernel
theorem dL_law_453 : decode cL_law 453 = .ok (.iload_n 3, 1) := by decide +kernel
theorem dL_law_454 : decode cL_law 454 = .ok (.iconst 2, 1) := by decide +kernel
theorem dL_law_455 : decode cL_law 455 = .ok (.iadd, 1) := by decide +kernel
theorem dL_law_456 : decode cL_law 456 = .ok (.iaload, 1) := by decide +kernel
theorem dL_law_457 : decode cL_law 457 = .ok (.invokevirtual 66, 3) := by decide +kernel
theorem dL_law_460 : decode cL_law 460 = .ok (.aload_n 2, 1) := by decide +kernel
theorem dL_law_461 : decode cL_law 461 = .ok (.aload_n 0, 1) := by decide +kernel
theorem dL_law_462 : decode cL_law 462 = .ok (.iload_n 3, 1) := by decide +kernel
theorem dL_law_463 : decode cL_law 463 = .ok (.iconst 1, 1) := by decide +kernel
theorem dL_law_464 : decode cL_law 464 = .ok (.iadd, 1) := by decide +kernel
theorem dL_law_465 : decode cL_law 465 = .ok (.iaload, 1) := by decide +kernel
theorem dL_law_466 : decode cL_law 466 = .ok (.aload_n 0, 1) := by decide +kernel
theorem dL_law_467 : decode cL_law 467 = .ok (.iload_n 3, 1) := by decide +kernel
theorem dL_law_468 : decode cL_law 468 = .ok (.iconst 2, 1) := by decide +kernel
theorem dL_law_469 : decode cL_law 469 = .ok (.iadd, 1) := by decide +kernel
theorem dL_law_470 : decode cL_law 470 = .ok (.iaload, 1) := by decide +kernel
theorem dL_law_471 : decode cL_law 471 = .ok (.invokevirtual 69, 3) := by decide +kernel
theorem dL_law_474 : decode cL_law 474 = .ok (.if_icmp .eq 110, 3) := by decide +kernel
theorem dL_law_477 : decode cL_law 477 = .ok (.iconst 0, 1) := by decide +kernel
theorem dL_law_478 : decode cL_law 478 = .ok (.ireturn, 1) := by decide +kernel
theorem dL_law_479 : decode cL_law 479 = .ok (.aload_n 1, 1) := by decide +kernel
theorem dL_law_480 : decode cL_law 480 = .ok (.aload_n 0, 1) := by decide +kernel
theorem dL_law_481 : decode cL_law 481 = .ok (.iload_n 3, 1) := by decide +kernel
theorem dL_law_482 : decode cL_law 482 = .ok (.iconst 1, 1) := by decide +kernel
theorem dL_law_483 : decode cL_law 483 = .ok (.iadd, 1) := by decide +kernel
theorem dL_law_484 : decode cL_law 484 = .ok (.iaload, 1) := by decide +kernel
theorem dL_law_485 : decode cL_law 485 = .ok (.invokevirtual 70, 3) := by decide +kernel
theorem dL_law_488 : decode cL_law 488 = .ok (.aload_n 2, 1) := by decide +kernel
theorem dL_law_489 : decode cL_law 489 = .ok (.aload_n 0, 1) := by decide +kernel
theorem dL_law_490 : decode cL_law 490 = .ok (.iload_n 3, 1) := by decide +kernel
theorem dL_law_491 : decode cL_law 491 = .ok (.iconst 1, 1) := by decide +kernel
theorem dL_law_492 : decode cL_law 492 = .ok (.iadd, 1) := by decide +kernel
theorem dL_law_493 : decode cL_law 493 = .ok (.iaload, 1) := by decide +kernel
theorem dL_law_494 : decode cL_law 494 = .ok (.invokevirtual 73, 3) := by decide +kernel
theorem dL_law_497 : decode cL_law 497 = .ok (.if_icmp .eq 87, 3) := by decide +kernel
theorem dL_law_500 : decode cL_law 500 = .ok (.iconst 0, 1) := by decide +kernel
theorem dL_law_501 : decode cL_law 501 = .ok (.ireturn, 1) := by decide +kernel
theorem dL_law_502 : decode cL_law 502 = .ok (.aload_n 1, 1) := by decide +kernel
theorem dL_law_503 : decode cL_law 503 = .ok (.invokevirtual 74, 3) := by decide +kernel
theorem dL_law_506 : decode cL_law 506 = .ok (.aload_n 2, 1) := by decide +kernel
theorem dL_law_507 : decode cL_law 507 = .ok (.invokevirtual 77, 3) := by decide +kernel
theorem dL_law_510 : decode cL_law 510 = .ok (.if_icmp .eq 74, 3) := by decide +kernel
theorem dL_law_513 : decode cL_law 513 = .ok (.iconst 0, 1) := by decide +kernel
theorem dL_law_514 : decode cL_law 514 = .ok (.ireturn, 1) := by decide +kernel
theorem dL_law_515 : decode cL_law 515 = .ok (.aload_n 1, 1) := by decide +kernel
theorem dL_law_516 : decode cL_law 516 = .ok (.aload_n 0, 1) := by decide +kernel
theorem dL_law_517 : decode cL_law 517 = .ok (.iload_n 3, 1) := by decide +kernel
theorem dL_law_518 : decode cL_law 518 = .ok (.iconst 1, 1) := by decide +kernel
theorem dL_law_519 : decode cL_law 519 = .ok (.iadd, 1) := by decide +kernel
theorem dL_law_520 : decode cL_law 520 = .ok (.iaload, 1) := by decide +kernel
theorem dL_law_521 : decode cL_law 521 = .ok (.invokevirtual 78, 3) := by decide +kernel
theorem dL_law_524 : decode cL_law 524 = .ok (.aload_n 2, 1) := by decide +kernel
theorem dL_law_525 : decode cL_law 525 = .ok (.aload_n 0, 1) := by decide +kernel
theorem dL_law_526 : decode cL_law 526 = .ok (.iload_n 3, 1) := by decide +kernel
theorem dL_law_527 : decode cL_law 527 = .ok (.iconst 1, 1) := by decide +kernel
theorem dL_law_528 : decode cL_law 528 = .ok (.iadd, 1) := by decide +kernel
theorem dL_law_529 : decode cL_law 529 = .ok (.iaload, 1) := by decide +kernel
theorem dL_law_530 : decode cL_law 530 = .ok (.invokevirtual 81, 3) := by decide +kernel
theorem dL_law_533 : decode cL_law 533 = .ok (.if_icmp .eq 51, 3) := by decide +kernel
theorem dL_law_536 : decode cL_law 536 = .ok (.iconst 0, 1) := by decide +kernel
theorem dL_law_537 : decode cL_law 537 = .ok (.ireturn, 1) := by decide +kernel
theorem dL_law_538 : decode cL_law 538 = .ok (.aload_n 1, 1) := by decide +kernel
theorem dL_law_539 : decode cL_law 539 = .ok (.aload_n 0, 1) := by decide +kernel
theorem dL_law_540 : decode cL_law 540 = .ok (.iload_n 3, 1) := by decide +kernel
theorem dL_law_541 : decode cL_law 541 = .ok (.iconst 1, 1) := by decide +kernel
theorem dL_law_542 : decode cL_law 542 = .ok (.iadd, 1) := by decide +kernel
theorem dL_law_543 : decode cL_law 543 = .ok (.iaload, 1) := by decide +kernel
theorem dL_law_544 : decode cL_law 544 = .ok (.invokevirtual 82, 3) := by decide +kernel
theorem dL_law_547 : decode cL_law 547 = .ok (.aload_n 2, 1) := by decide +kernel
theorem dL_law_548 : decode cL_law 548 = .ok (.aload_n 0, 1) := by decide +kernel
theorem dL_law_549 : decode cL_law 549 = .ok (.iload_n 3, 1) := by decide +kernel
theorem dL_law_550 : decode cL_law 550 = .ok (.iconst 1, 1) := by decide +kernel
theorem dL_law_551 : decode cL_law 551 = .ok (.iadd, 1) := by decide +kernel
theorem dL_law_552 : decode cL_law 552 = .ok (.iaload, 1) := by decide +kernel
theorem dL_law_553 : decode cL_law 553 = .ok (.invokevirtual 85, 3) := by decide +kernel
theorem dL_law_556 : decode cL_law 556 = .ok (.if_icmp .eq 28, 3) := by decide +kernel
theorem dL_law_559 : decode cL_law 559 = .ok (.iconst 0, 1) := by decide +kernel
theorem dL_law_560 : decode cL_law 560 = .ok (.ireturn, 1) := by decide +kernel
theorem dL_law_561 : decode cL_law 561 = .ok (.aload_n 1, 1) := by decide +kernel
theorem dL_law_562 : decode cL_law 562 = .ok (.aload_n 0, 1) := by decide +kernel
theorem dL_law_563 : decode cL_law 563 = .ok (.iload_n 3, 1) := by decide +kernel
theorem dL_law_564 : decode cL_law 564 = .ok (.iconst 1, 1) := by decide +kernel
theorem dL_law_565 : decode cL_law 565 = .ok (.iadd, 1) := by decide +kernel
theorem dL_law_566 : decode cL_law 566 = .ok (.iaload, 1) := by decide +kernel
theorem dL_law_567 : decode cL_law 567 = .ok (.invokevirtual 86, 3) := by decide +kernel
theorem dL_law_570 : decode cL_law 570 = .ok (.aload_n 2, 1) := by decide +kernel
theorem dL_law_571 : decode cL_law 571 = .ok (.aload_n 0, 1) := by decide +kernel
theorem dL_law_572 : decode cL_law 572 = .ok (.iload_n 3, 1) := by decide +kernel
theorem dL_law_573 : decode cL_law 573 = .ok (.iconst 1, 1) := by decide +kernel
theorem dL_law_574 : decode cL_law 574 = .ok (.iadd, 1) := by decide +kernel
theorem dL_law_575 : decode cL_law 575 = .ok (.iaload, 1) := by decide +kernel
theorem dL_law_576 : decode cL_law 576 = .ok (.invokevirtual 89, 3) := by decide +kernel
theorem dL_law_579 : decode cL_law 579 = .ok (.if_icmp .eq 5, 3) := by decide +kernel
theorem dL_law_582 : decode cL_law 582 = .ok (.iconst 0, 1) := by decide +kernel
theorem dL_law_583 : decode cL_law 583 = .ok (.ireturn, 1) := by decide +kernel
theorem dL_law_584 : decode cL_law 584 = .ok (.iinc 3 4, 3) := by decide +kernel
theorem dL_law_587 : decode cL_law 587 = .ok (.goto (-569), 3) := by decide +kernel
theorem dL_law_590 : decode cL_law 590 = .ok (.iconst 1, 1) := by decide +kernel
theorem dL_law_591 : decode cL_law 591 = .ok (.ireturn, 1) := by decide +kernel
