theorem dX7_lays_7 : decode cX7_lays 7 = .ok (.isub, 1) := by decide +kernel
theorem dX7_lays_8 : decode cX7_lays 8 = .ok (.istore 4, 2) := by decide +kernel
theorem dX7_lays_10 : decode cX7_lays 10 = .ok (.iload 4, 2) := by decide +kernel
theorem dX7_lays_12 : decode cX7_lays 12 = .ok (.ifCond .lt 38, 3) := by decide +kernel
theorem dX7_lays_15 : decode cX7_lays 15 = .ok (.aload_n 0, 1) := by decide +kernel
theorem dX7_lays_16 : decode cX7_lays 16 = .ok (.getfield 26, 3) := by decide +kernel
theorem dX7_lays_19 : decode cX7_lays 19 = .ok (.iload 4, 2) := by decide +kernel
theorem dX7_lays_21 : decode cX7_lays 21 = .ok (.iload_n 3, 1) := by decide +kernel
theorem dX7_lays_22 : decode cX7_lays 22 = .ok (.bipush 10, 2) := by decide +kernel
theorem dX7_lays_24 : decode cX7_lays 24 = .ok (.irem, 1) := by decide +kernel
theorem dX7_lays_25 : decode cX7_lays 25 = .ok (.iastore, 1) := by decide +kernel
theorem dX7_lays_26 : decode cX7_lays 26 = .ok (.aload_n 0, 1) := by decide +kernel
theorem dX7_lays_27 : decode cX7_lays 27 = .ok (.getfield 29, 3) := by decide +kernel
theorem dX7_lays_30 : decode cX7_lays 30 = .ok (.iload 4, 2) := by decide +kernel
theorem dX7_lays_32 : decode cX7_lays 32 = .ok (.iload_n 2, 1) := by decide +kernel
theorem dX7_lays_33 : decode cX7_lays 33 = .ok (.iload 4, 2) := by decide +kernel
theorem dX7_lays_35 : decode cX7_lays 35 = .ok (.ishr, 1) := by decide +kernel
theorem dX7_lays_36 : decode cX7_lays 36 = .ok (.iconst 1, 1) := by decide +kernel
theorem dX7_lays_37 : decode cX7_lays 37 = .ok (.iand, 1) := by decide +kernel
theorem dX7_lays_38 : decode cX7_lays 38 = .ok (.iastore, 1) := by decide +kernel
theorem dX7_lays_39 : decode cX7_lays 39 = .ok (.iload_n 3, 1) := by decide +kernel
theorem dX7_lays_40 : decode cX7_lays 40 = .ok (.bipush 10, 2) := by decide +kernel
theorem dX7_lays_42 : decode cX7_lays 42 = .ok (.idiv, 1) := by decide +kernel
theorem dX7_lays_43 : decode cX7_lays 43 = .ok (.istore_n 3, 1) := by decide +kernel
theorem dX7_lays_44 : decode cX7_lays 44 = .ok (.iinc 4 (-1), 3) := by decide +kernel
theorem dX7_lays_47 : decode cX7_lays 47 = .ok (.goto (-37), 3) := by decide +kernel
theorem dX7_lays_50 : decode cX7_lays 50 = .ok (.return_, 1) := by decide +kernel
theorem dX7_looks_0 : decode cX7_looks 0 = .ok (.aload_n 0, 1) := by decide +kernel
theorem dX7_looks_1 : decode cX7_looks 1 = .ok (.aload_n 0, 1) := by decide +kernel
theorem dX7_looks_2 : decode cX7_looks 2 = .ok (.iload_n 1, 1) := by decide +kernel
theorem dX7_looks_3 : decode cX7_looks 3 = .ok (.iconst 0, 1) := by decide +kernel
theorem dX7_looks_4 : decode cX7_looks 4 = .ok (.invokevirtual 62, 3) := by decide +kernel
theorem dX7_looks_7 : decode cX7_looks 7 = .ok (.putfield 66, 3) := by decide +kernel
theorem dX7_looks_10 : decode cX7_looks 10 = .ok (.aload_n 0, 1) := by decide +kernel
theorem dX7_looks_11 : decode cX7_looks 11 = .ok (.aload_n 0, 1) := by decide +kernel
theorem dX7_looks_12 : decode cX7_looks 12 = .ok (.iload_n 1, 1) := by decide +kernel
theorem dX7_looks_13 : decode cX7_looks 13 = .ok (.iconst 1, 1) := by decide +kernel
theorem dX7_looks_14 : decode cX7_looks 14 = .ok (.invokevirtual 62, 3) := by decide +kernel
theorem dX7_looks_17 : decode cX7_looks 17 = .ok (.putfield 59, 3) := by decide +kernel
theorem dX7_looks_20 : decode cX7_looks 20 = .ok (.aload_n 0, 1) := by decide +kernel
theorem dX7_looks_21 : decode cX7_looks 21 = .ok (.aload_n 0, 1) := by decide +kernel
theorem dX7_looks_22 : decode cX7_looks 22 = .ok (.iload_n 1, 1) := by decide +kernel
theorem dX7_looks_23 : decode cX7_looks 23 = .ok (.iconst 2, 1) := by decide +kernel
theorem dX7_looks_24 : decode cX7_looks 24 = .ok (.invokevirtual 62, 3) := by decide +kernel
theorem dX7_looks_27 : decode cX7_looks 27 = .ok (.putfield 69, 3) := by decide +kernel
theorem dX7_looks_30 : decode cX7_looks 30 = .ok (.aload_n 0, 1) := by decide +kernel
theorem dX7_looks_31 : decode cX7_looks 31 = .ok (.aload_n 0, 1) := by decide +kernel
theorem dX7_looks_32 : decode cX7_looks 32 = .ok (.iload_n 1, 1) := by decide +kernel
theorem dX7_looks_33 : decode cX7_looks 33 = .ok (.iconst 3, 1) := by decide +kernel
theorem dX7_looks_34 : decode cX7_looks 34 = .ok (.invokevirtual 62, 3) := by decide +kernel
theorem dX7_looks_37 : decode cX7_looks 37 = .ok (.aload_n 0, 1) := by decide +kernel
theorem dX7_looks_38 : decode cX7_looks 38 = .ok (.iload_n 1, 1) := by decide +kernel
theorem dX7_looks_39 : decode cX7_looks 39 = .ok (.iconst 4, 1) := by decide +kernel
theorem dX7_looks_40 : decode cX7_looks 40 = .ok (.invokevirtual 62, 3) := by decide +kernel
theorem dX7_looks_43 : decode cX7_looks 43 = .ok (.invokevirtual 72, 3) := by decide +kernel
theorem dX7_looks_46 : decode cX7_looks 46 = .ok (.return_, 1) := by decide +kernel
theorem dX7_code_0 : decode cX7_code 0 = .ok (.iconst 0, 1) := by decide +kernel
theorem dX7_code_1 : decode cX7_code 1 = .ok (.istore_n 1, 1) := by decide +kernel
theorem dX7_code_2 : decode cX7_code 2 = .ok (.iconst 0, 1) := by decide +kernel
theorem dX7_code_3 : decode cX7_code 3 = .ok (.istore_n 2, 1) := by decide +kernel
theorem dX7_code_4 : decode cX7_code 4 = .ok (.iload_n 2, 1) := by decide +kernel
theorem dX7_code_5 : decode cX7_code 5 = .ok (.aload_n 0, 1) := by decide +kernel
theorem dX7_code_6 : decode cX7_code 6 = .ok (.getfield 59, 3) := by decide +kernel
theorem dX7_code_9 : decode cX7_code 9 = .ok (.if_icmp .ge 21, 3) := by decide +kernel
theorem dX7_code_12 : decode cX7_code 12 = .ok (.bipush 10, 2) := by decide +kernel
theorem dX7_code_14 : decode cX7_code 14 = .ok (.iload_n 1, 1) := by decide +kernel
theorem dX7_code_15 : decode cX7_code 15 = .ok (.imul, 1) := by decide +kernel
theorem dX7_code_16 : decode cX7_code 16 = .ok (.aload_n 0, 1) := by decide +kernel
theorem dX7_code_17 : decode cX7_code 17 = .ok (.getfield 26, 3) := by decide +kernel
theorem dX7_code_20 : decode cX7_code 20 = .ok (.iload_n 2, 1) := by decide +kernel
theorem dX7_code_21 : decode cX7_code 21 = .ok (.iaload, 1) := by decide +kernel
theorem dX7_code_22 : decode cX7_code 22 = .ok (.iadd, 1) := by decide +kernel
theorem dX7_code_23 : decode cX7_code 23 = .ok (.istore_n 1, 1) := by decide +kernel
theorem dX7_code_24 : decode cX7_code 24 = .ok (.iinc 2 1, 3) := by decide +kernel
theorem dX7_code_27 : decode cX7_code 27 = .ok (.goto (-23), 3) := by decide +kernel
theorem dX7_code_30 : decode cX7_code 30 = .ok (.iload_n 1, 1) := by decide +kernel
theorem dX7_code_31 : decode cX7_code 31 = .ok (.ireturn, 1) := by decide +kernel
theorem dX7_sides_0 : decode cX7_sides 0 = .ok (.iconst 0, 1) := by decide +kernel
theorem dX7_sides_1 : decode cX7_sides 1 = .ok (.istore_n 1, 1) := by decide +kernel
theorem dX7_sides_2 : decode cX7_sides 2 = .ok (.iconst 0, 1) := by decide +kernel
theorem dX7_sides_3 : decode cX7_sides 3 = .ok (.istore_n 2, 1) := by decide +kernel
theorem dX7_sides_4 : decode cX7_sides 4 = .ok (.iload_n 2, 1) := by decide +kernel
theorem dX7_sides_5 : decode cX7_sides 5 = .ok (.aload_n 0, 1) := by decide +kernel
theorem dX7_sides_6 : decode cX7_sides 6 = .ok (.getfield 59, 3) := by decide +kernel
theorem dX7_sides_9 : decode cX7_sides 9 = .ok (.if_icmp .ge 20, 3) := by decide +kernel
theorem dX7_sides_12 : decode cX7_sides 12 = .ok (.iload_n 1, 1) := by decide +kernel
theorem dX7_sides_13 : decode cX7_sides 13 = .ok (.aload_n 0, 1) := by decide +kernel
theorem dX7_sides_14 : decode cX7_sides 14 = .ok (.getfield 29, 3) := by decide +kernel
theorem dX7_sides_17 : decode cX7_sides 17 = .ok (.iload_n 2, 1) := by decide +kernel
theorem dX7_sides_18 : decode cX7_sides 18 = .ok (.iaload, 1) := by decide +kernel
theorem dX7_sides_19 : decode cX7_sides 19 = .ok (.iload_n 2, 1) := by decide +kernel
theorem dX7_sides_20 : decode cX7_sides 20 = .ok (.ishl, 1) := by decide +kernel
theorem dX7_sides_21 : decode cX7_sides 21 = .ok (.ior, 1) := by decide +kernel
theorem dX7_sides_22 : decode cX7_sides 22 = .ok (.istore_n 1, 1) := by decide +kernel
theorem dX7_sides_23 : decode cX7_sides 23 = .ok (.iinc 2 1, 3) := by decide +kernel
theorem dX7_sides_26 : decode cX7_sides 26 = .ok (.goto (-22), 3) := by decide +kernel
theorem dX7_sides_29 : decode cX7_sides 29 = .ok (.iload_n 1, 1) := by decide +kernel
theorem dX7_sides_30 : decode cX7_sides 30 = .ok (.ireturn, 1) := by decide +kernel
theorem dX7_isJoined_0 : decode cX7_isJoined 0 = .ok (.iload_n 1, 1) := by decide +kernel
theorem dX7_isJoined_1 : decode cX7_isJoined 1 = .ok (.aload_n 0, 1) := by decide +kernel
theorem dX7_isJoined_2 : decode cX7_isJoined 2 = .ok (.getfield 59, 3) := by decide +kernel
theorem dX7_isJoined_5 : decode cX7_isJoined 5 = .ok (.iconst 1, 1) := by decide +kernel
theorem dX7_isJoined_6 : decode cX7_isJoined 6 = .ok (.isub, 1) := by decide +kernel
theorem dX7_isJoined_7 : decode cX7_isJoined 7 = .ok (.if_icmp .ne 31, 3) := by decide +kernel
theorem dX7_isJoined_10 : decode cX7_isJoined 10 = .ok (.aload_n 0, 1) := by decide +kernel
theorem dX7_isJoined_11 : decode cX7_isJoined 11 = .ok (.getfield 26, 3) := by decide +kernel
theorem dX7_isJoined_14 : decode cX7_isJoined 14 = .ok (.iload_n 1, 1) := by decide +kernel
theorem dX7_isJoined_15 : decode cX7_isJoined 15 = .ok (.iaload, 1) := by decide +kernel
theorem dX7_isJoined_16 : decode cX7_isJoined 16 = .ok (.aload_n 0, 1) := by decide +kernel
theorem dX7_isJoined_17 : decode cX7_isJoined 17 = .ok (.getfield 59, 3) := by decide +kernel
theorem dX7_isJoined_20 : decode cX7_isJoined 20 = .ok (.if_icmp .ne 16, 3) := by decide +kernel
theorem dX7_isJoined_23 : decode cX7_isJoined 23 = .ok (.aload_n 0, 1) := by decide +kernel
theorem dX7_isJoined_24 : decode cX7_isJoined 24 = .ok (.getfield 29, 3) := by decide +kernel
theorem dX7_isJoined_27 : decode cX7_isJoined 27 = .ok (.iload_n 1, 1) := by decide +kernel
theorem dX7_isJoined_28 : decode cX7_isJoined 28 = .ok (.iaload, 1) := by decide +kernel
theorem dX7_isJoined_29 : decode cX7_isJoined 29 = .ok (.ifCond .ne 7, 3) := by decide +kernel
theorem dX7_isJoined_32 : decode cX7_isJoined 32 = .ok (.iconst 1, 1) := by decide +kernel
theorem dX7_isJoined_33 : decode cX7_isJoined 33 = .ok (.goto 4, 3) := by decide +kernel
theorem dX7_isJoined_36 : decode cX7_isJoined 36 = .ok (.iconst 0, 1) := by decide +kernel
theorem dX7_isJoined_37 : decode cX7_isJoined 37 = .ok (.ireturn, 1) := by decide +kernel
theorem dX7_isJoined_38 : decode cX7_isJoined 38 = .ok (.aload_n 0, 1) := by decide +kernel
theorem dX7_isJoined_39 : decode cX7_isJoined 39 = .ok (.getfield 26, 3) := by decide +kernel
theorem dX7_isJoined_42 : decode cX7_isJoined 42 = .ok (.iload_n 1, 1) := by decide +kernel
theorem dX7_isJoined_43 : decode cX7_isJoined 43 = .ok (.iconst 1, 1) := by decide +kernel
theorem dX7_isJoined_44 : decode cX7_isJoined 44 = .ok (.iadd, 1) := by decide +kernel
theorem dX7_isJoined_45 : decode cX7_isJoined 45 = .ok (.iaload, 1) := by decide +kernel
theorem dX7_isJoined_46 : decode cX7_isJoined 46 = .ok (.aload_n 0, 1) := by decide +kernel
theorem dX7_isJoined_47 : decode cX7_isJoined 47 = .ok (.getfield 26, 3) := by decide +kernel
theorem dX7_isJoined_50 : decode cX7_isJoined 50 = .ok (.iload_n 1, 1) := by decide +kernel
theorem dX7_isJoined_51 : decode cX7_isJoined 51 = .ok (.iaload, 1) := by decide +kernel
theorem dX7_isJoined_52 : decode cX7_isJoined 52 = .ok (.isub, 1) := by decide +kernel
theorem dX7_isJoined_53 : decode cX7_isJoined 53 = .ok (.istore_n 2, 1) := by decide +kernel
theorem dX7_isJoined_54 : decode cX7_isJoined 54 = .ok (.aload_n 0, 1) := by decide +kernel
theorem dX7_isJoined_55 : decode cX7_isJoined 55 = .ok (.getfield 66, 3) := by decide +kernel
theorem dX7_isJoined_58 : decode cX7_isJoined 58 = .ok (.invokestatic 76, 3) := by decide +kernel
theorem dX7_isJoined_61 : decode cX7_isJoined 61 = .ok (.ifCond .ne 19, 3) := by decide +kernel
theorem dX7_isJoined_64 : decode cX7_isJoined 64 = .ok (.iload_n 2, 1) := by decide +kernel
theorem dX7_isJoined_65 : decode cX7_isJoined 65 = .ok (.iconst 1, 1) := by decide +kernel
theorem dX7_isJoined_66 : decode cX7_isJoined 66 = .ok (.if_icmp .eq 8, 3) := by decide +kernel
theorem dX7_isJoined_69 : decode cX7_isJoined 69 = .ok (.iload_n 2, 1) := by decide +kernel
theorem dX7_isJoined_70 : decode cX7_isJoined 70 = .ok (.iconst (-1), 1) := by decide +kernel
theorem dX7_isJoined_71 : decode cX7_isJoined 71 = .ok (.if_icmp .ne 7, 3) := by decide +kernel
theorem dX7_isJoined_74 : decode cX7_isJoined 74 = .ok (.iconst 1, 1) := by decide +kernel
theorem dX7_isJoined_75 : decode cX7_isJoined 75 = .ok (.goto 4, 3) := by decide +kernel
theorem dX7_isJoined_78 : decode cX7_isJoined 78 = .ok (.iconst 0, 1) := by decide +kernel
theorem dX7_isJoined_79 : decode cX7_isJoined 79 = .ok (.ireturn, 1) := by decide +kernel
theorem dX7_isJoined_80 : decode cX7_isJoined 80 = .ok (.aload_n 0, 1) := by decide +kernel
theorem dX7_isJoined_81 : decode cX7_isJoined 81 = .ok (.getfield 29, 3) := by decide +kernel
theorem dX7_isJoined_84 : decode cX7_isJoined 84 = .ok (.iload_n 1, 1) := by decide +kernel
theorem dX7_isJoined_85 : decode cX7_isJoined 85 = .ok (.iaload, 1) := by decide +kernel
theorem dX7_isJoined_86 : decode cX7_isJoined 86 = .ok (.aload_n 0, 1) := by decide +kernel
theorem dX7_isJoined_87 : decode cX7_isJoined 87 = .ok (.getfield 29, 3) := by decide +kernel
theorem dX7_isJoined_90 : decode cX7_isJoined 90 = .ok (.iload_n 1, 1) := by decide +kernel
theorem dX7_isJoined_91 : decode cX7_isJoined 91 = .ok (.iconst 1, 1) := by decide +kernel
theorem dX7_isJoined_92 : decode cX7_isJoined 92 = .ok (.iadd, 1) := by decide +kernel
theorem dX7_isJoined_93 : decode cX7_isJoined 93 = .ok (.iaload, 1) := by decide +kernel
theorem dX7_isJoined_94 : decode cX7_isJoined 94 = .ok (.if_icmp .ne 25, 3) := by decide +kernel
theorem dX7_isJoined_97 : decode cX7_isJoined 97 = .ok (.iload_n 2, 1) := by decide +kernel
theorem dX7_isJoined_98 : decode cX7_isJoined 98 = .ok (.aload_n 0, 1) := by decide +kernel
theorem dX7_isJoined_99 : decode cX7_isJoined 99 = .ok (.getfield 29, 3) := by decide +kernel
theorem dX7_isJoined_102 : decode cX7_isJoined 102 = .ok (.iload_n 1, 1) := by decide +kernel
theorem dX7_isJoined_103 : decode cX7_isJoined 103 = .ok (.iaload, 1) := by decide +kernel
theorem dX7_isJoined_104 : decode cX7_isJoined 104 = .ok (.ifCond .ne 7, 3) := by decide +kernel
theorem dX7_isJoined_107 : decode cX7_isJoined 107 = .ok (.iconst 1, 1) := by decide +kernel
theorem dX7_isJoined_108 : decode cX7_isJoined 108 = .ok (.goto 4, 3) := by decide +kernel
theorem dX7_isJoined_111 : decode cX7_isJoined 111 = .ok (.iconst (-1), 1) := by decide +kernel
theorem dX7_isJoined_112 : decode cX7_isJoined 112 = .ok (.if_icmp .ne 7, 3) := by decide +kernel
theorem dX7_isJoined_115 : decode cX7_isJoined 115 = .ok (.iconst 1, 1) := by decide +kernel
theorem dX7_isJoined_116 : decode cX7_isJoined 116 = .ok (.goto 4, 3) := by decide +kernel
theorem dX7_isJoined_119 : decode cX7_isJoined 119 = .ok (.iconst 0, 1) := by decide +kernel
theorem dX7_isJoined_120 : decode cX7_isJoined 120 = .ok (.ireturn, 1) := by decide +kernel
theorem dX7_gaps_0 : decode cX7_gaps 0 = .ok (.iconst 0, 1) := by decide +kernel
theorem dX7_gaps_1 : decode cX7_gaps 1 = .ok (.istore_n 1, 1) := by decide +kernel
theorem dX7_gaps_2 : decode cX7_gaps 2 = .ok (.iconst 0, 1) := by decide +kernel
theorem dX7_gaps_3 : decode cX7_gaps 3 = .ok (.istore_n 2, 1) := by decide +kernel
theorem dX7_gaps_4 : decode cX7_gaps 4 = .ok (.iload_n 2, 1) := by decide +kernel
theorem dX7_gaps_5 : decode cX7_gaps 5 = .ok (.aload_n 0, 1) := by decide +kernel
theorem dX7_gaps_6 : decode cX7_gaps 6 = .ok (.getfield 59, 3) := by decide +kernel
theorem dX7_gaps_9 : decode cX7_gaps 9 = .ok (.if_icmp .ge 25, 3) := by decide +kernel
theorem dX7_gaps_12 : decode cX7_gaps 12 = .ok (.iload_n 1, 1) := by decide +kernel
theorem dX7_gaps_13 : decode cX7_gaps 13 = .ok (.aload_n 0, 1) := by decide +kernel
theorem dX7_gaps_14 : decode cX7_gaps 14 = .ok (.iload_n 2, 1) := by decide +kernel
theorem dX7_gaps_15 : decode cX7_gaps 15 = .ok (.invokevirtual 80, 3) := by decide +kernel
theorem dX7_gaps_18 : decode cX7_gaps 18 = .ok (.ifCond .eq 7, 3) := by decide +kernel
theorem dX7_gaps_21 : decode cX7_gaps 21 = .ok (.iconst 0, 1) := by decide +kernel
theorem dX7_gaps_22 : decode cX7_gaps 22 = .ok (.goto 4, 3) := by decide +kernel
theorem dX7_gaps_25 : decode cX7_gaps 25 = .ok (.iconst 1, 1) := by decide +kernel
theorem dX7_gaps_26 : decode cX7_gaps 26 = .ok (.iadd, 1) := by decide +kernel
theorem dX7_gaps_27 : decode cX7_gaps 27 = .ok (.istore_n 1, 1) := by decide +kernel
theorem dX7_gaps_28 : decode cX7_gaps 28 = .ok (.iinc 2 1, 3) := by decide +kernel
theorem dX7_gaps_31 : decode cX7_gaps 31 = .ok (.goto (-27), 3) := by decide +kernel
theorem dX7_gaps_34 : decode cX7_gaps 34 = .ok (.iload_n 1, 1) := by decide +kernel
theorem dX7_gaps_35 : decode cX7_gaps 35 = .ok (.ireturn, 1) := by decide +kernel
theorem dX7_isSorted_0 : decode cX7_isSorted 0 = .ok (.iconst 1, 1) := by decide +kernel
theorem dX7_isSorted_1 : decode cX7_isSorted 1 = .ok (.istore_n 1, 1) := by decide +kernel
theorem dX7_isSorted_2 : decode cX7_isSorted 2 = .ok (.iconst 0, 1) := by decide +kernel
theorem dX7_isSorted_3 : decode cX7_isSorted 3 = .ok (.istore_n 2, 1) := by decide +kernel
theorem dX7_isSorted_4 : decode cX7_isSorted 4 = .ok (.iload_n 2, 1) := by decide +kernel
theorem dX7_isSorted_5 : decode cX7_isSorted 5 = .ok (.aload_n 0, 1) := by decide +kernel
theorem dX7_isSorted_6 : decode cX7_isSorted 6 = .ok (.getfield 59, 3) := by decide +kernel
theorem dX7_isSorted_9 : decode cX7_isSorted 9 = .ok (.if_icmp .ge 40, 3) := by decide +kernel
theorem dX7_isSorted_12 : decode cX7_isSorted 12 = .ok (.iload_n 1, 1) := by decide +kernel
theorem dX7_isSorted_13 : decode cX7_isSorted 13 = .ok (.ifCond .eq 28, 3) := by decide +kernel
theorem dX7_isSorted_16 : decode cX7_isSorted 16 = .ok (.aload_n 0, 1) := by decide +kernel
theorem dX7_isSorted_17 : decode cX7_isSorted 17 = .ok (.getfield 26, 3) := by decide +kernel
theorem dX7_isSorted_20 : decode cX7_isSorted 20 = .ok (.iload_n 2, 1) := by decide +kernel
theorem dX7_isSorted_21 : decode cX7_isSorted 21 = .ok (.iaload, 1) := by decide +kernel
theorem dX7_isSorted_22 : decode cX7_isSorted 22 = .ok (.iload_n 2, 1) := by decide +kernel
theorem dX7_isSorted_23 : decode cX7_isSorted 23 = .ok (.iconst 1, 1) := by decide +kernel
theorem dX7_isSorted_24 : decode cX7_isSorted 24 = .ok (.iadd, 1) := by decide +kernel
theorem dX7_isSorted_25 : decode cX7_isSorted 25 = .ok (.if_icmp .ne 16, 3) := by decide +kernel
theorem dX7_isSorted_28 : decode cX7_isSorted 28 = .ok (.aload_n 0, 1) := by decide +kernel
theorem dX7_isSorted_29 : decode cX7_isSorted 29 = .ok (.getfield 29, 3) := by decide +kernel
theorem dX7_isSorted_32 : decode cX7_isSorted 32 = .ok (.iload_n 2, 1) := by decide +kernel
theorem dX7_isSorted_33 : decode cX7_isSorted 33 = .ok (.iaload, 1) := by decide +kernel
theorem dX7_isSorted_34 : decode cX7_isSorted 34 = .ok (.ifCond .ne 7, 3) := by decide +kernel
theorem dX7_isSorted_37 : decode cX7_isSorted 37 = .ok (.iconst 1, 1) := by decide +kernel
theorem dX7_isSorted_38 : decode cX7_isSorted 38 = .ok (.goto 4, 3) := by decide +kernel
theorem dX7_isSorted_41 : decode cX7_isSorted 41 = .ok (.iconst 0, 1) := by decide +kernel
theorem dX7_isSorted_42 : decode cX7_isSorted 42 = .ok (.istore_n 1, 1) := by decide +kernel
theorem dX7_isSorted_43 : decode cX7_isSorted 43 = .ok (.iinc 2 1, 3) := by decide +kernel
theorem dX7_isSorted_46 : decode cX7_isSorted 46 = .ok (.goto (-42), 3) := by decide +kernel
theorem dX7_isSorted_49 : decode cX7_isSorted 49 = .ok (.iload_n 1, 1) := by decide +kernel
theorem dX7_isSorted_50 : decode cX7_isSorted 50 = .ok (.ireturn, 1) := by decide +kernel
theorem dX7_can_0 : decode cX7_can 0 = .ok (.iconst 0, 1) := by decide +kernel
theorem dX7_can_1 : decode cX7_can 1 = .ok (.istore_n 2, 1) := by decide +kernel
theorem dX7_can_2 : decode cX7_can 2 = .ok (.iconst 0, 1) := by decide +kernel
theorem dX7_can_3 : decode cX7_can 3 = .ok (.istore_n 3, 1) := by decide +kernel
theorem dX7_can_4 : decode cX7_can 4 = .ok (.iload_n 3, 1) := by decide +kernel
theorem dX7_can_5 : decode cX7_can 5 = .ok (.iload_n 1, 1) := by decide +kernel
theorem dX7_can_6 : decode cX7_can 6 = .ok (.if_icmp .ge 18, 3) := by decide +kernel
theorem dX7_can_9 : decode cX7_can 9 = .ok (.iload_n 2, 1) := by decide +kernel
theorem dX7_can_10 : decode cX7_can 10 = .ok (.aload_n 0, 1) := by decide +kernel
theorem dX7_can_11 : decode cX7_can 11 = .ok (.getfield 26, 3) := by decide +kernel
theorem dX7_can_14 : decode cX7_can 14 = .ok (.iload_n 3, 1) := by decide +kernel
theorem dX7_can_15 : decode cX7_can 15 = .ok (.iaload, 1) := by decide +kernel
theorem dX7_can_16 : decode cX7_can 16 = .ok (.iadd, 1) := by decide +kernel
theorem dX7_can_17 : decode cX7_can 17 = .ok (.istore_n 2, 1) := by decide +kernel
theorem dX7_can_18 : decode cX7_can 18 = .ok (.iinc 3 1, 3) := by decide +kernel
theorem dX7_can_21 : decode cX7_can 21 = .ok (.goto (-17), 3) := by decide +kernel
theorem dX7_can_24 : decode cX7_can 24 = .ok (.aload_n 0, 1) := by decide +kernel
theorem dX7_can_25 : decode cX7_can 25 = .ok (.getfield 66, 3) := by decide +kernel
theorem dX7_can_28 : decode cX7_can 28 = .ok (.iconst 2, 1) := by decide +kernel
theorem dX7_can_29 : decode cX7_can 29 = .ok (.if_icmp .ne 21, 3) := by decide +kernel
theorem dX7_can_32 : decode cX7_can 32 = .ok (.aload_n 0, 1) := by decide +kernel
theorem dX7_can_33 : decode cX7_can 33 = .ok (.iload_n 1, 1) := by decide +kernel
theorem dX7_can_34 : decode cX7_can 34 = .ok (.iconst 1, 1) := by decide +kernel
theorem dX7_can_35 : decode cX7_can 35 = .ok (.isub, 1) := by decide +kernel
theorem dX7_can_36 : decode cX7_can 36 = .ok (.invokevirtual 80, 3) := by decide +kernel
theorem dX7_can_39 : decode cX7_can 39 = .ok (.ifCond .ne 7, 3) := by decide +kernel
theorem dX7_can_42 : decode cX7_can 42 = .ok (.iconst 1, 1) := by decide +kernel
theorem dX7_can_43 : decode cX7_can 43 = .ok (.goto 28, 3) := by decide +kernel
theorem dX7_can_46 : decode cX7_can 46 = .ok (.iconst 0, 1) := by decide +kernel
theorem dX7_can_47 : decode cX7_can 47 = .ok (.goto 24, 3) := by decide +kernel
theorem dX7_can_50 : decode cX7_can 50 = .ok (.aload_n 0, 1) := by decide +kernel
theorem dX7_can_51 : decode cX7_can 51 = .ok (.getfield 66, 3) := by decide +kernel
theorem dX7_can_54 : decode cX7_can 54 = .ok (.iconst 3, 1) := by decide +kernel
theorem dX7_can_55 : decode cX7_can 55 = .ok (.if_icmp .ne 11, 3) := by decide +kernel
theorem dX7_can_58 : decode cX7_can 58 = .ok (.iload_n 2, 1) := by decide +kernel
theorem dX7_can_59 : decode cX7_can 59 = .ok (.aload_n 0, 1) := by decide +kernel
theorem dX7_can_60 : decode cX7_can 60 = .ok (.getfield 69, 3) := by decide +kernel
theorem dX7_can_63 : decode cX7_can 63 = .ok (.if_icmp .gt 7, 3) := by decide +kernel
theorem dX7_can_66 : decode cX7_can 66 = .ok (.iconst 1, 1) := by decide +kernel
theorem dX7_can_67 : decode cX7_can 67 = .ok (.goto 4, 3) := by decide +kernel
theorem dX7_can_70 : decode cX7_can 70 = .ok (.iconst 0, 1) := by decide +kernel
theorem dX7_can_71 : decode cX7_can 71 = .ok (.ireturn, 1) := by decide +kernel
theorem dX7_turns_0 : decode cX7_turns 0 = .ok (.aload_n 0, 1) := by decide +kernel
theorem dX7_turns_1 : decode cX7_turns 1 = .ok (.getfield 66, 3) := by decide +kernel
theorem dX7_turns_4 : decode cX7_turns 4 = .ok (.invokestatic 76, 3) := by decide +kernel
theorem dX7_turns_7 : decode cX7_turns 7 = .ok (.ifCond .eq 7, 3) := by decide +kernel
theorem dX7_turns_10 : decode cX7_turns 10 = .ok (.iconst 1, 1) := by decide +kernel
theorem dX7_turns_11 : decode cX7_turns 11 = .ok (.goto 4, 3) := by decide +kernel
theorem dX7_turns_14 : decode cX7_turns 14 = .ok (.iconst 0, 1) := by decide +kernel
theorem dX7_turns_15 : decode cX7_turns 15 = .ok (.istore_n 2, 1) := by decide +kernel
theorem dX7_turns_16 : decode cX7_turns 16 = .ok (.iconst 0, 1) := by decide +kernel
theorem dX7_turns_17 : decode cX7_turns 17 = .ok (.istore_n 3, 1) := by decide +kernel
theorem dX7_turns_18 : decode cX7_turns 18 = .ok (.iload_n 3, 1) := by decide +kernel
theorem dX7_turns_19 : decode cX7_turns 19 = .ok (.iload_n 1, 1) := by decide +kernel
theorem dX7_turns_20 : decode cX7_turns 20 = .ok (.iconst 1, 1) := by decide +kernel
theorem dX7_turns_21 : decode cX7_turns 21 = .ok (.iadd, 1) := by decide +kernel
theorem dX7_turns_22 : decode cX7_turns 22 = .ok (.iconst 2, 1) := by decide +kernel
theorem dX7_turns_23 : decode cX7_turns 23 = .ok (.idiv, 1) := by decide +kernel
theorem dX7_turns_24 : decode cX7_turns 24 = .ok (.if_icmp .ge 80, 3) := by decide +kernel
theorem dX7_turns_27 : decode cX7_turns 27 = .ok (.iload_n 1, 1) := by decide +kernel
theorem dX7_turns_28 : decode cX7_turns 28 = .ok (.iconst 1, 1) := by decide +kernel
theorem dX7_turns_29 : decode cX7_turns 29 = .ok (.isub, 1) := by decide +kernel
theorem dX7_turns_30 : decode cX7_turns 30 = .ok (.iload_n 3, 1) := by decide +kernel
theorem dX7_turns_31 : decode cX7_turns 31 = .ok (.isub, 1) := by decide +kernel
theorem dX7_turns_32 : decode cX7_turns 32 = .ok (.istore 4, 2) := by decide +kernel
theorem dX7_turns_34 : decode cX7_turns 34 = .ok (.aload_n 0, 1) := by decide +kernel
theorem dX7_turns_35 : decode cX7_turns 35 = .ok (.getfield 26, 3) := by decide +kernel
theorem dX7_turns_38 : decode cX7_turns 38 = .ok (.iload_n 3, 1) := by decide +kernel
theorem dX7_turns_39 : decode cX7_turns 39 = .ok (.iaload, 1) := by decide +kernel
theorem dX7_turns_40 : decode cX7_turns 40 = .ok (.istore 5, 2) := by decide +kernel
theorem dX7_turns_42 : decode cX7_turns 42 = .ok (.aload_n 0, 1) := by decide +kernel
theorem dX7_turns_43 : decode cX7_turns 43 = .ok (.getfield 29, 3) := by decide +kernel
theorem dX7_turns_46 : decode cX7_turns 46 = .ok (.iload_n 3, 1) := by decide +kernel
theorem dX7_turns_47 : decode cX7_turns 47 = .ok (.iaload, 1) := by decide +kernel
theorem dX7_turns_48 : decode cX7_turns 48 = .ok (.istore 6, 2) := by decide +kernel
theorem dX7_turns_50 : decode cX7_turns 50 = .ok (.aload_n 0, 1) := by decide +kernel
theorem dX7_turns_51 : decode cX7_turns 51 = .ok (.getfield 26, 3) := by decide +kernel
theorem dX7_turns_54 : decode cX7_turns 54 = .ok (.iload_n 3, 1) := by decide +kernel
theorem dX7_turns_55 : decode cX7_turns 55 = .ok (.aload_n 0, 1) := by decide +kernel
theorem dX7_turns_56 : decode cX7_turns 56 = .ok (.getfield 26, 3) := by decide +kernel
theorem dX7_turns_59 : decode cX7_turns 59 = .ok (.iload 4, 2) := by decide +kernel
theorem dX7_turns_61 : decode cX7_turns 61 = .ok (.iaload, 1) := by decide +kernel
theorem dX7_turns_62 : decode cX7_turns 62 = .ok (.iastore, 1) := by decide +kernel
theorem dX7_turns_63 : decode cX7_turns 63 = .ok (.aload_n 0, 1) := by decide +kernel
theorem dX7_turns_64 : decode cX7_turns 64 = .ok (.getfield 29, 3) := by decide +kernel
theorem dX7_turns_67 : decode cX7_turns 67 = .ok (.iload_n 3, 1) := by decide +kernel
theorem dX7_turns_68 : decode cX7_turns 68 = .ok (.aload_n 0, 1) := by decide +kernel
theorem dX7_turns_69 : decode cX7_turns 69 = .ok (.getfield 29, 3) := by decide +kernel
theorem dX7_turns_72 : decode cX7_turns 72 = .ok (.iload 4, 2) := by decide +kernel
theorem dX7_turns_74 : decode cX7_turns 74 = .ok (.iaload, 1) := by decide +kernel
theorem dX7_turns_75 : decode cX7_turns 75 = .ok (.iload_n 2, 1) := by decide +kernel
theorem dX7_turns_76 : decode cX7_turns 76 = .ok (.ixor, 1) := by decide +kernel
theorem dX7_turns_77 : decode cX7_turns 77 = .ok (.iastore, 1) := by decide +kernel
theorem dX7_turns_78 : decode cX7_turns 78 = .ok (.aload_n 0, 1) := by decide +kernel
theorem dX7_turns_79 : decode cX7_turns 79 = .ok (.getfield 26, 3) := by decide +kernel
theorem dX7_turns_82 : decode cX7_turns 82 = .ok (.iload 4, 2) := by decide +kernel
theorem dX7_turns_84 : decode cX7_turns 84 = .ok (.iload 5, 2) := by decide +kernel
theorem dX7_turns_86 : decode cX7_turns 86 = .ok (.iastore, 1) := by decide +kernel
theorem dX7_turns_87 : decode cX7_turns 87 = .ok (.aload_n 0, 1) := by decide +kernel
theorem dX7_turns_88 : decode cX7_turns 88 = .ok (.getfield 29, 3) := by decide +kernel
theorem dX7_turns_91 : decode cX7_turns 91 = .ok (.iload 4, 2) := by decide +kernel
theorem dX7_turns_93 : decode cX7_turns 93 = .ok (.iload 6, 2) := by decide +kernel
theorem dX7_turns_95 : decode cX7_turns 95 = .ok (.iload_n 2, 1) := by decide +kernel
theorem dX7_turns_96 : decode cX7_turns 96 = .ok (.ixor, 1) := by decide +kernel
theorem dX7_turns_97 : decode cX7_turns 97 = .ok (.iastore, 1) := by decide +kernel
theorem dX7_turns_98 : decode cX7_turns 98 = .ok (.iinc 3 1, 3) := by decide +kernel
theorem dX7_turns_101 : decode cX7_turns 101 = .ok (.goto (-83), 3) := by decide +kernel
theorem dX7_turns_104 : decode cX7_turns 104 = .ok (.return_, 1) := by decide +kernel
theorem dX7_factorial_0 : decode cX7_factorial 0 = .ok (.iconst 1, 1) := by decide +kernel
theorem dX7_factorial_1 : decode cX7_factorial 1 = .ok (.istore_n 1, 1) := by decide +kernel
theorem dX7_factorial_2 : decode cX7_factorial 2 = .ok (.iconst 2, 1) := by decide +kernel
theorem dX7_factorial_3 : decode cX7_factorial 3 = .ok (.istore_n 2, 1) := by decide +kernel
theorem dX7_factorial_4 : decode cX7_factorial 4 = .ok (.iload_n 2, 1) := by decide +kernel
theorem dX7_factorial_5 : decode cX7_factorial 5 = .ok (.iload_n 0, 1) := by decide +kernel
theorem dX7_factorial_6 : decode cX7_factorial 6 = .ok (.if_icmp .gt 13, 3) := by decide +kernel
theorem dX7_factorial_9 : decode cX7_factorial 9 = .ok (.iload_n 1, 1) := by decide +kernel
theorem dX7_factorial_10 : decode cX7_factorial 10 = .ok (.iload_n 2, 1) := by decide +kernel
theorem dX7_factorial_11 : decode cX7_factorial 11 = .ok (.imul, 1) := by decide +kernel
theorem dX7_factorial_12 : decode cX7_factorial 12 = .ok (.istore_n 1, 1) := by decide +kernel
theorem dX7_factorial_13 : decode cX7_factorial 13 = .ok (.iinc 2 1, 3) := by decide +kernel
theorem dX7_factorial_16 : decode cX7_factorial 16 = .ok (.goto (-12), 3) := by decide +kernel
theorem dX7_factorial_19 : decode cX7_factorial 19 = .ok (.iload_n 1, 1) := by decide +kernel
theorem dX7_factorial_20 : decode cX7_factorial 20 = .ok (.ireturn, 1) := by decide +kernel
theorem dX7_all_0 : decode cX7_all 0 = .ok (.aload_n 0, 1) := by decide +kernel
theorem dX7_all_1 : decode cX7_all 1 = .ok (.getfield 66, 3) := by decide +kernel
theorem dX7_all_4 : decode cX7_all 4 = .ok (.invokestatic 76, 3) := by decide +kernel
theorem dX7_all_7 : decode cX7_all 7 = .ok (.ifCond .eq 18, 3) := by decide +kernel
theorem dX7_all_10 : decode cX7_all 10 = .ok (.aload_n 0, 1) := by decide +kernel
theorem dX7_all_11 : decode cX7_all 11 = .ok (.getfield 59, 3) := by decide +kernel
theorem dX7_all_14 : decode cX7_all 14 = .ok (.invokestatic 83, 3) := by decide +kernel
theorem dX7_all_17 : decode cX7_all 17 = .ok (.aload_n 0, 1) := by decide +kernel
theorem dX7_all_18 : decode cX7_all 18 = .ok (.getfield 59, 3) := by decide +kernel
theorem dX7_all_21 : decode cX7_all 21 = .ok (.ishl, 1) := by decide +kernel
theorem dX7_all_22 : decode cX7_all 22 = .ok (.goto 10, 3) := by decide +kernel
theorem dX7_all_25 : decode cX7_all 25 = .ok (.aload_n 0, 1) := by decide +kernel
theorem dX7_all_26 : decode cX7_all 26 = .ok (.getfield 59, 3) := by decide +kernel
theorem dX7_all_29 : decode cX7_all 29 = .ok (.invokestatic 83, 3) := by decide +kernel
theorem dX7_all_32 : decode cX7_all 32 = .ok (.ireturn, 1) := by decide +kernel
theorem dX7_rank_0 : decode cX7_rank 0 = .ok (.iconst 0, 1) := by decide +kernel
theorem dX7_rank_1 : decode cX7_rank 1 = .ok (.istore_n 1, 1) := by decide +kernel
theorem dX7_rank_2 : decode cX7_rank 2 = .ok (.iconst 0, 1) := by decide +kernel
theorem dX7_rank_3 : decode cX7_rank 3 = .ok (.istore_n 2, 1) := by decide +kernel
theorem dX7_rank_4 : decode cX7_rank 4 = .ok (.iload_n 2, 1) := by decide +kernel
theorem dX7_rank_5 : decode cX7_rank 5 = .ok (.aload_n 0, 1) := by decide +kernel
theorem dX7_rank_6 : decode cX7_rank 6 = .ok (.getfield 59, 3) := by decide +kernel
theorem dX7_rank_9 : decode cX7_rank 9 = .ok (.if_icmp .ge 66, 3) := by decide +kernel
theorem dX7_rank_12 : decode cX7_rank 12 = .ok (.iconst 0, 1) := by decide +kernel
theorem dX7_rank_13 : decode cX7_rank 13 = .ok (.istore_n 3, 1) := by decide +kernel
theorem dX7_rank_14 : decode cX7_rank 14 = .ok (.iload_n 2, 1) := by decide +kernel
theorem dX7_rank_15 : decode cX7_rank 15 = .ok (.iconst 1, 1) := by decide +kernel
theorem dX7_rank_16 : decode cX7_rank 16 = .ok (.iadd, 1) := by decide +kernel
theorem dX7_rank_17 : decode cX7_rank 17 = .ok (.istore 4, 2) := by decide +kernel
theorem dX7_rank_19 : decode cX7_rank 19 = .ok (.iload 4, 2) := by decide +kernel
theorem dX7_rank_21 : decode cX7_rank 21 = .ok (.aload_n 0, 1) := by decide +kernel
theorem dX7_rank_22 : decode cX7_rank 22 = .ok (.getfield 59, 3) := by decide +kernel
theorem dX7_rank_25 : decode cX7_rank 25 = .ok (.if_icmp .ge 33, 3) := by decide +kernel
theorem dX7_rank_28 : decode cX7_rank 28 = .ok (.iload_n 3, 1) := by decide +kernel
theorem dX7_rank_29 : decode cX7_rank 29 = .ok (.aload_n 0, 1) := by decide +kernel
theorem dX7_rank_30 : decode cX7_rank 30 = .ok (.getfield 26, 3) := by decide +kernel
theorem dX7_rank_33 : decode cX7_rank 33 = .ok (.iload 4, 2) := by decide +kernel
theorem dX7_rank_35 : decode cX7_rank 35 = .ok (.iaload, 1) := by decide +kernel
theorem dX7_rank_36 : decode cX7_rank 36 = .ok (.aload_n 0, 1) := by decide +kernel
theorem dX7_rank_37 : decode cX7_rank 37 = .ok (.getfield 26, 3) := by decide +kernel
theorem dX7_rank_40 : decode cX7_rank 40 = .ok (.iload_n 2, 1) := by decide +kernel
theorem dX7_rank_41 : decode cX7_rank 41 = .ok (.iaload, 1) := by decide +kernel
theorem dX7_rank_42 : decode cX7_rank 42 = .ok (.if_icmp .ge 7, 3) := by decide +kernel
theorem dX7_rank_45 : decode cX7_rank 45 = .ok (.iconst 1, 1) := by decide +kernel
theorem dX7_rank_46 : decode cX7_rank 46 = .ok (.goto 4, 3) := by decide +kernel
theorem dX7_rank_49 : decode cX7_rank 49 = .ok (.iconst 0, 1) := by decide +kernel
theorem dX7_rank_50 : decode cX7_rank 50 = .ok (.iadd, 1) := by decide +kernel
theorem dX7_rank_51 : decode cX7_rank 51 = .ok (.istore_n 3, 1) := by decide +kernel
theorem dX7_rank_52 : decode cX7_rank 52 = .ok (.iinc 4 1, 3) := by decide +kernel
theorem dX7_rank_55 : decode cX7_rank 55 = .ok (.goto (-36), 3) := by decide +kernel
theorem dX7_rank_58 : decode cX7_rank 58 = .ok (.iload_n 1, 1) := by decide +kernel
theorem dX7_rank_59 : decode cX7_rank 59 = .ok (.aload_n 0, 1) := by decide +kernel
theorem dX7_rank_60 : decode cX7_rank 60 = .ok (.getfield 59, 3) := by decide +kernel
theorem dX7_rank_63 : decode cX7_rank 63 = .ok (.iload_n 2, 1) := by decide +kernel
theorem dX7_rank_64 : decode cX7_rank 64 = .ok (.isub, 1) := by decide +kernel
theorem dX7_rank_65 : decode cX7_rank 65 = .ok (.imul, 1) := by decide +kernel
theorem dX7_rank_66 : decode cX7_rank 66 = .ok (.iload_n 3, 1) := by decide +kernel
theorem dX7_rank_67 : decode cX7_rank 67 = .ok (.iadd, 1) := by decide +kernel
theorem dX7_rank_68 : decode cX7_rank 68 = .ok (.istore_n 1, 1) := by decide +kernel
theorem dX7_rank_69 : decode cX7_rank 69 = .ok (.iinc 2 1, 3) := by decide +kernel
theorem dX7_rank_72 : decode cX7_rank 72 = .ok (.goto (-68), 3) := by decide +kernel
theorem dX7_rank_75 : decode cX7_rank 75 = .ok (.aload_n 0, 1) := by decide +kernel
theorem dX7_rank_76 : decode cX7_rank 76 = .ok (.getfield 66, 3) := by decide +kernel
theorem dX7_rank_79 : decode cX7_rank 79 = .ok (.invokestatic 76, 3) := by decide +kernel
theorem dX7_rank_82 : decode cX7_rank 82 = .ok (.ifCond .eq 17, 3) := by decide +kernel
theorem dX7_rank_85 : decode cX7_rank 85 = .ok (.iload_n 1, 1) := by decide +kernel
theorem dX7_rank_86 : decode cX7_rank 86 = .ok (.aload_n 0, 1) := by decide +kernel
theorem dX7_rank_87 : decode cX7_rank 87 = .ok (.getfield 59, 3) := by decide +kernel
theorem dX7_rank_90 : decode cX7_rank 90 = .ok (.ishl, 1) := by decide +kernel
theorem dX7_rank_91 : decode cX7_rank 91 = .ok (.aload_n 0, 1) := by decide +kernel
theorem dX7_rank_92 : decode cX7_rank 92 = .ok (.invokevirtual 87, 3) := by decide +kernel
theorem dX7_rank_95 : decode cX7_rank 95 = .ok (.iadd, 1) := by decide +kernel
theorem dX7_rank_96 : decode cX7_rank 96 = .ok (.goto 4, 3) := by decide +kernel
theorem dX7_rank_99 : decode cX7_rank 99 = .ok (.iload_n 1, 1) := by decide +kernel
theorem dX7_rank_100 : decode cX7_rank 100 = .ok (.ireturn, 1) := by decide +kernel
theorem dX7_unranks_0 : decode cX7_unranks 0 = .ok (.aload_n 0, 1) := by decide +kernel
theorem dX7_unranks_1 : decode cX7_unranks 1 = .ok (.getfield 66, 3) := by decide +kernel
theorem dX7_unranks_4 : decode cX7_unranks 4 = .ok (.invokestatic 76, 3) := by decide +kernel
theorem dX7_unranks_7 : decode cX7_unranks 7 = .ok (.ifCond .eq 16, 3) := by decide +kernel
theorem dX7_unranks_10 : decode cX7_unranks 10 = .ok (.iload_n 1, 1) := by decide +kernel
theorem dX7_unranks_11 : decode cX7_unranks 11 = .ok (.iconst 1, 1) := by decide +kernel
theorem dX7_unranks_12 : decode cX7_unranks 12 = .ok (.aload_n 0, 1) := by decide +kernel
theorem dX7_unranks_13 : decode cX7_unranks 13 = .ok (.getfield 59, 3) := by decide +kernel
theorem dX7_unranks_16 : decode cX7_unranks 16 = .ok (.ishl, 1) := by decide +kernel
theorem dX7_unranks_17 : decode cX7_unranks 17 = .ok (.iconst 1, 1) := by decide +kernel
theorem dX7_unranks_18 : decode cX7_unranks 18 = .ok (.isub, 1) := by decide +kernel
theorem dX7_unranks_19 : decode cX7_unranks 19 = .ok (.iand, 1) := by decide +kernel
theorem dX7_unranks_20 : decode cX7_unranks 20 = .ok (.goto 4, 3) := by decide +kernel
theorem dX7_unranks_23 : decode cX7_unranks 23 = .ok (.iconst 0, 1) := by decide +kernel
theorem dX7_unranks_24 : decode cX7_unranks 24 = .ok (.istore_n 2, 1) := by decide +kernel
theorem dX7_unranks_25 : decode cX7_unranks 25 = .ok (.aload_n 0, 1) := by decide +kernel
theorem dX7_unranks_26 : decode cX7_unranks 26 = .ok (.getfield 66, 3) := by decide +kernel
theorem dX7_unranks_29 : decode cX7_unranks 29 = .ok (.invokestatic 76, 3) := by decide +kernel
theorem dX7_unranks_32 : decode cX7_unranks 32 = .ok (.ifCond .eq 12, 3) := by decide +kernel
theorem dX7_unranks_35 : decode cX7_unranks 35 = .ok (.iload_n 1, 1) := by decide +kernel
theorem dX7_unranks_36 : decode cX7_unranks 36 = .ok (.aload_n 0, 1) := by decide +kernel
theorem dX7_unranks_37 : decode cX7_unranks 37 = .ok (.getfield 59, 3) := by decide +kernel
theorem dX7_unranks_40 : decode cX7_unranks 40 = .ok (.ishr, 1) := by decide +kernel
theorem dX7_unranks_41 : decode cX7_unranks 41 = .ok (.goto 4, 3) := by decide +kernel
theorem dX7_unranks_44 : decode cX7_unranks 44 = .ok (.iload_n 1, 1) := by decide +kernel
theorem dX7_unranks_45 : decode cX7_unranks 45 = .ok (.istore_n 3, 1) := by decide +kernel
theorem dX7_unranks_46 : decode cX7_unranks 46 = .ok (.iconst 0, 1) := by decide +kernel
theorem dX7_unranks_47 : decode cX7_unranks 47 = .ok (.istore 4, 2) := by decide +kernel
theorem dX7_unranks_49 : decode cX7_unranks 49 = .ok (.iconst 0, 1) := by decide +kernel
theorem dX7_unranks_50 : decode cX7_unranks 50 = .ok (.istore 5, 2) := by decide +kernel
theorem dX7_unranks_52 : decode cX7_unranks 52 = .ok (.iload 5, 2) := by decide +kernel
theorem dX7_unranks_54 : decode cX7_unranks 54 = .ok (.aload_n 0, 1) := by decide +kernel
theorem dX7_unranks_55 : decode cX7_unranks 55 = .ok (.getfield 59, 3) := by decide +kernel
theorem dX7_unranks_58 : decode cX7_unranks 58 = .ok (.if_icmp .ge 111, 3) := by decide +kernel
theorem dX7_unranks_61 : decode cX7_unranks 61 = .ok (.aload_n 0, 1) := by decide +kernel
theorem dX7_unranks_62 : decode cX7_unranks 62 = .ok (.getfield 59, 3) := by decide +kernel
theorem dX7_unranks_65 : decode cX7_unranks 65 = .ok (.iconst 1, 1) := by decide +kernel
theorem dX7_unranks_66 : decode cX7_unranks 66 = .ok (.isub, 1) := by decide +kernel
theorem dX7_unranks_67 : decode cX7_unranks 67 = .ok (.iload 5, 2) := by decide +kernel
theorem dX7_unranks_69 : decode cX7_unranks 69 = .ok (.isub, 1) := by decide +kernel
theorem dX7_unranks_70 : decode cX7_unranks 70 = .ok (.invokestatic 83, 3) := by decide +kernel
theorem dX7_unranks_73 : decode cX7_unranks 73 = .ok (.istore 6, 2) := by decide +kernel
theorem dX7_unranks_75 : decode cX7_unranks 75 = .ok (.iload_n 3, 1) := by decide +kernel
theorem dX7_unranks_76 : decode cX7_unranks 76 = .ok (.iload 6, 2) := by decide +kernel
theorem dX7_unranks_78 : decode cX7_unranks 78 = .ok (.idiv, 1) := by decide +kernel
theorem dX7_unranks_79 : decode cX7_unranks 79 = .ok (.istore 7, 2) := by decide +kernel
theorem dX7_unranks_81 : decode cX7_unranks 81 = .ok (.iload_n 3, 1) := by decide +kernel
theorem dX7_unranks_82 : decode cX7_unranks 82 = .ok (.iload 6, 2) := by decide +kernel
theorem dX7_unranks_84 : decode cX7_unranks 84 = .ok (.irem, 1) := by decide +kernel
theorem dX7_unranks_85 : decode cX7_unranks 85 = .ok (.istore_n 3, 1) := by decide +kernel
theorem dX7_unranks_86 : decode cX7_unranks 86 = .ok (.iconst 1, 1) := by decide +kernel
theorem dX7_unranks_87 : decode cX7_unranks 87 = .ok (.istore 8, 2) := by decide +kernel
theorem dX7_unranks_89 : decode cX7_unranks 89 = .ok (.iload 4, 2) := by decide +kernel
theorem dX7_unranks_91 : decode cX7_unranks 91 = .ok (.iload 8, 2) := by decide +kernel
theorem dX7_unranks_93 : decode cX7_unranks 93 = .ok (.ishr, 1) := by decide +kernel
theorem dX7_unranks_94 : decode cX7_unranks 94 = .ok (.iconst 1, 1) := by decide +kernel
theorem dX7_unranks_95 : decode cX7_unranks 95 = .ok (.iand, 1) := by decide +kernel
theorem dX7_unranks_96 : decode cX7_unranks 96 = .ok (.iconst 1, 1) := by decide +kernel
theorem dX7_unranks_97 : decode cX7_unranks 97 = .ok (.if_icmp .eq 8, 3) := by decide +kernel
theorem dX7_unranks_100 : decode cX7_unranks 100 = .ok (.iload 7, 2) := by decide +kernel
theorem dX7_unranks_102 : decode cX7_unranks 102 = .ok (.ifCond .le 30, 3) := by decide +kernel
theorem dX7_unranks_105 : decode cX7_unranks 105 = .ok (.iload 7, 2) := by decide +kernel
theorem dX7_unranks_107 : decode cX7_unranks 107 = .ok (.iload 4, 2) := by decide +kernel
theorem dX7_unranks_109 : decode cX7_unranks 109 = .ok (.iload 8, 2) := by decide +kernel
theorem dX7_unranks_111 : decode cX7_unranks 111 = .ok (.ishr, 1) := by decide +kernel
theorem dX7_unranks_112 : decode cX7_unranks 112 = .ok (.iconst 1, 1) := by decide +kernel
theorem dX7_unranks_113 : decode cX7_unranks 113 = .ok (.iand, 1) := by decide +kernel
theorem dX7_unranks_114 : decode cX7_unranks 114 = .ok (.iconst 1, 1) := by decide +kernel
theorem dX7_unranks_115 : decode cX7_unranks 115 = .ok (.if_icmp .ne 7, 3) := by decide +kernel
theorem dX7_unranks_118 : decode cX7_unranks 118 = .ok (.iconst 0, 1) := by decide +kernel
theorem dX7_unranks_119 : decode cX7_unranks 119 = .ok (.goto 4, 3) := by decide +kernel
theorem dX7_unranks_122 : decode cX7_unranks 122 = .ok (.iconst 1, 1) := by decide +kernel
theorem dX7_unranks_123 : decode cX7_unranks 123 = .ok (.isub, 1) := by decide +kernel
theorem dX7_unranks_124 : decode cX7_unranks 124 = .ok (.istore 7, 2) := by decide +kernel
theorem dX7_unranks_126 : decode cX7_unranks 126 = .ok (.iinc 8 1, 3) := by decide +kernel
theorem dX7_unranks_129 : decode cX7_unranks 129 = .ok (.goto (-40), 3) := by decide +kernel
theorem dX7_unranks_132 : decode cX7_unranks 132 = .ok (.iload 4, 2) := by decide +kernel
theorem dX7_unranks_134 : decode cX7_unranks 134 = .ok (.iconst 1, 1) := by decide +kernel
theorem dX7_unranks_135 : decode cX7_unranks 135 = .ok (.iload 8, 2) := by decide +kernel
theorem dX7_unranks_137 : decode cX7_unranks 137 = .ok (.ishl, 1) := by decide +kernel
theorem dX7_unranks_138 : decode cX7_unranks 138 = .ok (.ior, 1) := by decide +kernel
theorem dX7_unranks_139 : decode cX7_unranks 139 = .ok (.istore 4, 2) := by decide +kernel
theorem dX7_unranks_141 : decode cX7_unranks 141 = .ok (.aload_n 0, 1) := by decide +kernel
theorem dX7_unranks_142 : decode cX7_unranks 142 = .ok (.getfield 26, 3) := by decide +kernel
theorem dX7_unranks_145 : decode cX7_unranks 145 = .ok (.iload 5, 2) := by decide +kernel
theorem dX7_unranks_147 : decode cX7_unranks 147 = .ok (.iload 8, 2) := by decide +kernel
theorem dX7_unranks_149 : decode cX7_unranks 149 = .ok (.iastore, 1) := by decide +kernel
theorem dX7_unranks_150 : decode cX7_unranks 150 = .ok (.aload_n 0, 1) := by decide +kernel
theorem dX7_unranks_151 : decode cX7_unranks 151 = .ok (.getfield 29, 3) := by decide +kernel
theorem dX7_unranks_154 : decode cX7_unranks 154 = .ok (.iload 5, 2) := by decide +kernel
theorem dX7_unranks_156 : decode cX7_unranks 156 = .ok (.iload_n 2, 1) := by decide +kernel
theorem dX7_unranks_157 : decode cX7_unranks 157 = .ok (.iload 5, 2) := by decide +kernel
theorem dX7_unranks_159 : decode cX7_unranks 159 = .ok (.ishr, 1) := by decide +kernel
theorem dX7_unranks_160 : decode cX7_unranks 160 = .ok (.iconst 1, 1) := by decide +kernel
theorem dX7_unranks_161 : decode cX7_unranks 161 = .ok (.iand, 1) := by decide +kernel
theorem dX7_unranks_162 : decode cX7_unranks 162 = .ok (.iastore, 1) := by decide +kernel
theorem dX7_unranks_163 : decode cX7_unranks 163 = .ok (.iinc 5 1, 3) := by decide +kernel
theorem dX7_unranks_166 : decode cX7_unranks 166 = .ok (.goto (-114), 3) := by decide +kernel
theorem dX7_unranks_169 : decode cX7_unranks 169 = .ok (.return_, 1) := by decide +kernel
theorem dX7_stack_0 : decode cX7_stack 0 = .ok (.iload_n 1, 1) := by decide +kernel
theorem dX7_stack_1 : decode cX7_stack 1 = .ok (.iconst 0, 1) := by decide +kernel
theorem dX7_stack_2 : decode cX7_stack 2 = .ok (.iconst 3, 1) := by decide +kernel
theorem dX7_stack_3 : decode cX7_stack 3 = .ok (.invokestatic 50, 3) := by decide +kernel
theorem dX7_stack_6 : decode cX7_stack 6 = .ok (.ifCond .eq 52, 3) := by decide +kernel
theorem dX7_stack_9 : decode cX7_stack 9 = .ok (.iload_n 2, 1) := by decide +kernel
theorem dX7_stack_10 : decode cX7_stack 10 = .ok (.iconst 1, 1) := by decide +kernel
theorem dX7_stack_11 : decode cX7_stack 11 = .ok (.iload_n 1, 1) := by decide +kernel
theorem dX7_stack_12 : decode cX7_stack 12 = .ok (.invokestatic 76, 3) := by decide +kernel
theorem dX7_stack_15 : decode cX7_stack 15 = .ok (.ifCond .eq 7, 3) := by decide +kernel
theorem dX7_stack_18 : decode cX7_stack 18 = .ok (.iconst 5, 1) := by decide +kernel
theorem dX7_stack_19 : decode cX7_stack 19 = .ok (.goto 5, 3) := by decide +kernel
theorem dX7_stack_22 : decode cX7_stack 22 = .ok (.bipush 6, 2) := by decide +kernel
theorem dX7_stack_24 : decode cX7_stack 24 = .ok (.invokestatic 50, 3) := by decide +kernel
theorem dX7_stack_27 : decode cX7_stack 27 = .ok (.ifCond .eq 31, 3) := by decide +kernel
theorem dX7_stack_30 : decode cX7_stack 30 = .ok (.iload_n 3, 1) := by decide +kernel
theorem dX7_stack_31 : decode cX7_stack 31 = .ok (.iload_n 1, 1) := by decide +kernel
theorem dX7_stack_32 : decode cX7_stack 32 = .ok (.iconst 3, 1) := by decide +kernel
theorem dX7_stack_33 : decode cX7_stack 33 = .ok (.if_icmp .ne 7, 3) := by decide +kernel
theorem dX7_stack_36 : decode cX7_stack 36 = .ok (.iconst 1, 1) := by decide +kernel
theorem dX7_stack_37 : decode cX7_stack 37 = .ok (.goto 4, 3) := by decide +kernel
theorem dX7_stack_40 : decode cX7_stack 40 = .ok (.iconst 0, 1) := by decide +kernel
theorem dX7_stack_41 : decode cX7_stack 41 = .ok (.iload_n 1, 1) := by decide +kernel
theorem dX7_stack_42 : decode cX7_stack 42 = .ok (.iconst 3, 1) := by decide +kernel
theorem dX7_stack_43 : decode cX7_stack 43 = .ok (.if_icmp .ne 8, 3) := by decide +kernel
theorem dX7_stack_46 : decode cX7_stack 46 = .ok (.bipush 21, 2) := by decide +kernel
theorem dX7_stack_48 : decode cX7_stack 48 = .ok (.goto 4, 3) := by decide +kernel
theorem dX7_stack_51 : decode cX7_stack 51 = .ok (.iconst 0, 1) := by decide +kernel
theorem dX7_stack_52 : decode cX7_stack 52 = .ok (.invokestatic 50, 3) := by decide +kernel
theorem dX7_stack_55 : decode cX7_stack 55 = .ok (.ifCond .ne 6, 3) := by decide +kernel
theorem dX7_stack_58 : decode cX7_stack 58 = .ok (.ldc 54, 2) := by decide +kernel
theorem dX7_stack_60 : decode cX7_stack 60 = .ok (.ireturn, 1) := by decide +kernel
theorem dX7_stack_61 : decode cX7_stack 61 = .ok (.aload_n 0, 1) := by decide +kernel
theorem dX7_stack_62 : decode cX7_stack 62 = .ok (.getfield 7, 3) := by decide +kernel
theorem dX7_stack_65 : decode cX7_stack 65 = .ok (.iconst 0, 1) := by decide +kernel
theorem dX7_stack_66 : decode cX7_stack 66 = .ok (.iaload, 1) := by decide +kernel
theorem dX7_stack_67 : decode cX7_stack 67 = .ok (.iconst 5, 1) := by decide +kernel
theorem dX7_stack_68 : decode cX7_stack 68 = .ok (.if_icmp .ne 6, 3) := by decide +kernel
theorem dX7_stack_71 : decode cX7_stack 71 = .ok (.ldc 91, 2) := by decide +kernel
theorem dX7_stack_73 : decode cX7_stack 73 = .ok (.ireturn, 1) := by decide +kernel
theorem dX7_stack_74 : decode cX7_stack 74 = .ok (.aload_n 0, 1) := by decide +kernel
theorem dX7_stack_75 : decode cX7_stack 75 = .ok (.invokevirtual 92, 3) := by decide +kernel
theorem dX7_stack_78 : decode cX7_stack 78 = .ok (.iconst 0, 1) := by decide +kernel
theorem dX7_stack_79 : decode cX7_stack 79 = .ok (.istore 4, 2) := by decide +kernel
theorem dX7_stack_81 : decode cX7_stack 81 = .ok (.iconst 1, 1) := by decide +kernel
theorem dX7_stack_82 : decode cX7_stack 82 = .ok (.istore 5, 2) := by decide +kernel
theorem dX7_stack_84 : decode cX7_stack 84 = .ok (.iload 5, 2) := by decide +kernel
theorem dX7_stack_86 : decode cX7_stack 86 = .ok (.iload_n 2, 1) := by decide +kernel
theorem dX7_stack_87 : decode cX7_stack 87 = .ok (.if_icmp .gt 19, 3) := by decide +kernel
theorem dX7_stack_90 : decode cX7_stack 90 = .ok (.bipush 10, 2) := by decide +kernel
theorem dX7_stack_92 : decode cX7_stack 92 = .ok (.iload 4, 2) := by decide +kernel
theorem dX7_stack_94 : decode cX7_stack 94 = .ok (.imul, 1) := by decide +kernel
theorem dX7_stack_95 : decode cX7_stack 95 = .ok (.iload 5, 2) := by decide +kernel
theorem dX7_stack_97 : decode cX7_stack 97 = .ok (.iadd, 1) := by decide +kernel
theorem dX7_stack_98 : decode cX7_stack 98 = .ok (.istore 4, 2) := by decide +kernel
theorem dX7_stack_100 : decode cX7_stack 100 = .ok (.iinc 5 1, 3) := by decide +kernel
theorem dX7_stack_103 : decode cX7_stack 103 = .ok (.goto (-19), 3) := by decide +kernel
theorem dX7_stack_106 : decode cX7_stack 106 = .ok (.bipush 8, 2) := by decide +kernel
theorem dX7_stack_108 : decode cX7_stack 108 = .ok (.bipush 6, 2) := by decide +kernel
theorem dX7_stack_110 : decode cX7_stack 110 = .ok (.aload_n 0, 1) := by decide +kernel
theorem dX7_stack_111 : decode cX7_stack 111 = .ok (.getfield 7, 3) := by decide +kernel
theorem dX7_stack_114 : decode cX7_stack 114 = .ok (.iconst 0, 1) := by decide +kernel
theorem dX7_stack_115 : decode cX7_stack 115 = .ok (.iaload, 1) := by decide +kernel
theorem dX7_stack_116 : decode cX7_stack 116 = .ok (.imul, 1) := by decide +kernel
theorem dX7_stack_117 : decode cX7_stack 117 = .ok (.iadd, 1) := by decide +kernel
theorem dX7_stack_118 : decode cX7_stack 118 = .ok (.istore 5, 2) := by decide +kernel
theorem dX7_stack_120 : decode cX7_stack 120 = .ok (.aload_n 0, 1) := by decide +kernel
theorem dX7_stack_121 : decode cX7_stack 121 = .ok (.getfield 7, 3) := by decide +kernel
theorem dX7_stack_124 : decode cX7_stack 124 = .ok (.iload 5, 2) := by decide +kernel
theorem dX7_stack_126 : decode cX7_stack 126 = .ok (.iload_n 1, 1) := by decide +kernel
theorem dX7_stack_127 : decode cX7_stack 127 = .ok (.iastore, 1) := by decide +kernel
theorem dX7_stack_128 : decode cX7_stack 128 = .ok (.aload_n 0, 1) := by decide +kernel
theorem dX7_stack_129 : decode cX7_stack 129 = .ok (.getfield 7, 3) := by decide +kernel
theorem dX7_stack_132 : decode cX7_stack 132 = .ok (.iload 5, 2) := by decide +kernel
theorem dX7_stack_134 : decode cX7_stack 134 = .ok (.iconst 1, 1) := by decide +kernel
theorem dX7_stack_135 : decode cX7_stack 135 = .ok (.iadd, 1) := by decide +kernel
theorem dX7_stack_136 : decode cX7_stack 136 = .ok (.iload_n 2, 1) := by decide +kernel
theorem dX7_stack_137 : decode cX7_stack 137 = .ok (.iastore, 1) := by decide +kernel
theorem dX7_stack_138 : decode cX7_stack 138 = .ok (.aload_n 0, 1) := by decide +kernel
theorem dX7_stack_139 : decode cX7_stack 139 = .ok (.getfield 7, 3) := by decide +kernel
theorem dX7_stack_142 : decode cX7_stack 142 = .ok (.iload 5, 2) := by decide +kernel
theorem dX7_stack_144 : decode cX7_stack 144 = .ok (.iconst 2, 1) := by decide +kernel
theorem dX7_stack_145 : decode cX7_stack 145 = .ok (.iadd, 1) := by decide +kernel
theorem dX7_stack_146 : decode cX7_stack 146 = .ok (.iload_n 3, 1) := by decide +kernel
theorem dX7_stack_147 : decode cX7_stack 147 = .ok (.iastore, 1) := by decide +kernel
theorem dX7_stack_148 : decode cX7_stack 148 = .ok (.aload_n 0, 1) := by decide +kernel
theorem dX7_stack_149 : decode cX7_stack 149 = .ok (.getfield 7, 3) := by decide +kernel
theorem dX7_stack_152 : decode cX7_stack 152 = .ok (.iload 5, 2) := by decide +kernel
theorem dX7_stack_154 : decode cX7_stack 154 = .ok (.iconst 3, 1) := by decide +kernel
theorem dX7_stack_155 : decode cX7_stack 155 = .ok (.iadd, 1) := by decide +kernel
theorem dX7_stack_156 : decode cX7_stack 156 = .ok (.iload 4, 2) := by decide +kernel
theorem dX7_stack_158 : decode cX7_stack 158 = .ok (.iastore, 1) := by decide +kernel
theorem dX7_stack_159 : decode cX7_stack 159 = .ok (.aload_n 0, 1) := by decide +kernel
theorem dX7_stack_160 : decode cX7_stack 160 = .ok (.getfield 7, 3) := by decide +kernel
theorem dX7_stack_163 : decode cX7_stack 163 = .ok (.iload 5, 2) := by decide +kernel
theorem dX7_stack_165 : decode cX7_stack 165 = .ok (.iconst 4, 1) := by decide +kernel
theorem dX7_stack_166 : decode cX7_stack 166 = .ok (.iadd, 1) := by decide +kernel
theorem dX7_stack_167 : decode cX7_stack 167 = .ok (.iconst 0, 1) := by decide +kernel
theorem dX7_stack_168 : decode cX7_stack 168 = .ok (.iastore, 1) := by decide +kernel
theorem dX7_stack_169 : decode cX7_stack 169 = .ok (.aload_n 0, 1) := by decide +kernel
theorem dX7_stack_170 : decode cX7_stack 170 = .ok (.getfield 7, 3) := by decide +kernel
theorem dX7_stack_173 : decode cX7_stack 173 = .ok (.iload 5, 2) := by decide +kernel
theorem dX7_stack_175 : decode cX7_stack 175 = .ok (.iconst 5, 1) := by decide +kernel
theorem dX7_stack_176 : decode cX7_stack 176 = .ok (.iadd, 1) := by decide +kernel
theorem dX7_stack_177 : decode cX7_stack 177 = .ok (.iconst 0, 1) := by decide +kernel
theorem dX7_stack_178 : decode cX7_stack 178 = .ok (.iastore, 1) := by decide +kernel
theorem dX7_stack_179 : decode cX7_stack 179 = .ok (.aload_n 0, 1) := by decide +kernel
theorem dX7_stack_180 : decode cX7_stack 180 = .ok (.getfield 7, 3) := by decide +kernel
theorem dX7_stack_183 : decode cX7_stack 183 = .ok (.iconst 0, 1) := by decide +kernel
theorem dX7_stack_184 : decode cX7_stack 184 = .ok (.dup2, 1) := by decide +kernel
theorem dX7_stack_185 : decode cX7_stack 185 = .ok (.iaload, 1) := by decide +kernel
theorem dX7_stack_186 : decode cX7_stack 186 = .ok (.iconst 1, 1) := by decide +kernel
theorem dX7_stack_187 : decode cX7_stack 187 = .ok (.iadd, 1) := by decide +kernel
theorem dX7_stack_188 : decode cX7_stack 188 = .ok (.iastore, 1) := by decide +kernel
theorem dX7_stack_189 : decode cX7_stack 189 = .ok (.aload_n 0, 1) := by decide +kernel
theorem dX7_stack_190 : decode cX7_stack 190 = .ok (.aload_n 0, 1) := by decide +kernel
theorem dX7_stack_191 : decode cX7_stack 191 = .ok (.getfield 7, 3) := by decide +kernel
theorem dX7_stack_194 : decode cX7_stack 194 = .ok (.iconst 0, 1) := by decide +kernel
theorem dX7_stack_195 : decode cX7_stack 195 = .ok (.iaload, 1) := by decide +kernel
theorem dX7_stack_196 : decode cX7_stack 196 = .ok (.iconst 1, 1) := by decide +kernel
theorem dX7_stack_197 : decode cX7_stack 197 = .ok (.isub, 1) := by decide +kernel
theorem dX7_stack_198 : decode cX7_stack 198 = .ok (.invokevirtual 95, 3) := by decide +kernel
theorem dX7_stack_201 : decode cX7_stack 201 = .ok (.ireturn, 1) := by decide +kernel
theorem dX7_isCode_0 : decode cX7_isCode 0 = .ok (.iconst 0, 1) := by decide +kernel
theorem dX7_isCode_1 : decode cX7_isCode 1 = .ok (.istore_n 2, 1) := by decide +kernel
theorem dX7_isCode_2 : decode cX7_isCode 2 = .ok (.iload_n 0, 1) := by decide +kernel
theorem dX7_isCode_3 : decode cX7_isCode 3 = .ok (.istore_n 3, 1) := by decide +kernel
theorem dX7_isCode_4 : decode cX7_isCode 4 = .ok (.iconst 0, 1) := by decide +kernel
theorem dX7_isCode_5 : decode cX7_isCode 5 = .ok (.istore 4, 2) := by decide +kernel
theorem dX7_isCode_7 : decode cX7_isCode 7 = .ok (.iload 4, 2) := by decide +kernel
theorem dX7_isCode_9 : decode cX7_isCode 9 = .ok (.iload_n 1, 1) := by decide +kernel
theorem dX7_isCode_10 : decode cX7_isCode 10 = .ok (.if_icmp .ge 27, 3) := by decide +kernel
theorem dX7_isCode_13 : decode cX7_isCode 13 = .ok (.iload_n 3, 1) := by decide +kernel
theorem dX7_isCode_14 : decode cX7_isCode 14 = .ok (.ifCond .le 23, 3) := by decide +kernel
theorem dX7_isCode_17 : decode cX7_isCode 17 = .ok (.iload_n 2, 1) := by decide +kernel
theorem dX7_isCode_18 : decode cX7_isCode 18 = .ok (.iconst 1, 1) := by decide +kernel
theorem dX7_isCode_19 : decode cX7_isCode 19 = .ok (.iload_n 3, 1) := by decide +kernel
theorem dX7_isCode_20 : decode cX7_isCode 20 = .ok (.bipush 10, 2) := by decide +kernel
theorem dX7_isCode_22 : decode cX7_isCode 22 = .ok (.irem, 1) := by decide +kernel
theorem dX7_isCode_23 : decode cX7_isCode 23 = .ok (.ishl, 1) := by decide +kernel
theorem dX7_isCode_24 : decode cX7_isCode 24 = .ok (.ior, 1) := by decide +kernel
theorem dX7_isCode_25 : decode cX7_isCode 25 = .ok (.istore_n 2, 1) := by decide +kernel
theorem dX7_isCode_26 : decode cX7_isCode 26 = .ok (.iload_n 3, 1) := by decide +kernel
theorem dX7_isCode_27 : decode cX7_isCode 27 = .ok (.bipush 10, 2) := by decide +kernel
theorem dX7_isCode_29 : decode cX7_isCode 29 = .ok (.idiv, 1) := by decide +kernel
theorem dX7_isCode_30 : decode cX7_isCode 30 = .ok (.istore_n 3, 1) := by decide +kernel
theorem dX7_isCode_31 : decode cX7_isCode 31 = .ok (.iinc 4 1, 3) := by decide +kernel
theorem dX7_isCode_34 : decode cX7_isCode 34 = .ok (.goto (-27), 3) := by decide +kernel
theorem dX7_isCode_37 : decode cX7_isCode 37 = .ok (.iload_n 3, 1) := by decide +kernel
theorem dX7_isCode_38 : decode cX7_isCode 38 = .ok (.ifCond .ne 18, 3) := by decide +kernel
theorem dX7_isCode_41 : decode cX7_isCode 41 = .ok (.iload_n 2, 1) := by decide +kernel
theorem dX7_isCode_42 : decode cX7_isCode 42 = .ok (.iconst 1, 1) := by decide +kernel
theorem dX7_isCode_43 : decode cX7_isCode 43 = .ok (.iload_n 1, 1) := by decide +kernel
theorem dX7_isCode_44 : decode cX7_isCode 44 = .ok (.iconst 1, 1) := by decide +kernel
theorem dX7_isCode_45 : decode cX7_isCode 45 = .ok (.iadd, 1) := by decide +kernel
theorem dX7_isCode_46 : decode cX7_isCode 46 = .ok (.ishl, 1) := by decide +kernel
theorem dX7_isCode_47 : decode cX7_isCode 47 = .ok (.iconst 2, 1) := by decide +kernel
theorem dX7_isCode_48 : decode cX7_isCode 48 = .ok (.isub, 1) := by decide +kernel
theorem dX7_isCode_49 : decode cX7_isCode 49 = .ok (.if_icmp .ne 7, 3) := by decide +kernel
theorem dX7_isCode_52 : decode cX7_isCode 52 = .ok (.iconst 1, 1) := by decide +kernel
theorem dX7_isCode_53 : decode cX7_isCode 53 = .ok (.goto 4, 3) := by decide +kernel
theorem dX7_isCode_56 : decode cX7_isCode 56 = .ok (.iconst 0, 1) := by decide +kernel
theorem dX7_isCode_57 : decode cX7_isCode 57 = .ok (.ireturn, 1) := by decide +kernel
theorem dX7_lay_0 : decode cX7_lay 0 = .ok (.aload_n 0, 1) := by decide +kernel
theorem dX7_lay_1 : decode cX7_lay 1 = .ok (.iload_n 1, 1) := by decide +kernel
theorem dX7_lay_2 : decode cX7_lay 2 = .ok (.invokevirtual 98, 3) := by decide +kernel
theorem dX7_lay_5 : decode cX7_lay 5 = .ok (.ifCond .eq 50, 3) := by decide +kernel
theorem dX7_lay_8 : decode cX7_lay 8 = .ok (.iload_n 2, 1) := by decide +kernel
theorem dX7_lay_9 : decode cX7_lay 9 = .ok (.aload_n 0, 1) := by decide +kernel
theorem dX7_lay_10 : decode cX7_lay 10 = .ok (.iload_n 1, 1) := by decide +kernel
theorem dX7_lay_11 : decode cX7_lay 11 = .ok (.iconst 1, 1) := by decide +kernel
theorem dX7_lay_12 : decode cX7_lay 12 = .ok (.invokevirtual 62, 3) := by decide +kernel
theorem dX7_lay_15 : decode cX7_lay 15 = .ok (.invokestatic 101, 3) := by decide +kernel
theorem dX7_lay_18 : decode cX7_lay 18 = .ok (.ifCond .eq 37, 3) := by decide +kernel
theorem dX7_lay_21 : decode cX7_lay 21 = .ok (.iload_n 3, 1) := by decide +kernel
theorem dX7_lay_22 : decode cX7_lay 22 = .ok (.iconst 0, 1) := by decide +kernel
theorem dX7_lay_23 : decode cX7_lay 23 = .ok (.aload_n 0, 1) := by decide +kernel
theorem dX7_lay_24 : decode cX7_lay 24 = .ok (.iload_n 1, 1) := by decide +kernel
theorem dX7_lay_25 : decode cX7_lay 25 = .ok (.iconst 0, 1) := by decide +kernel
theorem dX7_lay_26 : decode cX7_lay 26 = .ok (.invokevirtual 62, 3) := by decide +kernel
theorem dX7_lay_29 : decode cX7_lay 29 = .ok (.invokestatic 76, 3) := by decide +kernel
theorem dX7_lay_32 : decode cX7_lay 32 = .ok (.ifCond .eq 16, 3) := by decide +kernel
theorem dX7_lay_35 : decode cX7_lay 35 = .ok (.iconst 1, 1) := by decide +kernel
theorem dX7_lay_36 : decode cX7_lay 36 = .ok (.aload_n 0, 1) := by decide +kernel
theorem dX7_lay_37 : decode cX7_lay 37 = .ok (.iload_n 1, 1) := by decide +kernel
theorem dX7_lay_38 : decode cX7_lay 38 = .ok (.iconst 1, 1) := by decide +kernel
theorem dX7_lay_39 : decode cX7_lay 39 = .ok (.invokevirtual 62, 3) := by decide +kernel
theorem dX7_lay_42 : decode cX7_lay 42 = .ok (.ishl, 1) := by decide +kernel
theorem dX7_lay_43 : decode cX7_lay 43 = .ok (.iconst 1, 1) := by decide +kernel
theorem dX7_lay_44 : decode cX7_lay 44 = .ok (.isub, 1) := by decide +kernel
theorem dX7_lay_45 : decode cX7_lay 45 = .ok (.goto 4, 3) := by decide +kernel
theorem dX7_lay_48 : decode cX7_lay 48 = .ok (.iconst 0, 1) := by decide +kernel
theorem dX7_lay_49 : decode cX7_lay 49 = .ok (.invokestatic 50, 3) := by decide +kernel
theorem dX7_lay_52 : decode cX7_lay 52 = .ok (.ifCond .ne 6, 3) := by decide +kernel
theorem dX7_lay_55 : decode cX7_lay 55 = .ok (.ldc 54, 2) := by decide +kernel
theorem dX7_lay_57 : decode cX7_lay 57 = .ok (.ireturn, 1) := by decide +kernel
theorem dX7_lay_58 : decode cX7_lay 58 = .ok (.aload_n 0, 1) := by decide +kernel
theorem dX7_lay_59 : decode cX7_lay 59 = .ok (.invokevirtual 92, 3) := by decide +kernel
theorem dX7_lay_62 : decode cX7_lay 62 = .ok (.aload_n 0, 1) := by decide +kernel
theorem dX7_lay_63 : decode cX7_lay 63 = .ok (.getfield 7, 3) := by decide +kernel
theorem dX7_lay_66 : decode cX7_lay 66 = .ok (.bipush 8, 2) := by decide +kernel
theorem dX7_lay_68 : decode cX7_lay 68 = .ok (.bipush 6, 2) := by decide +kernel
theorem dX7_lay_70 : decode cX7_lay 70 = .ok (.iload_n 1, 1) := by decide +kernel
theorem dX7_lay_71 : decode cX7_lay 71 = .ok (.imul, 1) := by decide +kernel
theorem dX7_lay_72 : decode cX7_lay 72 = .ok (.iadd, 1) := by decide +kernel
theorem dX7_lay_73 : decode cX7_lay 73 = .ok (.iconst 3, 1) := by decide +kernel
theorem dX7_lay_74 : decode cX7_lay 74 = .ok (.iadd, 1) := by decide +kernel
theorem dX7_lay_75 : decode cX7_lay 75 = .ok (.iload_n 2, 1) := by decide +kernel
theorem dX7_lay_76 : decode cX7_lay 76 = .ok (.iastore, 1) := by decide +kernel
theorem dX7_lay_77 : decode cX7_lay 77 = .ok (.aload_n 0, 1) := by decide +kernel
theorem dX7_lay_78 : decode cX7_lay 78 = .ok (.getfield 7, 3) := by decide +kernel
theorem dX7_lay_81 : decode cX7_lay 81 = .ok (.bipush 8, 2) := by decide +kernel
theorem dX7_lay_83 : decode cX7_lay 83 = .ok (.bipush 6, 2) := by decide +kernel
theorem dX7_lay_85 : decode cX7_lay 85 = .ok (.iload_n 1, 1) := by decide +kernel
theorem dX7_lay_86 : decode cX7_lay 86 = .ok (.imul, 1) := by decide +kernel
theorem dX7_lay_87 : decode cX7_lay 87 = .ok (.iadd, 1) := by decide +kernel
theorem dX7_lay_88 : decode cX7_lay 88 = .ok (.iconst 4, 1) := by decide +kernel
theorem dX7_lay_89 : decode cX7_lay 89 = .ok (.iadd, 1) := by decide +kernel
theorem dX7_lay_90 : decode cX7_lay 90 = .ok (.iload_n 3, 1) := by decide +kernel
theorem dX7_lay_91 : decode cX7_lay 91 = .ok (.iastore, 1) := by decide +kernel
theorem dX7_lay_92 : decode cX7_lay 92 = .ok (.aload_n 0, 1) := by decide +kernel
theorem dX7_lay_93 : decode cX7_lay 93 = .ok (.iload_n 1, 1) := by decide +kernel
theorem dX7_lay_94 : decode cX7_lay 94 = .ok (.invokevirtual 105, 3) := by decide +kernel
theorem dX7_lay_97 : decode cX7_lay 97 = .ok (.aload_n 0, 1) := by decide +kernel
theorem dX7_lay_98 : decode cX7_lay 98 = .ok (.aload_n 0, 1) := by decide +kernel
theorem dX7_lay_99 : decode cX7_lay 99 = .ok (.invokevirtual 109, 3) := by decide +kernel
theorem dX7_lay_102 : decode cX7_lay 102 = .ok (.invokevirtual 95, 3) := by decide +kernel
theorem dX7_lay_105 : decode cX7_lay 105 = .ok (.ireturn, 1) := by decide +kernel
theorem dX7_turnsOne_0 : decode cX7_turnsOne 0 = .ok (.aload_n 0, 1) := by decide +kernel
theorem dX7_turnsOne_1 : decode cX7_turnsOne 1 = .ok (.iload_n 1, 1) := by decide +kernel
theorem dX7_turnsOne_2 : decode cX7_turnsOne 2 = .ok (.invokevirtual 105, 3) := by decide +kernel
theorem dX7_turnsOne_5 : decode cX7_turnsOne 5 = .ok (.iload_n 2, 1) := by decide +kernel
theorem dX7_turnsOne_6 : decode cX7_turnsOne 6 = .ok (.iconst 1, 1) := by decide +kernel
theorem dX7_turnsOne_7 : decode cX7_turnsOne 7 = .ok (.aload_n 0, 1) := by decide +kernel
theorem dX7_turnsOne_8 : decode cX7_turnsOne 8 = .ok (.getfield 59, 3) := by decide +kernel
theorem dX7_turnsOne_11 : decode cX7_turnsOne 11 = .ok (.invokestatic 50, 3) := by decide +kernel
theorem dX7_turnsOne_14 : decode cX7_turnsOne 14 = .ok (.ifCond .eq 11, 3) := by decide +kernel
theorem dX7_turnsOne_17 : decode cX7_turnsOne 17 = .ok (.aload_n 0, 1) := by decide +kernel
theorem dX7_turnsOne_18 : decode cX7_turnsOne 18 = .ok (.iload_n 2, 1) := by decide +kernel
theorem dX7_turnsOne_19 : decode cX7_turnsOne 19 = .ok (.invokevirtual 112, 3) := by decide +kernel
theorem dX7_turnsOne_22 : decode cX7_turnsOne 22 = .ok (.ifCond .ne 6, 3) := by decide +kernel
theorem dX7_turnsOne_25 : decode cX7_turnsOne 25 = .ok (.ldc 115, 2) := by decide +kernel
theorem dX7_turnsOne_27 : decode cX7_turnsOne 27 = .ok (.ireturn, 1) := by decide +kernel
theorem dX7_turnsOne_28 : decode cX7_turnsOne 28 = .ok (.aload_n 0, 1) := by decide +kernel
theorem dX7_turnsOne_29 : decode cX7_turnsOne 29 = .ok (.iload_n 2, 1) := by decide +kernel
theorem dX7_turnsOne_30 : decode cX7_turnsOne 30 = .ok (.invokevirtual 116, 3) := by decide +kernel
theorem dX7_turnsOne_33 : decode cX7_turnsOne 33 = .ok (.aload_n 0, 1) := by decide +kernel
theorem dX7_turnsOne_34 : decode cX7_turnsOne 34 = .ok (.getfield 7, 3) := by decide +kernel
theorem dX7_turnsOne_37 : decode cX7_turnsOne 37 = .ok (.bipush 8, 2) := by decide +kernel
theorem dX7_turnsOne_39 : decode cX7_turnsOne 39 = .ok (.bipush 6, 2) := by decide +kernel
theorem dX7_turnsOne_41 : decode cX7_turnsOne 41 = .ok (.iload_n 1, 1) := by decide +kernel
theorem dX7_turnsOne_42 : decode cX7_turnsOne 42 = .ok (.imul, 1) := by decide +kernel
theorem dX7_turnsOne_43 : decode cX7_turnsOne 43 = .ok (.iadd, 1) := by decide +kernel
theorem dX7_turnsOne_44 : decode cX7_turnsOne 44 = .ok (.iconst 3, 1) := by decide +kernel
theorem dX7_turnsOne_45 : decode cX7_turnsOne 45 = .ok (.iadd, 1) := by decide +kernel
theorem dX7_turnsOne_46 : decode cX7_turnsOne 46 = .ok (.aload_n 0, 1) := by decide +kernel
theorem dX7_turnsOne_47 : decode cX7_turnsOne 47 = .ok (.invokevirtual 119, 3) := by decide +kernel
theorem dX7_turnsOne_50 : decode cX7_turnsOne 50 = .ok (.iastore, 1) := by decide +kernel
theorem dX7_turnsOne_51 : decode cX7_turnsOne 51 = .ok (.aload_n 0, 1) := by decide +kernel
theorem dX7_turnsOne_52 : decode cX7_turnsOne 52 = .ok (.getfield 7, 3) := by decide +kernel
theorem dX7_turnsOne_55 : decode cX7_turnsOne 55 = .ok (.bipush 8, 2) := by decide +kernel
theorem dX7_turnsOne_57 : decode cX7_turnsOne 57 = .ok (.bipush 6, 2) := by decide +kernel
theorem dX7_turnsOne_59 : decode cX7_turnsOne 59 = .ok (.iload_n 1, 1) := by decide +kernel
theorem dX7_turnsOne_60 : decode cX7_turnsOne 60 = .ok (.imul, 1) := by decide +kernel
theorem dX7_turnsOne_61 : decode cX7_turnsOne 61 = .ok (.iadd, 1) := by decide +kernel
theorem dX7_turnsOne_62 : decode cX7_turnsOne 62 = .ok (.iconst 4, 1) := by decide +kernel
theorem dX7_turnsOne_63 : decode cX7_turnsOne 63 = .ok (.iadd, 1) := by decide +kernel
theorem dX7_turnsOne_64 : decode cX7_turnsOne 64 = .ok (.aload_n 0, 1) := by decide +kernel
theorem dX7_turnsOne_65 : decode cX7_turnsOne 65 = .ok (.invokevirtual 87, 3) := by decide +kernel
theorem dX7_turnsOne_68 : decode cX7_turnsOne 68 = .ok (.iastore, 1) := by decide +kernel
theorem dX7_turnsOne_69 : decode cX7_turnsOne 69 = .ok (.aload_n 0, 1) := by decide +kernel
theorem dX7_turnsOne_70 : decode cX7_turnsOne 70 = .ok (.getfield 7, 3) := by decide +kernel
theorem dX7_turnsOne_73 : decode cX7_turnsOne 73 = .ok (.bipush 8, 2) := by decide +kernel
theorem dX7_turnsOne_75 : decode cX7_turnsOne 75 = .ok (.bipush 6, 2) := by decide +kernel
theorem dX7_turnsOne_77 : decode cX7_turnsOne 77 = .ok (.iload_n 1, 1) := by decide +kernel
theorem dX7_turnsOne_78 : decode cX7_turnsOne 78 = .ok (.imul, 1) := by decide +kernel
theorem dX7_turnsOne_79 : decode cX7_turnsOne 79 = .ok (.iadd, 1) := by decide +kernel
theorem dX7_turnsOne_80 : decode cX7_turnsOne 80 = .ok (.iconst 5, 1) := by decide +kernel
theorem dX7_turnsOne_81 : decode cX7_turnsOne 81 = .ok (.iadd, 1) := by decide +kernel
theorem dX7_turnsOne_82 : decode cX7_turnsOne 82 = .ok (.dup2, 1) := by decide +kernel
theorem dX7_turnsOne_83 : decode cX7_turnsOne 83 = .ok (.iaload, 1) := by decide +kernel
theorem dX7_turnsOne_84 : decode cX7_turnsOne 84 = .ok (.iconst 1, 1) := by decide +kernel
theorem dX7_turnsOne_85 : decode cX7_turnsOne 85 = .ok (.iadd, 1) := by decide +kernel
theorem dX7_turnsOne_86 : decode cX7_turnsOne 86 = .ok (.iastore, 1) := by decide +kernel
theorem dX7_turnsOne_87 : decode cX7_turnsOne 87 = .ok (.aload_n 0, 1) := by decide +kernel
theorem dX7_turnsOne_88 : decode cX7_turnsOne 88 = .ok (.getfield 7, 3) := by decide +kernel
theorem dX7_turnsOne_91 : decode cX7_turnsOne 91 = .ok (.iconst 2, 1) := by decide +kernel
theorem dX7_turnsOne_92 : decode cX7_turnsOne 92 = .ok (.aload_n 0, 1) := by decide +kernel
theorem dX7_turnsOne_93 : decode cX7_turnsOne 93 = .ok (.getfield 7, 3) := by decide +kernel
theorem dX7_turnsOne_96 : decode cX7_turnsOne 96 = .ok (.iconst 1, 1) := by decide +kernel
theorem dX7_turnsOne_97 : decode cX7_turnsOne 97 = .ok (.iaload, 1) := by decide +kernel
theorem dX7_turnsOne_98 : decode cX7_turnsOne 98 = .ok (.iadd, 1) := by decide +kernel
theorem dX7_turnsOne_99 : decode cX7_turnsOne 99 = .ok (.dup2, 1) := by decide +kernel
theorem dX7_turnsOne_100 : decode cX7_turnsOne 100 = .ok (.iaload, 1) := by decide +kernel
theorem dX7_turnsOne_101 : decode cX7_turnsOne 101 = .ok (.iconst 1, 1) := by decide +kernel
theorem dX7_turnsOne_102 : decode cX7_turnsOne 102 = .ok (.iadd, 1) := by decide +kernel
theorem dX7_turnsOne_103 : decode cX7_turnsOne 103 = .ok (.iastore, 1) := by decide +kernel
theorem dX7_turnsOne_104 : decode cX7_turnsOne 104 = .ok (.aload_n 0, 1) := by decide +kernel
theorem dX7_turnsOne_105 : decode cX7_turnsOne 105 = .ok (.getfield 7, 3) := by decide +kernel
theorem dX7_turnsOne_108 : decode cX7_turnsOne 108 = .ok (.iconst 5, 1) := by decide +kernel
theorem dX7_turnsOne_109 : decode cX7_turnsOne 109 = .ok (.aload_n 0, 1) := by decide +kernel
theorem dX7_turnsOne_110 : decode cX7_turnsOne 110 = .ok (.getfield 7, 3) := by decide +kernel
theorem dX7_turnsOne_113 : decode cX7_turnsOne 113 = .ok (.iconst 1, 1) := by decide +kernel
theorem dX7_turnsOne_114 : decode cX7_turnsOne 114 = .ok (.iaload, 1) := by decide +kernel
theorem dX7_turnsOne_115 : decode cX7_turnsOne 115 = .ok (.iadd, 1) := by decide +kernel
theorem dX7_turnsOne_116 : decode cX7_turnsOne 116 = .ok (.dup2, 1) := by decide +kernel
theorem dX7_turnsOne_117 : decode cX7_turnsOne 117 = .ok (.iaload, 1) := by decide +kernel
theorem dX7_turnsOne_118 : decode cX7_turnsOne 118 = .ok (.iload_n 2, 1) := by decide +kernel
theorem dX7_turnsOne_119 : decode cX7_turnsOne 119 = .ok (.iadd, 1) := by decide +kernel
theorem dX7_turnsOne_120 : decode cX7_turnsOne 120 = .ok (.iastore, 1) := by decide +kernel
theorem dX7_turnsOne_121 : decode cX7_turnsOne 121 = .ok (.aload_n 0, 1) := by decide +kernel
theorem dX7_turnsOne_122 : decode cX7_turnsOne 122 = .ok (.getfield 7, 3) := by decide +kernel
theorem dX7_turnsOne_125 : decode cX7_turnsOne 125 = .ok (.iconst 1, 1) := by decide +kernel
theorem dX7_turnsOne_126 : decode cX7_turnsOne 126 = .ok (.aload_n 0, 1) := by decide +kernel
theorem dX7_turnsOne_127 : decode cX7_turnsOne 127 = .ok (.getfield 7, 3) := by decide +kernel
theorem dX7_turnsOne_130 : decode cX7_turnsOne 130 = .ok (.iconst 1, 1) := by decide +kernel
theorem dX7_turnsOne_131 : decode cX7_turnsOne 131 = .ok (.iaload, 1) := by decide +kernel
theorem dX7_turnsOne_132 : decode cX7_turnsOne 132 = .ok (.iconst 1, 1) := by decide +kernel
theorem dX7_turnsOne_133 : decode cX7_turnsOne 133 = .ok (.iadd, 1) := by decide +kernel
theorem dX7_turnsOne_134 : decode cX7_turnsOne 134 = .ok (.iconst 3, 1) := by decide +kernel
theorem dX7_turnsOne_135 : decode cX7_turnsOne 135 = .ok (.irem, 1) := by decide +kernel
theorem dX7_turnsOne_136 : decode cX7_turnsOne 136 = .ok (.iastore, 1) := by decide +kernel
theorem dX7_turnsOne_137 : decode cX7_turnsOne 137 = .ok (.aload_n 0, 1) := by decide +kernel
theorem dX7_turnsOne_138 : decode cX7_turnsOne 138 = .ok (.invokevirtual 109, 3) := by decide +kernel
theorem dX7_turnsOne_141 : decode cX7_turnsOne 141 = .ok (.ireturn, 1) := by decide +kernel
theorem dX7_turn_0 : decode cX7_turn 0 = .ok (.aload_n 0, 1) := by decide +kernel
theorem dX7_turn_1 : decode cX7_turn 1 = .ok (.iload_n 1, 1) := by decide +kernel
theorem dX7_turn_2 : decode cX7_turn 2 = .ok (.invokevirtual 98, 3) := by decide +kernel
theorem dX7_turn_5 : decode cX7_turn 5 = .ok (.ifCond .eq 17, 3) := by decide +kernel
theorem dX7_turn_8 : decode cX7_turn 8 = .ok (.iload_n 2, 1) := by decide +kernel
theorem dX7_turn_9 : decode cX7_turn 9 = .ok (.iconst 1, 1) := by decide +kernel
theorem dX7_turn_10 : decode cX7_turn 10 = .ok (.aload_n 0, 1) := by decide +kernel
theorem dX7_turn_11 : decode cX7_turn 11 = .ok (.iload_n 1, 1) := by decide +kernel
theorem dX7_turn_12 : decode cX7_turn 12 = .ok (.iconst 1, 1) := by decide +kernel
theorem dX7_turn_13 : decode cX7_turn 13 = .ok (.invokevirtual 62, 3) := by decide +kernel
theorem dX7_turn_16 : decode cX7_turn 16 = .ok (.invokestatic 50, 3) := by decide +kernel
theorem dX7_turn_19 : decode cX7_turn 19 = .ok (.ifCond .ne 6, 3) := by decide +kernel
theorem dX7_turn_22 : decode cX7_turn 22 = .ok (.ldc 54, 2) := by decide +kernel
theorem dX7_turn_24 : decode cX7_turn 24 = .ok (.ireturn, 1) := by decide +kernel
theorem dX7_turn_25 : decode cX7_turn 25 = .ok (.aload_n 0, 1) := by decide +kernel
theorem dX7_turn_26 : decode cX7_turn 26 = .ok (.invokevirtual 92, 3) := by decide +kernel
theorem dX7_turn_29 : decode cX7_turn 29 = .ok (.aload_n 0, 1) := by decide +kernel
theorem dX7_turn_30 : decode cX7_turn 30 = .ok (.aload_n 0, 1) := by decide +kernel
theorem dX7_turn_31 : decode cX7_turn 31 = .ok (.iload_n 1, 1) := by decide +kernel
theorem dX7_turn_32 : decode cX7_turn 32 = .ok (.iload_n 2, 1) := by decide +kernel
theorem dX7_turn_33 : decode cX7_turn 33 = .ok (.invokevirtual 122, 3) := by decide +kernel
theorem dX7_turn_36 : decode cX7_turn 36 = .ok (.invokevirtual 95, 3) := by decide +kernel
theorem dX7_turn_39 : decode cX7_turn 39 = .ok (.ireturn, 1) := by decide +kernel
theorem dX7_doRow_0 : decode cX7_doRow 0 = .ok (.aload_n 0, 1) := by decide +kernel
theorem dX7_doRow_1 : decode cX7_doRow 1 = .ok (.iload_n 1, 1) := by decide +kernel
theorem dX7_doRow_2 : decode cX7_doRow 2 = .ok (.invokevirtual 98, 3) := by decide +kernel
theorem dX7_doRow_5 : decode cX7_doRow 5 = .ok (.ifCond .eq 13, 3) := by decide +kernel
theorem dX7_doRow_8 : decode cX7_doRow 8 = .ok (.iload_n 2, 1) := by decide +kernel
theorem dX7_doRow_9 : decode cX7_doRow 9 = .ok (.iconst 1, 1) := by decide +kernel
theorem dX7_doRow_10 : decode cX7_doRow 10 = .ok (.ldc 125, 2) := by decide +kernel
theorem dX7_doRow_12 : decode cX7_doRow 12 = .ok (.invokestatic 50, 3) := by decide +kernel
theorem dX7_doRow_15 : decode cX7_doRow 15 = .ok (.ifCond .ne 6, 3) := by decide +kernel
theorem dX7_doRow_18 : decode cX7_doRow 18 = .ok (.ldc 54, 2) := by decide +kernel
theorem dX7_doRow_20 : decode cX7_doRow 20 = .ok (.ireturn, 1) := by decide +kernel
theorem dX7_doRow_21 : decode cX7_doRow 21 = .ok (.aload_n 0, 1) := by decide +kernel
theorem dX7_doRow_22 : decode cX7_doRow 22 = .ok (.invokevirtual 92, 3) := by decide +kernel
theorem dX7_doRow_25 : decode cX7_doRow 25 = .ok (.iconst 1, 1) := by decide +kernel
theorem dX7_doRow_26 : decode cX7_doRow 26 = .ok (.istore_n 3, 1) := by decide +kernel
theorem dX7_doRow_27 : decode cX7_doRow 27 = .ok (.iload_n 2, 1) := by decide +kernel
theorem dX7_doRow_28 : decode cX7_doRow 28 = .ok (.iload_n 3, 1) := by decide +kernel
theorem dX7_doRow_29 : decode cX7_doRow 29 = .ok (.idiv, 1) := by decide +kernel
theorem dX7_doRow_30 : decode cX7_doRow 30 = .ok (.bipush 9, 2) := by decide +kernel
theorem dX7_doRow_32 : decode cX7_doRow 32 = .ok (.if_icmp .le 11, 3) := by decide +kernel
theorem dX7_doRow_35 : decode cX7_doRow 35 = .ok (.iload_n 3, 1) := by decide +kernel
theorem dX7_doRow_36 : decode cX7_doRow 36 = .ok (.bipush 10, 2) := by decide +kernel
theorem dX7_doRow_38 : decode cX7_doRow 38 = .ok (.imul, 1) := by decide +kernel
theorem dX7_doRow_39 : decode cX7_doRow 39 = .ok (.istore_n 3, 1) := by decide +kernel
theorem dX7_doRow_40 : decode cX7_doRow 40 = .ok (.goto (-13), 3) := by decide +kernel
theorem dX7_doRow_43 : decode cX7_doRow 43 = .ok (.iconst 0, 1) := by decide +kernel
theorem dX7_doRow_44 : decode cX7_doRow 44 = .ok (.istore 4, 2) := by decide +kernel
theorem dX7_doRow_46 : decode cX7_doRow 46 = .ok (.iload_n 3, 1) := by decide +kernel
theorem dX7_doRow_47 : decode cX7_doRow 47 = .ok (.istore 5, 2) := by decide +kernel
theorem dX7_doRow_49 : decode cX7_doRow 49 = .ok (.iload 5, 2) := by decide +kernel
theorem dX7_doRow_51 : decode cX7_doRow 51 = .ok (.ifCond .le 32, 3) := by decide +kernel
theorem dX7_doRow_54 : decode cX7_doRow 54 = .ok (.iload 4, 2) := by decide +kernel
theorem dX7_doRow_56 : decode cX7_doRow 56 = .ok (.ifCond .lt 27, 3) := by decide +kernel
theorem dX7_doRow_59 : decode cX7_doRow 59 = .ok (.aload_n 0, 1) := by decide +kernel
theorem dX7_doRow_60 : decode cX7_doRow 60 = .ok (.iload_n 1, 1) := by decide +kernel
theorem dX7_doRow_61 : decode cX7_doRow 61 = .ok (.iload_n 2, 1) := by decide +kernel
theorem dX7_doRow_62 : decode cX7_doRow 62 = .ok (.iload 5, 2) := by decide +kernel
theorem dX7_doRow_64 : decode cX7_doRow 64 = .ok (.idiv, 1) := by decide +kernel
theorem dX7_doRow_65 : decode cX7_doRow 65 = .ok (.bipush 10, 2) := by decide +kernel
theorem dX7_doRow_67 : decode cX7_doRow 67 = .ok (.irem, 1) := by decide +kernel
theorem dX7_doRow_68 : decode cX7_doRow 68 = .ok (.invokevirtual 122, 3) := by decide +kernel
theorem dX7_doRow_71 : decode cX7_doRow 71 = .ok (.istore 4, 2) := by decide +kernel
theorem dX7_doRow_73 : decode cX7_doRow 73 = .ok (.iload 5, 2) := by decide +kernel
theorem dX7_doRow_75 : decode cX7_doRow 75 = .ok (.bipush 10, 2) := by decide +kernel
theorem dX7_doRow_77 : decode cX7_doRow 77 = .ok (.idiv, 1) := by decide +kernel
theorem dX7_doRow_78 : decode cX7_doRow 78 = .ok (.istore 5, 2) := by decide +kernel
theorem dX7_doRow_80 : decode cX7_doRow 80 = .ok (.goto (-31), 3) := by decide +kernel
theorem dX7_doRow_83 : decode cX7_doRow 83 = .ok (.iconst 0, 1) := by decide +kernel
theorem dX7_doRow_84 : decode cX7_doRow 84 = .ok (.istore 5, 2) := by decide +kernel
theorem dX7_doRow_86 : decode cX7_doRow 86 = .ok (.iload 5, 2) := by decide +kernel
theorem dX7_doRow_88 : decode cX7_doRow 88 = .ok (.bipush 38, 2) := by decide +kernel
theorem dX7_doRow_90 : decode cX7_doRow 90 = .ok (.if_icmp .ge 28, 3) := by decide +kernel
theorem dX7_doRow_93 : decode cX7_doRow 93 = .ok (.iload 4, 2) := by decide +kernel
theorem dX7_doRow_95 : decode cX7_doRow 95 = .ok (.ifCond .ge 23, 3) := by decide +kernel
theorem dX7_doRow_98 : decode cX7_doRow 98 = .ok (.aload_n 0, 1) := by decide +kernel
theorem dX7_doRow_99 : decode cX7_doRow 99 = .ok (.getfield 7, 3) := by decide +kernel
theorem dX7_doRow_102 : decode cX7_doRow 102 = .ok (.iload 5, 2) := by decide +kernel
theorem dX7_doRow_104 : decode cX7_doRow 104 = .ok (.aload_n 0, 1) := by decide +kernel
theorem dX7_doRow_105 : decode cX7_doRow 105 = .ok (.getfield 16, 3) := by decide +kernel
theorem dX7_doRow_108 : decode cX7_doRow 108 = .ok (.iload 5, 2) := by decide +kernel
theorem dX7_doRow_110 : decode cX7_doRow 110 = .ok (.iaload, 1) := by decide +kernel
theorem dX7_doRow_111 : decode cX7_doRow 111 = .ok (.iastore, 1) := by decide +kernel
theorem dX7_doRow_112 : decode cX7_doRow 112 = .ok (.iinc 5 1, 3) := by decide +kernel
theorem dX7_doRow_115 : decode cX7_doRow 115 = .ok (.goto (-29), 3) := by decide +kernel
theorem dX7_doRow_118 : decode cX7_doRow 118 = .ok (.aload_n 0, 1) := by decide +kernel
theorem dX7_doRow_119 : decode cX7_doRow 119 = .ok (.iload 4, 2) := by decide +kernel
theorem dX7_doRow_121 : decode cX7_doRow 121 = .ok (.invokevirtual 95, 3) := by decide +kernel
theorem dX7_doRow_124 : decode cX7_doRow 124 = .ok (.ireturn, 1) := by decide +kernel
theorem dX7_possible_0 : decode cX7_possible 0 = .ok (.iconst 0, 1) := by decide +kernel
theorem dX7_possible_1 : decode cX7_possible 1 = .ok (.istore_n 1, 1) := by decide +kernel
theorem dX7_possible_2 : decode cX7_possible 2 = .ok (.iconst 1, 1) := by decide +kernel
theorem dX7_possible_3 : decode cX7_possible 3 = .ok (.istore_n 2, 1) := by decide +kernel
theorem dX7_possible_4 : decode cX7_possible 4 = .ok (.iload_n 2, 1) := by decide +kernel
theorem dX7_possible_5 : decode cX7_possible 5 = .ok (.aload_n 0, 1) := by decide +kernel
theorem dX7_possible_6 : decode cX7_possible 6 = .ok (.getfield 59, 3) := by decide +kernel
theorem dX7_possible_9 : decode cX7_possible 9 = .ok (.if_icmp .gt 27, 3) := by decide +kernel
theorem dX7_possible_12 : decode cX7_possible 12 = .ok (.iload_n 1, 1) := by decide +kernel
theorem dX7_possible_13 : decode cX7_possible 13 = .ok (.aload_n 0, 1) := by decide +kernel
theorem dX7_possible_14 : decode cX7_possible 14 = .ok (.iload_n 2, 1) := by decide +kernel
theorem dX7_possible_15 : decode cX7_possible 15 = .ok (.invokevirtual 112, 3) := by decide +kernel
theorem dX7_possible_18 : decode cX7_possible 18 = .ok (.ifCond .eq 9, 3) := by decide +kernel
theorem dX7_possible_21 : decode cX7_possible 21 = .ok (.iconst 1, 1) := by decide +kernel
theorem dX7_possible_22 : decode cX7_possible 22 = .ok (.iload_n 2, 1) := by decide +kernel
theorem dX7_possible_23 : decode cX7_possible 23 = .ok (.ishl, 1) := by decide +kernel
theorem dX7_possible_24 : decode cX7_possible 24 = .ok (.goto 4, 3) := by decide +kernel
theorem dX7_possible_27 : decode cX7_possible 27 = .ok (.iconst 0, 1) := by decide +kernel
theorem dX7_possible_28 : decode cX7_possible 28 = .ok (.ior, 1) := by decide +kernel
theorem dX7_possible_29 : decode cX7_possible 29 = .ok (.istore_n 1, 1) := by decide +kernel
theorem dX7_possible_30 : decode cX7_possible 30 = .ok (.iinc 2 1, 3) := by decide +kernel
theorem dX7_possible_33 : decode cX7_possible 33 = .ok (.goto (-29), 3) := by decide +kernel
theorem dX7_possible_36 : decode cX7_possible 36 = .ok (.iload_n 1, 1) := by decide +kernel
theorem dX7_possible_37 : decode cX7_possible 37 = .ok (.ireturn, 1) := by decide +kernel
theorem dX7_stackOf_0 : decode cX7_stackOf 0 = .ok (.aload_n 0, 1) := by decide +kernel
theorem dX7_stackOf_1 : decode cX7_stackOf 1 = .ok (.iload_n 1, 1) := by decide +kernel
theorem dX7_stackOf_2 : decode cX7_stackOf 2 = .ok (.invokevirtual 98, 3) := by decide +kernel
theorem dX7_stackOf_5 : decode cX7_stackOf 5 = .ok (.ifCond .eq 13, 3) := by decide +kernel
theorem dX7_stackOf_8 : decode cX7_stackOf 8 = .ok (.iload_n 2, 1) := by decide +kernel
theorem dX7_stackOf_9 : decode cX7_stackOf 9 = .ok (.iconst 0, 1) := by decide +kernel
theorem dX7_stackOf_10 : decode cX7_stackOf 10 = .ok (.bipush 9, 2) := by decide +kernel
theorem dX7_stackOf_12 : decode cX7_stackOf 12 = .ok (.invokestatic 50, 3) := by decide +kernel
theorem dX7_stackOf_15 : decode cX7_stackOf 15 = .ok (.ifCond .ne 6, 3) := by decide +kernel
theorem dX7_stackOf_18 : decode cX7_stackOf 18 = .ok (.ldc 54, 2) := by decide +kernel
theorem dX7_stackOf_20 : decode cX7_stackOf 20 = .ok (.ireturn, 1) := by decide +kernel
theorem dX7_stackOf_21 : decode cX7_stackOf 21 = .ok (.aload_n 0, 1) := by decide +kernel
theorem dX7_stackOf_22 : decode cX7_stackOf 22 = .ok (.iload_n 1, 1) := by decide +kernel
theorem dX7_stackOf_23 : decode cX7_stackOf 23 = .ok (.invokevirtual 105, 3) := by decide +kernel
theorem dX7_stackOf_26 : decode cX7_stackOf 26 = .ok (.iload_n 2, 1) := by decide +kernel
theorem dX7_stackOf_27 : decode cX7_stackOf 27 = .ok (.tableswitch 68 5 9 #[33, 38, 51, 56, 61], 33) := by decide +kernel
theorem dX7_stackOf_60 : decode cX7_stackOf 60 = .ok (.aload_n 0, 1) := by decide +kernel
theorem dX7_stackOf_61 : decode cX7_stackOf 61 = .ok (.invokevirtual 109, 3) := by decide +kernel
theorem dX7_stackOf_64 : decode cX7_stackOf 64 = .ok (.ireturn, 1) := by decide +kernel
theorem dX7_stackOf_65 : decode cX7_stackOf 65 = .ok (.aload_n 0, 1) := by decide +kernel
theorem dX7_stackOf_66 : decode cX7_stackOf 66 = .ok (.invokevirtual 126, 3) := by decide +kernel
theorem dX7_stackOf_69 : decode cX7_stackOf 69 = .ok (.ifCond .eq 7, 3) := by decide +kernel
theorem dX7_stackOf_72 : decode cX7_stackOf 72 = .ok (.iconst 1, 1) := by decide +kernel
theorem dX7_stackOf_73 : decode cX7_stackOf 73 = .ok (.goto 4, 3) := by decide +kernel
theorem dX7_stackOf_76 : decode cX7_stackOf 76 = .ok (.iconst 0, 1) := by decide +kernel
theorem dX7_stackOf_77 : decode cX7_stackOf 77 = .ok (.ireturn, 1) := by decide +kernel
theorem dX7_stackOf_78 : decode cX7_stackOf 78 = .ok (.aload_n 0, 1) := by decide +kernel
theorem dX7_stackOf_79 : decode cX7_stackOf 79 = .ok (.invokevirtual 130, 3) := by decide +kernel
theorem dX7_stackOf_82 : decode cX7_stackOf 82 = .ok (.ireturn, 1) := by decide +kernel
theorem dX7_stackOf_83 : decode cX7_stackOf 83 = .ok (.aload_n 0, 1) := by decide +kernel
theorem dX7_stackOf_84 : decode cX7_stackOf 84 = .ok (.invokevirtual 133, 3) := by decide +kernel
theorem dX7_stackOf_87 : decode cX7_stackOf 87 = .ok (.ireturn, 1) := by decide +kernel
theorem dX7_stackOf_88 : decode cX7_stackOf 88 = .ok (.aload_n 0, 1) := by decide +kernel
theorem dX7_stackOf_89 : decode cX7_stackOf 89 = .ok (.iload_n 1, 1) := by decide +kernel
theorem dX7_stackOf_90 : decode cX7_stackOf 90 = .ok (.iconst 5, 1) := by decide +kernel
theorem dX7_stackOf_91 : decode cX7_stackOf 91 = .ok (.invokevirtual 62, 3) := by decide +kernel
theorem dX7_stackOf_94 : decode cX7_stackOf 94 = .ok (.ireturn, 1) := by decide +kernel
theorem dX7_stackOf_95 : decode cX7_stackOf 95 = .ok (.aload_n 0, 1) := by decide +kernel
theorem dX7_stackOf_96 : decode cX7_stackOf 96 = .ok (.iload_n 1, 1) := by decide +kernel
theorem dX7_stackOf_97 : decode cX7_stackOf 97 = .ok (.iload_n 2, 1) := by decide +kernel
theorem dX7_stackOf_98 : decode cX7_stackOf 98 = .ok (.invokevirtual 62, 3) := by decide +kernel
theorem dX7_stackOf_101 : decode cX7_stackOf 101 = .ok (.ireturn, 1) := by decide +kernel
theorem dX7_cakeAt_0 : decode cX7_cakeAt 0 = .ok (.aload_n 0, 1) := by decide +kernel
theorem dX7_cakeAt_1 : decode cX7_cakeAt 1 = .ok (.iload_n 1, 1) := by decide +kernel
theorem dX7_cakeAt_2 : decode cX7_cakeAt 2 = .ok (.invokevirtual 98, 3) := by decide +kernel
theorem dX7_cakeAt_5 : decode cX7_cakeAt 5 = .ok (.ifCond .eq 19, 3) := by decide +kernel
theorem dX7_cakeAt_8 : decode cX7_cakeAt 8 = .ok (.iload_n 2, 1) := by decide +kernel
theorem dX7_cakeAt_9 : decode cX7_cakeAt 9 = .ok (.iconst 0, 1) := by decide +kernel
theorem dX7_cakeAt_10 : decode cX7_cakeAt 10 = .ok (.aload_n 0, 1) := by decide +kernel
theorem dX7_cakeAt_11 : decode cX7_cakeAt 11 = .ok (.iload_n 1, 1) := by decide +kernel
theorem dX7_cakeAt_12 : decode cX7_cakeAt 12 = .ok (.iconst 1, 1) := by decide +kernel
theorem dX7_cakeAt_13 : decode cX7_cakeAt 13 = .ok (.invokevirtual 62, 3) := by decide +kernel
theorem dX7_cakeAt_16 : decode cX7_cakeAt 16 = .ok (.iconst 1, 1) := by decide +kernel
theorem dX7_cakeAt_17 : decode cX7_cakeAt 17 = .ok (.isub, 1) := by decide +kernel
theorem dX7_cakeAt_18 : decode cX7_cakeAt 18 = .ok (.invokestatic 50, 3) := by decide +kernel
theorem dX7_cakeAt_21 : decode cX7_cakeAt 21 = .ok (.ifCond .ne 6, 3) := by decide +kernel
theorem dX7_cakeAt_24 : decode cX7_cakeAt 24 = .ok (.ldc 54, 2) := by decide +kernel
theorem dX7_cakeAt_26 : decode cX7_cakeAt 26 = .ok (.ireturn, 1) := by decide +kernel
theorem dX7_cakeAt_27 : decode cX7_cakeAt 27 = .ok (.aload_n 0, 1) := by decide +kernel
theorem dX7_cakeAt_28 : decode cX7_cakeAt 28 = .ok (.iload_n 1, 1) := by decide +kernel
theorem dX7_cakeAt_29 : decode cX7_cakeAt 29 = .ok (.invokevirtual 105, 3) := by decide +kernel
theorem dX7_cakeAt_32 : decode cX7_cakeAt 32 = .ok (.aload_n 0, 1) := by decide +kernel
theorem dX7_cakeAt_33 : decode cX7_cakeAt 33 = .ok (.getfield 26, 3) := by decide +kernel
theorem dX7_cakeAt_36 : decode cX7_cakeAt 36 = .ok (.iload_n 2, 1) := by decide +kernel
theorem dX7_cakeAt_37 : decode cX7_cakeAt 37 = .ok (.iaload, 1) := by decide +kernel
theorem dX7_cakeAt_38 : decode cX7_cakeAt 38 = .ok (.bipush 10, 2) := by decide +kernel
theorem dX7_cakeAt_40 : decode cX7_cakeAt 40 = .ok (.aload_n 0, 1) := by decide +kernel
theorem dX7_cakeAt_41 : decode cX7_cakeAt 41 = .ok (.getfield 29, 3) := by decide +kernel
theorem dX7_cakeAt_44 : decode cX7_cakeAt 44 = .ok (.iload_n 2, 1) := by decide +kernel
theorem dX7_cakeAt_45 : decode cX7_cakeAt 45 = .ok (.iaload, 1) := by decide +kernel
theorem dX7_cakeAt_46 : decode cX7_cakeAt 46 = .ok (.imul, 1) := by decide +kernel
theorem dX7_cakeAt_47 : decode cX7_cakeAt 47 = .ok (.isub, 1) := by decide +kernel
theorem dX7_cakeAt_48 : decode cX7_cakeAt 48 = .ok (.ireturn, 1) := by decide +kernel
theorem dX7_gapsBehind_0 : decode cX7_gapsBehind 0 = .ok (.aload_n 0, 1) := by decide +kernel
theorem dX7_gapsBehind_1 : decode cX7_gapsBehind 1 = .ok (.iload_n 1, 1) := by decide +kernel
theorem dX7_gapsBehind_2 : decode cX7_gapsBehind 2 = .ok (.invokevirtual 98, 3) := by decide +kernel
theorem dX7_gapsBehind_5 : decode cX7_gapsBehind 5 = .ok (.ifCond .eq 17, 3) := by decide +kernel
theorem dX7_gapsBehind_8 : decode cX7_gapsBehind 8 = .ok (.iload_n 2, 1) := by decide +kernel
theorem dX7_gapsBehind_9 : decode cX7_gapsBehind 9 = .ok (.iconst 1, 1) := by decide +kernel
theorem dX7_gapsBehind_10 : decode cX7_gapsBehind 10 = .ok (.aload_n 0, 1) := by decide +kernel
theorem dX7_gapsBehind_11 : decode cX7_gapsBehind 11 = .ok (.iload_n 1, 1) := by decide +kernel
theorem dX7_gapsBehind_12 : decode cX7_gapsBehind 12 = .ok (.iconst 1, 1) := by decide +kernel
theorem dX7_gapsBehind_13 : decode cX7_gapsBehind 13 = .ok (.invokevirtual 62, 3) := by decide +kernel
theorem dX7_gapsBehind_16 : decode cX7_gapsBehind 16 = .ok (.invokestatic 50, 3) := by decide +kernel
theorem dX7_gapsBehind_19 : decode cX7_gapsBehind 19 = .ok (.ifCond .ne 6, 3) := by decide +kernel
theorem dX7_gapsBehind_22 : decode cX7_gapsBehind 22 = .ok (.ldc 54, 2) := by decide +kernel
theorem dX7_gapsBehind_24 : decode cX7_gapsBehind 24 = .ok (.ireturn, 1) := by decide +kernel
theorem dX7_gapsBehind_25 : decode cX7_gapsBehind 25 = .ok (.aload_n 0, 1) := by decide +kernel
theorem dX7_gapsBehind_26 : decode cX7_gapsBehind 26 = .ok (.iload_n 1, 1) := by decide +kernel
theorem dX7_gapsBehind_27 : decode cX7_gapsBehind 27 = .ok (.invokevirtual 105, 3) := by decide +kernel
theorem dX7_gapsBehind_30 : decode cX7_gapsBehind 30 = .ok (.aload_n 0, 1) := by decide +kernel
theorem dX7_gapsBehind_31 : decode cX7_gapsBehind 31 = .ok (.iload_n 2, 1) := by decide +kernel
theorem dX7_gapsBehind_32 : decode cX7_gapsBehind 32 = .ok (.invokevirtual 116, 3) := by decide +kernel
theorem dX7_gapsBehind_35 : decode cX7_gapsBehind 35 = .ok (.aload_n 0, 1) := by decide +kernel
theorem dX7_gapsBehind_36 : decode cX7_gapsBehind 36 = .ok (.invokevirtual 109, 3) := by decide +kernel
theorem dX7_gapsBehind_39 : decode cX7_gapsBehind 39 = .ok (.ireturn, 1) := by decide +kernel
theorem dX7_leads_0 : decode cX7_leads 0 = .ok (.aload_n 0, 1) := by decide +kernel
theorem dX7_leads_1 : decode cX7_leads 1 = .ok (.iload_n 1, 1) := by decide +kernel
theorem dX7_leads_2 : decode cX7_leads 2 = .ok (.invokevirtual 105, 3) := by decide +kernel
theorem dX7_leads_5 : decode cX7_leads 5 = .ok (.aload_n 0, 1) := by decide +kernel
theorem dX7_leads_6 : decode cX7_leads 6 = .ok (.invokevirtual 130, 3) := by decide +kernel
theorem dX7_leads_9 : decode cX7_leads 9 = .ok (.istore_n 2, 1) := by decide +kernel
theorem dX7_leads_10 : decode cX7_leads 10 = .ok (.iconst 0, 1) := by decide +kernel
theorem dX7_leads_11 : decode cX7_leads 11 = .ok (.istore_n 3, 1) := by decide +kernel
theorem dX7_leads_12 : decode cX7_leads 12 = .ok (.iload_n 3, 1) := by decide +kernel
theorem dX7_leads_13 : decode cX7_leads 13 = .ok (.aload_n 0, 1) := by decide +kernel
theorem dX7_leads_14 : decode cX7_leads 14 = .ok (.invokevirtual 136, 3) := by decide +kernel
theorem dX7_leads_17 : decode cX7_leads 17 = .ok (.if_icmp .ge 79, 3) := by decide +kernel
theorem dX7_leads_20 : decode cX7_leads 20 = .ok (.aload_n 0, 1) := by decide +kernel
theorem dX7_leads_21 : decode cX7_leads 21 = .ok (.iload_n 3, 1) := by decide +kernel
theorem dX7_leads_22 : decode cX7_leads 22 = .ok (.invokevirtual 139, 3) := by decide +kernel
theorem dX7_leads_25 : decode cX7_leads 25 = .ok (.iconst 1, 1) := by decide +kernel
theorem dX7_leads_26 : decode cX7_leads 26 = .ok (.istore 4, 2) := by decide +kernel
theorem dX7_leads_28 : decode cX7_leads 28 = .ok (.iload 4, 2) := by decide +kernel
theorem dX7_leads_30 : decode cX7_leads 30 = .ok (.aload_n 0, 1) := by decide +kernel
theorem dX7_leads_31 : decode cX7_leads 31 = .ok (.getfield 59, 3) := by decide +kernel
theorem dX7_leads_34 : decode cX7_leads 34 = .ok (.if_icmp .gt 56, 3) := by decide +kernel
theorem dX7_leads_37 : decode cX7_leads 37 = .ok (.aload_n 0, 1) := by decide +kernel
theorem dX7_leads_38 : decode cX7_leads 38 = .ok (.iload 4, 2) := by decide +kernel
theorem dX7_leads_40 : decode cX7_leads 40 = .ok (.invokevirtual 112, 3) := by decide +kernel
theorem dX7_leads_43 : decode cX7_leads 43 = .ok (.istore 5, 2) := by decide +kernel
theorem dX7_leads_45 : decode cX7_leads 45 = .ok (.aload_n 0, 1) := by decide +kernel
theorem dX7_leads_46 : decode cX7_leads 46 = .ok (.iload 4, 2) := by decide +kernel
theorem dX7_leads_48 : decode cX7_leads 48 = .ok (.invokevirtual 116, 3) := by decide +kernel
theorem dX7_leads_51 : decode cX7_leads 51 = .ok (.aload_n 0, 1) := by decide +kernel
theorem dX7_leads_52 : decode cX7_leads 52 = .ok (.getfield 32, 3) := by decide +kernel
theorem dX7_leads_55 : decode cX7_leads 55 = .ok (.bipush 6, 2) := by decide +kernel
theorem dX7_leads_57 : decode cX7_leads 57 = .ok (.iload_n 3, 1) := by decide +kernel
theorem dX7_leads_58 : decode cX7_leads 58 = .ok (.imul, 1) := by decide +kernel
theorem dX7_leads_59 : decode cX7_leads 59 = .ok (.iload 4, 2) := by decide +kernel
theorem dX7_leads_61 : decode cX7_leads 61 = .ok (.iadd, 1) := by decide +kernel
theorem dX7_leads_62 : decode cX7_leads 62 = .ok (.iconst 1, 1) := by decide +kernel
theorem dX7_leads_63 : decode cX7_leads 63 = .ok (.isub, 1) := by decide +kernel
theorem dX7_leads_64 : decode cX7_leads 64 = .ok (.iload 5, 2) := by decide +kernel
theorem dX7_leads_66 : decode cX7_leads 66 = .ok (.ifCond .eq 10, 3) := by decide +kernel
theorem dX7_leads_69 : decode cX7_leads 69 = .ok (.aload_n 0, 1) := by decide +kernel
theorem dX7_leads_70 : decode cX7_leads 70 = .ok (.invokevirtual 130, 3) := by decide +kernel
theorem dX7_leads_73 : decode cX7_leads 73 = .ok (.goto 4, 3) := by decide +kernel
theorem dX7_leads_76 : decode cX7_leads 76 = .ok (.iconst (-1), 1) := by decide +kernel
theorem dX7_leads_77 : decode cX7_leads 77 = .ok (.iastore, 1) := by decide +kernel
theorem dX7_leads_78 : decode cX7_leads 78 = .ok (.aload_n 0, 1) := by decide +kernel
theorem dX7_leads_79 : decode cX7_leads 79 = .ok (.iload 4, 2) := by decide +kernel
theorem dX7_leads_81 : decode cX7_leads 81 = .ok (.invokevirtual 116, 3) := by decide +kernel
theorem dX7_leads_84 : decode cX7_leads 84 = .ok (.iinc 4 1, 3) := by decide +kernel
theorem dX7_leads_87 : decode cX7_leads 87 = .ok (.goto (-59), 3) := by decide +kernel
theorem dX7_leads_90 : decode cX7_leads 90 = .ok (.iinc 3 1, 3) := by decide +kernel
theorem dX7_leads_93 : decode cX7_leads 93 = .ok (.goto (-81), 3) := by decide +kernel
theorem dX7_leads_96 : decode cX7_leads 96 = .ok (.aload_n 0, 1) := by decide +kernel
theorem dX7_leads_97 : decode cX7_leads 97 = .ok (.iload_n 1, 1) := by decide +kernel
theorem dX7_leads_98 : decode cX7_leads 98 = .ok (.invokevirtual 105, 3) := by decide +kernel
theorem dX7_leads_101 : decode cX7_leads 101 = .ok (.iload_n 2, 1) := by decide +kernel
theorem dX7_leads_102 : decode cX7_leads 102 = .ok (.ireturn, 1) := by decide +kernel
theorem dX7_measures_0 : decode cX7_measures 0 = .ok (.iconst 0, 1) := by decide +kernel
theorem dX7_measures_1 : decode cX7_measures 1 = .ok (.istore_n 1, 1) := by decide +kernel
theorem dX7_measures_2 : decode cX7_measures 2 = .ok (.iload_n 1, 1) := by decide +kernel
theorem dX7_measures_3 : decode cX7_measures 3 = .ok (.aload_n 0, 1) := by decide +kernel
theorem dX7_measures_4 : decode cX7_measures 4 = .ok (.invokevirtual 136, 3) := by decide +kernel
theorem dX7_measures_7 : decode cX7_measures 7 = .ok (.if_icmp .ge 25, 3) := by decide +kernel
theorem dX7_measures_10 : decode cX7_measures 10 = .ok (.aload_n 0, 1) := by decide +kernel
theorem dX7_measures_11 : decode cX7_measures 11 = .ok (.getfield 35, 3) := by decide +kernel
theorem dX7_measures_14 : decode cX7_measures 14 = .ok (.iload_n 1, 1) := by decide +kernel
theorem dX7_measures_15 : decode cX7_measures 15 = .ok (.iload_n 1, 1) := by decide +kernel
theorem dX7_measures_16 : decode cX7_measures 16 = .ok (.ifCond .ne 7, 3) := by decide +kernel
theorem dX7_measures_19 : decode cX7_measures 19 = .ok (.iconst 0, 1) := by decide +kernel
theorem dX7_measures_20 : decode cX7_measures 20 = .ok (.goto 5, 3) := by decide +kernel
theorem dX7_measures_23 : decode cX7_measures 23 = .ok (.ldc 142, 2) := by decide +kernel
theorem dX7_measures_25 : decode cX7_measures 25 = .ok (.iastore, 1) := by decide +kernel
theorem dX7_measures_26 : decode cX7_measures 26 = .ok (.iinc 1 1, 3) := by decide +kernel
theorem dX7_measures_29 : decode cX7_measures 29 = .ok (.goto (-27), 3) := by decide +kernel
theorem dX7_measures_32 : decode cX7_measures 32 = .ok (.aload_n 0, 1) := by decide +kernel
theorem dX7_measures_33 : decode cX7_measures 33 = .ok (.getfield 41, 3) := by decide +kernel
theorem dX7_measures_36 : decode cX7_measures 36 = .ok (.iconst 0, 1) := by decide +kernel
theorem dX7_measures_37 : decode cX7_measures 37 = .ok (.iconst 0, 1) := by decide +kernel
theorem dX7_measures_38 : decode cX7_measures 38 = .ok (.iastore, 1) := by decide +kernel
theorem dX7_measures_39 : decode cX7_measures 39 = .ok (.iconst 1, 1) := by decide +kernel
theorem dX7_measures_40 : decode cX7_measures 40 = .ok (.istore_n 1, 1) := by decide +kernel
theorem dX7_measures_41 : decode cX7_measures 41 = .ok (.iconst 0, 1) := by decide +kernel
theorem dX7_measures_42 : decode cX7_measures 42 = .ok (.istore_n 2, 1) := by decide +kernel
theorem dX7_measures_43 : decode cX7_measures 43 = .ok (.iload_n 2, 1) := by decide +kernel
theorem dX7_measures_44 : decode cX7_measures 44 = .ok (.iload_n 1, 1) := by decide +kernel
theorem dX7_measures_45 : decode cX7_measures 45 = .ok (.if_icmp .ge 108, 3) := by decide +kernel
theorem dX7_measures_48 : decode cX7_measures 48 = .ok (.aload_n 0, 1) := by decide +kernel
theorem dX7_measures_49 : decode cX7_measures 49 = .ok (.getfield 41, 3) := by decide +kernel
theorem dX7_measures_52 : decode cX7_measures 52 = .ok (.iload_n 2, 1) := by decide +kernel
theorem dX7_measures_53 : decode cX7_measures 53 = .ok (.iaload, 1) := by decide +kernel
theorem dX7_measures_54 : decode cX7_measures 54 = .ok (.istore_n 3, 1) := by decide +kernel
theorem dX7_measures_55 : decode cX7_measures 55 = .ok (.iconst 1, 1) := by decide +kernel
theorem dX7_measures_56 : decode cX7_measures 56 = .ok (.istore 4, 2) := by decide +kernel
theorem dX7_measures_58 : decode cX7_measures 58 = .ok (.iload 4, 2) := by decide +kernel
theorem dX7_measures_60 : decode cX7_measures 60 = .ok (.aload_n 0, 1) := by decide +kernel
theorem dX7_measures_61 : decode cX7_measures 61 = .ok (.getfield 59, 3) := by decide +kernel
theorem dX7_measures_64 : decode cX7_measures 64 = .ok (.if_icmp .gt 83, 3) := by decide +kernel
theorem dX7_measures_67 : decode cX7_measures 67 = .ok (.aload_n 0, 1) := by decide +kernel
theorem dX7_measures_68 : decode cX7_measures 68 = .ok (.iload_n 3, 1) := by decide +kernel
theorem dX7_measures_69 : decode cX7_measures 69 = .ok (.invokevirtual 139, 3) := by decide +kernel
theorem dX7_measures_72 : decode cX7_measures 72 = .ok (.aload_n 0, 1) := by decide +kernel
theorem dX7_measures_73 : decode cX7_measures 73 = .ok (.iload 4, 2) := by decide +kernel
theorem dX7_measures_75 : decode cX7_measures 75 = .ok (.invokevirtual 116, 3) := by decide +kernel
theorem dX7_measures_78 : decode cX7_measures 78 = .ok (.aload_n 0, 1) := by decide +kernel
theorem dX7_measures_79 : decode cX7_measures 79 = .ok (.invokevirtual 130, 3) := by decide +kernel
theorem dX7_measures_82 : decode cX7_measures 82 = .ok (.istore 5, 2) := by decide +kernel
theorem dX7_measures_84 : decode cX7_measures 84 = .ok (.aload_n 0, 1) := by decide +kernel
theorem dX7_measures_85 : decode cX7_measures 85 = .ok (.getfield 32, 3) := by decide +kernel
theorem dX7_measures_88 : decode cX7_measures 88 = .ok (.bipush 6, 2) := by decide +kernel
theorem dX7_measures_90 : decode cX7_measures 90 = .ok (.iload 5, 2) := by decide +kernel
theorem dX7_measures_92 : decode cX7_measures 92 = .ok (.imul, 1) := by decide +kernel
theorem dX7_measures_93 : decode cX7_measures 93 = .ok (.iload 4, 2) := by decide +kernel
theorem dX7_measures_95 : decode cX7_measures 95 = .ok (.iadd, 1) := by decide +kernel
theorem dX7_measures_96 : decode cX7_measures 96 = .ok (.iconst 1, 1) := by decide +kernel
theorem dX7_measures_97 : decode cX7_measures 97 = .ok (.isub, 1) := by decide +kernel
theorem dX7_measures_98 : decode cX7_measures 98 = .ok (.iaload, 1) := by decide +kernel
theorem dX7_measures_99 : decode cX7_measures 99 = .ok (.iload_n 3, 1) := by decide +kernel
theorem dX7_measures_100 : decode cX7_measures 100 = .ok (.if_icmp .ne 41, 3) := by decide +kernel
theorem dX7_measures_103 : decode cX7_measures 103 = .ok (.aload_n 0, 1) := by decide +kernel
theorem dX7_measures_104 : decode cX7_measures 104 = .ok (.getfield 35, 3) := by decide +kernel
theorem dX7_measures_107 : decode cX7_measures 107 = .ok (.iload 5, 2) := by decide +kernel
theorem dX7_measures_109 : decode cX7_measures 109 = .ok (.iaload, 1) := by decide +kernel
theorem dX7_measures_110 : decode cX7_measures 110 = .ok (.ldc 142, 2) := by decide +kernel
theorem dX7_measures_112 : decode cX7_measures 112 = .ok (.if_icmp .ne 29, 3) := by decide +kernel
theorem dX7_measures_115 : decode cX7_measures 115 = .ok (.aload_n 0, 1) := by decide +kernel
theorem dX7_measures_116 : decode cX7_measures 116 = .ok (.getfield 35, 3) := by decide +kernel
theorem dX7_measures_119 : decode cX7_measures 119 = .ok (.iload 5, 2) := by decide +kernel
theorem dX7_measures_121 : decode cX7_measures 121 = .ok (.aload_n 0, 1) := by decide +kernel
theorem dX7_measures_122 : decode cX7_measures 122 = .ok (.getfield 35, 3) := by decide +kernel
theorem dX7_measures_125 : decode cX7_measures 125 = .ok (.iload_n 3, 1) := by decide +kernel
theorem dX7_measures_126 : decode cX7_measures 126 = .ok (.iaload, 1) := by decide +kernel
theorem dX7_measures_127 : decode cX7_measures 127 = .ok (.iconst 1, 1) := by decide +kernel
theorem dX7_measures_128 : decode cX7_measures 128 = .ok (.iadd, 1) := by decide +kernel
theorem dX7_measures_129 : decode cX7_measures 129 = .ok (.iastore, 1) := by decide +kernel
theorem dX7_measures_130 : decode cX7_measures 130 = .ok (.aload_n 0, 1) := by decide +kernel
theorem dX7_measures_131 : decode cX7_measures 131 = .ok (.getfield 41, 3) := by decide +kernel
theorem dX7_measures_134 : decode cX7_measures 134 = .ok (.iload_n 1, 1) := by decide +kernel
theorem dX7_measures_135 : decode cX7_measures 135 = .ok (.iload 5, 2) := by decide +kernel
theorem dX7_measures_137 : decode cX7_measures 137 = .ok (.iastore, 1) := by decide +kernel
theorem dX7_measures_138 : decode cX7_measures 138 = .ok (.iinc 1 1, 3) := by decide +kernel
theorem dX7_measures_141 : decode cX7_measures 141 = .ok (.iinc 4 1, 3) := by decide +kernel
theorem dX7_measures_144 : decode cX7_measures 144 = .ok (.goto (-86), 3) := by decide +kernel
theorem dX7_measures_147 : decode cX7_measures 147 = .ok (.iinc 2 1, 3) := by decide +kernel
theorem dX7_measures_150 : decode cX7_measures 150 = .ok (.goto (-107), 3) := by decide +kernel
theorem dX7_measures_153 : decode cX7_measures 153 = .ok (.return_, 1) := by decide +kernel
theorem dX7_fewest_0 : decode cX7_fewest 0 = .ok (.aload_n 0, 1) := by decide +kernel
theorem dX7_fewest_1 : decode cX7_fewest 1 = .ok (.iload_n 1, 1) := by decide +kernel
theorem dX7_fewest_2 : decode cX7_fewest 2 = .ok (.invokevirtual 98, 3) := by decide +kernel
theorem dX7_fewest_5 : decode cX7_fewest 5 = .ok (.ifCond .eq 12, 3) := by decide +kernel
theorem dX7_fewest_8 : decode cX7_fewest 8 = .ok (.iload_n 2, 1) := by decide +kernel
theorem dX7_fewest_9 : decode cX7_fewest 9 = .ok (.iconst 0, 1) := by decide +kernel
theorem dX7_fewest_10 : decode cX7_fewest 10 = .ok (.iconst 1, 1) := by decide +kernel
theorem dX7_fewest_11 : decode cX7_fewest 11 = .ok (.invokestatic 50, 3) := by decide +kernel
theorem dX7_fewest_14 : decode cX7_fewest 14 = .ok (.ifCond .ne 6, 3) := by decide +kernel
theorem dX7_fewest_17 : decode cX7_fewest 17 = .ok (.ldc 54, 2) := by decide +kernel
theorem dX7_fewest_19 : decode cX7_fewest 19 = .ok (.ireturn, 1) := by decide +kernel
theorem dX7_fewest_20 : decode cX7_fewest 20 = .ok (.aload_n 0, 1) := by decide +kernel
theorem dX7_fewest_21 : decode cX7_fewest 21 = .ok (.iload_n 1, 1) := by decide +kernel
theorem dX7_fewest_22 : decode cX7_fewest 22 = .ok (.invokevirtual 143, 3) := by decide +kernel
theorem dX7_fewest_25 : decode cX7_fewest 25 = .ok (.istore_n 3, 1) := by decide +kernel
theorem dX7_fewest_26 : decode cX7_fewest 26 = .ok (.aload_n 0, 1) := by decide +kernel
theorem dX7_fewest_27 : decode cX7_fewest 27 = .ok (.invokevirtual 146, 3) := by decide +kernel
theorem dX7_fewest_30 : decode cX7_fewest 30 = .ok (.aload_n 0, 1) := by decide +kernel
theorem dX7_fewest_31 : decode cX7_fewest 31 = .ok (.getfield 35, 3) := by decide +kernel
theorem dX7_fewest_34 : decode cX7_fewest 34 = .ok (.iload_n 3, 1) := by decide +kernel
theorem dX7_fewest_35 : decode cX7_fewest 35 = .ok (.iaload, 1) := by decide +kernel
theorem dX7_fewest_36 : decode cX7_fewest 36 = .ok (.bipush 9, 2) := by decide +kernel
theorem dX7_fewest_38 : decode cX7_fewest 38 = .ok (.if_icmp .le 6, 3) := by decide +kernel
theorem dX7_fewest_41 : decode cX7_fewest 41 = .ok (.ldc 149, 2) := by decide +kernel
theorem dX7_fewest_43 : decode cX7_fewest 43 = .ok (.ireturn, 1) := by decide +kernel
theorem dX7_fewest_44 : decode cX7_fewest 44 = .ok (.iload_n 2, 1) := by decide +kernel
theorem dX7_fewest_45 : decode cX7_fewest 45 = .ok (.ifCond .ne 10, 3) := by decide +kernel
theorem dX7_fewest_48 : decode cX7_fewest 48 = .ok (.aload_n 0, 1) := by decide +kernel
theorem dX7_fewest_49 : decode cX7_fewest 49 = .ok (.getfield 35, 3) := by decide +kernel
theorem dX7_fewest_52 : decode cX7_fewest 52 = .ok (.iload_n 3, 1) := by decide +kernel
theorem dX7_fewest_53 : decode cX7_fewest 53 = .ok (.iaload, 1) := by decide +kernel
theorem dX7_fewest_54 : decode cX7_fewest 54 = .ok (.ireturn, 1) := by decide +kernel
theorem dX7_fewest_55 : decode cX7_fewest 55 = .ok (.iconst 0, 1) := by decide +kernel
theorem dX7_fewest_56 : decode cX7_fewest 56 = .ok (.istore 4, 2) := by decide +kernel
theorem dX7_fewest_58 : decode cX7_fewest 58 = .ok (.aload_n 0, 1) := by decide +kernel
theorem dX7_fewest_59 : decode cX7_fewest 59 = .ok (.getfield 35, 3) := by decide +kernel
theorem dX7_fewest_62 : decode cX7_fewest 62 = .ok (.iload_n 3, 1) := by decide +kernel
theorem dX7_fewest_63 : decode cX7_fewest 63 = .ok (.iaload, 1) := by decide +kernel
theorem dX7_fewest_64 : decode cX7_fewest 64 = .ok (.ifCond .le 87, 3) := by decide +kernel
theorem dX7_fewest_67 : decode cX7_fewest 67 = .ok (.iconst 1, 1) := by decide +kernel
theorem dX7_fewest_68 : decode cX7_fewest 68 = .ok (.istore 5, 2) := by decide +kernel
theorem dX7_fewest_70 : decode cX7_fewest 70 = .ok (.aload_n 0, 1) := by decide +kernel
theorem dX7_fewest_71 : decode cX7_fewest 71 = .ok (.getfield 32, 3) := by decide +kernel
theorem dX7_fewest_74 : decode cX7_fewest 74 = .ok (.bipush 6, 2) := by decide +kernel
theorem dX7_fewest_76 : decode cX7_fewest 76 = .ok (.iload_n 3, 1) := by decide +kernel
theorem dX7_fewest_77 : decode cX7_fewest 77 = .ok (.imul, 1) := by decide +kernel
theorem dX7_fewest_78 : decode cX7_fewest 78 = .ok (.iload 5, 2) := by decide +kernel
theorem dX7_fewest_80 : decode cX7_fewest 80 = .ok (.iadd, 1) := by decide +kernel
theorem dX7_fewest_81 : decode cX7_fewest 81 = .ok (.iconst 1, 1) := by decide +kernel
theorem dX7_fewest_82 : decode cX7_fewest 82 = .ok (.isub, 1) := by decide +kernel
theorem dX7_fewest_83 : decode cX7_fewest 83 = .ok (.iaload, 1) := by decide +kernel
theorem dX7_fewest_84 : decode cX7_fewest 84 = .ok (.ifCond .lt 33, 3) := by decide +kernel
theorem dX7_fewest_87 : decode cX7_fewest 87 = .ok (.aload_n 0, 1) := by decide +kernel
theorem dX7_fewest_88 : decode cX7_fewest 88 = .ok (.getfield 35, 3) := by decide +kernel
theorem dX7_fewest_91 : decode cX7_fewest 91 = .ok (.aload_n 0, 1) := by decide +kernel
theorem dX7_fewest_92 : decode cX7_fewest 92 = .ok (.getfield 32, 3) := by decide +kernel
theorem dX7_fewest_95 : decode cX7_fewest 95 = .ok (.bipush 6, 2) := by decide +kernel
theorem dX7_fewest_97 : decode cX7_fewest 97 = .ok (.iload_n 3, 1) := by decide +kernel
theorem dX7_fewest_98 : decode cX7_fewest 98 = .ok (.imul, 1) := by decide +kernel
theorem dX7_fewest_99 : decode cX7_fewest 99 = .ok (.iload 5, 2) := by decide +kernel
theorem dX7_fewest_101 : decode cX7_fewest 101 = .ok (.iadd, 1) := by decide +kernel
theorem dX7_fewest_102 : decode cX7_fewest 102 = .ok (.iconst 1, 1) := by decide +kernel
theorem dX7_fewest_103 : decode cX7_fewest 103 = .ok (.isub, 1) := by decide +kernel
theorem dX7_fewest_104 : decode cX7_fewest 104 = .ok (.iaload, 1) := by decide +kernel
theorem dX7_fewest_105 : decode cX7_fewest 105 = .ok (.iaload, 1) := by decide +kernel
theorem dX7_fewest_106 : decode cX7_fewest 106 = .ok (.aload_n 0, 1) := by decide +kernel
theorem dX7_fewest_107 : decode cX7_fewest 107 = .ok (.getfield 35, 3) := by decide +kernel
theorem dX7_fewest_110 : decode cX7_fewest 110 = .ok (.iload_n 3, 1) := by decide +kernel
theorem dX7_fewest_111 : decode cX7_fewest 111 = .ok (.iaload, 1) := by decide +kernel
theorem dX7_fewest_112 : decode cX7_fewest 112 = .ok (.iconst 1, 1) := by decide +kernel
theorem dX7_fewest_113 : decode cX7_fewest 113 = .ok (.isub, 1) := by decide +kernel
theorem dX7_fewest_114 : decode cX7_fewest 114 = .ok (.if_icmp .eq 9, 3) := by decide +kernel
theorem dX7_fewest_117 : decode cX7_fewest 117 = .ok (.iinc 5 1, 3) := by decide +kernel
theorem dX7_fewest_120 : decode cX7_fewest 120 = .ok (.goto (-50), 3) := by decide +kernel
theorem dX7_fewest_123 : decode cX7_fewest 123 = .ok (.bipush 10, 2) := by decide +kernel
theorem dX7_fewest_125 : decode cX7_fewest 125 = .ok (.iload 4, 2) := by decide +kernel
theorem dX7_fewest_127 : decode cX7_fewest 127 = .ok (.imul, 1) := by decide +kernel
theorem dX7_fewest_128 : decode cX7_fewest 128 = .ok (.iload 5, 2) := by decide +kernel
theorem dX7_fewest_130 : decode cX7_fewest 130 = .ok (.iadd, 1) := by decide +kernel
theorem dX7_fewest_131 : decode cX7_fewest 131 = .ok (.istore 4, 2) := by decide +kernel
theorem dX7_fewest_133 : decode cX7_fewest 133 = .ok (.aload_n 0, 1) := by decide +kernel
theorem dX7_fewest_134 : decode cX7_fewest 134 = .ok (.getfield 32, 3) := by decide +kernel
theorem dX7_fewest_137 : decode cX7_fewest 137 = .ok (.bipush 6, 2) := by decide +kernel
theorem dX7_fewest_139 : decode cX7_fewest 139 = .ok (.iload_n 3, 1) := by decide +kernel
theorem dX7_fewest_140 : decode cX7_fewest 140 = .ok (.imul, 1) := by decide +kernel
theorem dX7_fewest_141 : decode cX7_fewest 141 = .ok (.iload 5, 2) := by decide +kernel
theorem dX7_fewest_143 : decode cX7_fewest 143 = .ok (.iadd, 1) := by decide +kernel
theorem dX7_fewest_144 : decode cX7_fewest 144 = .ok (.iconst 1, 1) := by decide +kernel
theorem dX7_fewest_145 : decode cX7_fewest 145 = .ok (.isub, 1) := by decide +kernel
theorem dX7_fewest_146 : decode cX7_fewest 146 = .ok (.iaload, 1) := by decide +kernel
theorem dX7_fewest_147 : decode cX7_fewest 147 = .ok (.istore_n 3, 1) := by decide +kernel
theorem dX7_fewest_148 : decode cX7_fewest 148 = .ok (.goto (-90), 3) := by decide +kernel
theorem dX7_fewest_151 : decode cX7_fewest 151 = .ok (.iload 4, 2) := by decide +kernel
theorem dX7_fewest_153 : decode cX7_fewest 153 = .ok (.ireturn, 1) := by decide +kernel
theorem dX7_leastWork_0 : decode cX7_leastWork 0 = .ok (.aload_n 0, 1) := by decide +kernel
theorem dX7_leastWork_1 : decode cX7_leastWork 1 = .ok (.iload_n 1, 1) := by decide +kernel
theorem dX7_leastWork_2 : decode cX7_leastWork 2 = .ok (.invokevirtual 98, 3) := by decide +kernel
theorem dX7_leastWork_5 : decode cX7_leastWork 5 = .ok (.ifCond .ne 6, 3) := by decide +kernel
theorem dX7_leastWork_8 : decode cX7_leastWork 8 = .ok (.ldc 54, 2) := by decide +kernel
theorem dX7_leastWork_10 : decode cX7_leastWork 10 = .ok (.ireturn, 1) := by decide +kernel
theorem dX7_leastWork_11 : decode cX7_leastWork 11 = .ok (.aload_n 0, 1) := by decide +kernel
theorem dX7_leastWork_12 : decode cX7_leastWork 12 = .ok (.iload_n 1, 1) := by decide +kernel
theorem dX7_leastWork_13 : decode cX7_leastWork 13 = .ok (.invokevirtual 143, 3) := by decide +kernel
theorem dX7_leastWork_16 : decode cX7_leastWork 16 = .ok (.istore_n 2, 1) := by decide +kernel
theorem dX7_leastWork_17 : decode cX7_leastWork 17 = .ok (.iconst 0, 1) := by decide +kernel
theorem dX7_leastWork_18 : decode cX7_leastWork 18 = .ok (.istore_n 3, 1) := by decide +kernel
theorem dX7_leastWork_19 : decode cX7_leastWork 19 = .ok (.iload_n 3, 1) := by decide +kernel
theorem dX7_leastWork_20 : decode cX7_leastWork 20 = .ok (.aload_n 0, 1) := by decide +kernel
theorem dX7_leastWork_21 : decode cX7_leastWork 21 = .ok (.invokevirtual 136, 3) := by decide +kernel
theorem dX7_leastWork_24 : decode cX7_leastWork 24 = .ok (.if_icmp .ge 25, 3) := by decide +kernel
theorem dX7_leastWork_27 : decode cX7_leastWork 27 = .ok (.aload_n 0, 1) := by decide +kernel
theorem dX7_leastWork_28 : decode cX7_leastWork 28 = .ok (.getfield 35, 3) := by decide +kernel
theorem dX7_leastWork_31 : decode cX7_leastWork 31 = .ok (.iload_n 3, 1) := by decide +kernel
theorem dX7_leastWork_32 : decode cX7_leastWork 32 = .ok (.iload_n 3, 1) := by decide +kernel
theorem dX7_leastWork_33 : decode cX7_leastWork 33 = .ok (.ifCond .ne 7, 3) := by decide +kernel
theorem dX7_leastWork_36 : decode cX7_leastWork 36 = .ok (.iconst 0, 1) := by decide +kernel
theorem dX7_leastWork_37 : decode cX7_leastWork 37 = .ok (.goto 5, 3) := by decide +kernel
theorem dX7_leastWork_40 : decode cX7_leastWork 40 = .ok (.ldc 142, 2) := by decide +kernel
theorem dX7_leastWork_42 : decode cX7_leastWork 42 = .ok (.iastore, 1) := by decide +kernel
theorem dX7_leastWork_43 : decode cX7_leastWork 43 = .ok (.iinc 3 1, 3) := by decide +kernel
theorem dX7_leastWork_46 : decode cX7_leastWork 46 = .ok (.goto (-27), 3) := by decide +kernel
theorem dX7_leastWork_49 : decode cX7_leastWork 49 = .ok (.iconst 1, 1) := by decide +kernel
theorem dX7_leastWork_50 : decode cX7_leastWork 50 = .ok (.istore_n 3, 1) := by decide +kernel
theorem dX7_leastWork_51 : decode cX7_leastWork 51 = .ok (.iload_n 3, 1) := by decide +kernel
theorem dX7_leastWork_52 : decode cX7_leastWork 52 = .ok (.ifCond .eq 110, 3) := by decide +kernel
theorem dX7_leastWork_55 : decode cX7_leastWork 55 = .ok (.iconst 0, 1) := by decide +kernel
theorem dX7_leastWork_56 : decode cX7_leastWork 56 = .ok (.istore_n 3, 1) := by decide +kernel
theorem dX7_leastWork_57 : decode cX7_leastWork 57 = .ok (.iconst 0, 1) := by decide +kernel
theorem dX7_leastWork_58 : decode cX7_leastWork 58 = .ok (.istore 4, 2) := by decide +kernel
theorem dX7_leastWork_60 : decode cX7_leastWork 60 = .ok (.iload 4, 2) := by decide +kernel
theorem dX7_leastWork_62 : decode cX7_leastWork 62 = .ok (.bipush 6, 2) := by decide +kernel
theorem dX7_leastWork_64 : decode cX7_leastWork 64 = .ok (.aload_n 0, 1) := by decide +kernel
theorem dX7_leastWork_65 : decode cX7_leastWork 65 = .ok (.invokevirtual 136, 3) := by decide +kernel
theorem dX7_leastWork_68 : decode cX7_leastWork 68 = .ok (.imul, 1) := by decide +kernel
theorem dX7_leastWork_69 : decode cX7_leastWork 69 = .ok (.if_icmp .ge 90, 3) := by decide +kernel
theorem dX7_leastWork_72 : decode cX7_leastWork 72 = .ok (.iload 4, 2) := by decide +kernel
theorem dX7_leastWork_74 : decode cX7_leastWork 74 = .ok (.bipush 6, 2) := by decide +kernel
theorem dX7_leastWork_76 : decode cX7_leastWork 76 = .ok (.irem, 1) := by decide +kernel
theorem dX7_leastWork_77 : decode cX7_leastWork 77 = .ok (.iconst 1, 1) := by decide +kernel
theorem dX7_leastWork_78 : decode cX7_leastWork 78 = .ok (.iadd, 1) := by decide +kernel
theorem dX7_leastWork_79 : decode cX7_leastWork 79 = .ok (.istore 5, 2) := by decide +kernel
theorem dX7_leastWork_81 : decode cX7_leastWork 81 = .ok (.iload 5, 2) := by decide +kernel
theorem dX7_leastWork_83 : decode cX7_leastWork 83 = .ok (.aload_n 0, 1) := by decide +kernel
theorem dX7_leastWork_84 : decode cX7_leastWork 84 = .ok (.getfield 59, 3) := by decide +kernel
theorem dX7_leastWork_87 : decode cX7_leastWork 87 = .ok (.if_icmp .gt 13, 3) := by decide +kernel
theorem dX7_leastWork_90 : decode cX7_leastWork 90 = .ok (.aload_n 0, 1) := by decide +kernel
theorem dX7_leastWork_91 : decode cX7_leastWork 91 = .ok (.getfield 32, 3) := by decide +kernel
theorem dX7_leastWork_94 : decode cX7_leastWork 94 = .ok (.iload 4, 2) := by decide +kernel
theorem dX7_leastWork_96 : decode cX7_leastWork 96 = .ok (.iaload, 1) := by decide +kernel
theorem dX7_leastWork_97 : decode cX7_leastWork 97 = .ok (.goto 4, 3) := by decide +kernel
theorem dX7_leastWork_100 : decode cX7_leastWork 100 = .ok (.iconst (-1), 1) := by decide +kernel
theorem dX7_leastWork_101 : decode cX7_leastWork 101 = .ok (.istore 6, 2) := by decide +kernel
theorem dX7_leastWork_103 : decode cX7_leastWork 103 = .ok (.iload 6, 2) := by decide +kernel
theorem dX7_leastWork_105 : decode cX7_leastWork 105 = .ok (.ifCond .lt 48, 3) := by decide +kernel
theorem dX7_leastWork_108 : decode cX7_leastWork 108 = .ok (.aload_n 0, 1) := by decide +kernel
theorem dX7_leastWork_109 : decode cX7_leastWork 109 = .ok (.getfield 35, 3) := by decide +kernel
theorem dX7_leastWork_112 : decode cX7_leastWork 112 = .ok (.iload 6, 2) := by decide +kernel
theorem dX7_leastWork_114 : decode cX7_leastWork 114 = .ok (.iaload, 1) := by decide +kernel
theorem dX7_leastWork_115 : decode cX7_leastWork 115 = .ok (.iload 5, 2) := by decide +kernel
theorem dX7_leastWork_117 : decode cX7_leastWork 117 = .ok (.iadd, 1) := by decide +kernel
theorem dX7_leastWork_118 : decode cX7_leastWork 118 = .ok (.aload_n 0, 1) := by decide +kernel
theorem dX7_leastWork_119 : decode cX7_leastWork 119 = .ok (.getfield 35, 3) := by decide +kernel
theorem dX7_leastWork_122 : decode cX7_leastWork 122 = .ok (.iload 4, 2) := by decide +kernel
theorem dX7_leastWork_124 : decode cX7_leastWork 124 = .ok (.bipush 6, 2) := by decide +kernel
theorem dX7_leastWork_126 : decode cX7_leastWork 126 = .ok (.idiv, 1) := by decide +kernel
theorem dX7_leastWork_127 : decode cX7_leastWork 127 = .ok (.iaload, 1) := by decide +kernel
theorem dX7_leastWork_128 : decode cX7_leastWork 128 = .ok (.if_icmp .ge 25, 3) := by decide +kernel
theorem dX7_leastWork_131 : decode cX7_leastWork 131 = .ok (.aload_n 0, 1) := by decide +kernel
theorem dX7_leastWork_132 : decode cX7_leastWork 132 = .ok (.getfield 35, 3) := by decide +kernel
theorem dX7_leastWork_135 : decode cX7_leastWork 135 = .ok (.iload 4, 2) := by decide +kernel
theorem dX7_leastWork_137 : decode cX7_leastWork 137 = .ok (.bipush 6, 2) := by decide +kernel
theorem dX7_leastWork_139 : decode cX7_leastWork 139 = .ok (.idiv, 1) := by decide +kernel
theorem dX7_leastWork_140 : decode cX7_leastWork 140 = .ok (.aload_n 0, 1) := by decide +kernel
theorem dX7_leastWork_141 : decode cX7_leastWork 141 = .ok (.getfield 35, 3) := by decide +kernel
theorem dX7_leastWork_144 : decode cX7_leastWork 144 = .ok (.iload 6, 2) := by decide +kernel
theorem dX7_leastWork_146 : decode cX7_leastWork 146 = .ok (.iaload, 1) := by decide +kernel
theorem dX7_leastWork_147 : decode cX7_leastWork 147 = .ok (.iload 5, 2) := by decide +kernel
theorem dX7_leastWork_149 : decode cX7_leastWork 149 = .ok (.iadd, 1) := by decide +kernel
theorem dX7_leastWork_150 : decode cX7_leastWork 150 = .ok (.iastore, 1) := by decide +kernel
theorem dX7_leastWork_151 : decode cX7_leastWork 151 = .ok (.iconst 1, 1) := by decide +kernel
theorem dX7_leastWork_152 : decode cX7_leastWork 152 = .ok (.istore_n 3, 1) := by decide +kernel
theorem dX7_leastWork_153 : decode cX7_leastWork 153 = .ok (.iinc 4 1, 3) := by decide +kernel
theorem dX7_leastWork_156 : decode cX7_leastWork 156 = .ok (.goto (-96), 3) := by decide +kernel
theorem dX7_leastWork_159 : decode cX7_leastWork 159 = .ok (.goto (-108), 3) := by decide +kernel
theorem dX7_leastWork_162 : decode cX7_leastWork 162 = .ok (.aload_n 0, 1) := by decide +kernel
theorem dX7_leastWork_163 : decode cX7_leastWork 163 = .ok (.getfield 35, 3) := by decide +kernel
theorem dX7_leastWork_166 : decode cX7_leastWork 166 = .ok (.iload_n 2, 1) := by decide +kernel
theorem dX7_leastWork_167 : decode cX7_leastWork 167 = .ok (.iaload, 1) := by decide +kernel
theorem dX7_leastWork_168 : decode cX7_leastWork 168 = .ok (.ldc 142, 2) := by decide +kernel
theorem dX7_leastWork_170 : decode cX7_leastWork 170 = .ok (.if_icmp .ge 12, 3) := by decide +kernel
theorem dX7_leastWork_173 : decode cX7_leastWork 173 = .ok (.aload_n 0, 1) := by decide +kernel
theorem dX7_leastWork_174 : decode cX7_leastWork 174 = .ok (.getfield 35, 3) := by decide +kernel
theorem dX7_leastWork_177 : decode cX7_leastWork 177 = .ok (.iload_n 2, 1) := by decide +kernel
theorem dX7_leastWork_178 : decode cX7_leastWork 178 = .ok (.iaload, 1) := by decide +kernel
theorem dX7_leastWork_179 : decode cX7_leastWork 179 = .ok (.goto 5, 3) := by decide +kernel
theorem dX7_leastWork_182 : decode cX7_leastWork 182 = .ok (.ldc 149, 2) := by decide +kernel
theorem dX7_leastWork_184 : decode cX7_leastWork 184 = .ok (.ireturn, 1) := by decide +kernel
theorem dX7_ways_0 : decode cX7_ways 0 = .ok (.aload_n 0, 1) := by decide +kernel
theorem dX7_ways_1 : decode cX7_ways 1 = .ok (.iload_n 1, 1) := by decide +kernel
theorem dX7_ways_2 : decode cX7_ways 2 = .ok (.invokevirtual 98, 3) := by decide +kernel
theorem dX7_ways_5 : decode cX7_ways 5 = .ok (.ifCond .eq 12, 3) := by decide +kernel
theorem dX7_ways_8 : decode cX7_ways 8 = .ok (.iload_n 2, 1) := by decide +kernel
theorem dX7_ways_9 : decode cX7_ways 9 = .ok (.iconst 0, 1) := by decide +kernel
