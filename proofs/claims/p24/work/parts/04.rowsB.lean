theorem dX1_orderOf_13 : decode cX1_orderOf 13 = .ok (.iload 4, 2) := by decide +kernel
theorem dX1_orderOf_15 : decode cX1_orderOf 15 = .ok (.bipush 20, 2) := by decide +kernel
theorem dX1_orderOf_17 : decode cX1_orderOf 17 = .ok (.if_icmp .ge 60, 3) := by decide +kernel
theorem dX1_orderOf_20 : decode cX1_orderOf 20 = .ok (.iload_n 2, 1) := by decide +kernel
theorem dX1_orderOf_21 : decode cX1_orderOf 21 = .ok (.iload_n 3, 1) := by decide +kernel
theorem dX1_orderOf_22 : decode cX1_orderOf 22 = .ok (.if_icmp .gt 55, 3) := by decide +kernel
theorem dX1_orderOf_25 : decode cX1_orderOf 25 = .ok (.iload_n 2, 1) := by decide +kernel
theorem dX1_orderOf_26 : decode cX1_orderOf 26 = .ok (.iload_n 3, 1) := by decide +kernel
theorem dX1_orderOf_27 : decode cX1_orderOf 27 = .ok (.iadd, 1) := by decide +kernel
theorem dX1_orderOf_28 : decode cX1_orderOf 28 = .ok (.iconst 1, 1) := by decide +kernel
theorem dX1_orderOf_29 : decode cX1_orderOf 29 = .ok (.iushr, 1) := by decide +kernel
theorem dX1_orderOf_30 : decode cX1_orderOf 30 = .ok (.istore 5, 2) := by decide +kernel
theorem dX1_orderOf_32 : decode cX1_orderOf 32 = .ok (.aload_n 0, 1) := by decide +kernel
theorem dX1_orderOf_33 : decode cX1_orderOf 33 = .ok (.getfield 28, 3) := by decide +kernel
theorem dX1_orderOf_36 : decode cX1_orderOf 36 = .ok (.iload 5, 2) := by decide +kernel
theorem dX1_orderOf_38 : decode cX1_orderOf 38 = .ok (.invokestatic 60, 3) := by decide +kernel
theorem dX1_orderOf_41 : decode cX1_orderOf 41 = .ok (.istore 6, 2) := by decide +kernel
theorem dX1_orderOf_43 : decode cX1_orderOf 43 = .ok (.iload 6, 2) := by decide +kernel
theorem dX1_orderOf_45 : decode cX1_orderOf 45 = .ok (.iload_n 1, 1) := by decide +kernel
theorem dX1_orderOf_46 : decode cX1_orderOf 46 = .ok (.if_icmp .ne 6, 3) := by decide +kernel
theorem dX1_orderOf_49 : decode cX1_orderOf 49 = .ok (.iload 5, 2) := by decide +kernel
theorem dX1_orderOf_51 : decode cX1_orderOf 51 = .ok (.ireturn, 1) := by decide +kernel
theorem dX1_orderOf_52 : decode cX1_orderOf 52 = .ok (.iload 6, 2) := by decide +kernel
theorem dX1_orderOf_54 : decode cX1_orderOf 54 = .ok (.iload_n 1, 1) := by decide +kernel
theorem dX1_orderOf_55 : decode cX1_orderOf 55 = .ok (.if_icmp .ge 11, 3) := by decide +kernel
theorem dX1_orderOf_58 : decode cX1_orderOf 58 = .ok (.iload 5, 2) := by decide +kernel
theorem dX1_orderOf_60 : decode cX1_orderOf 60 = .ok (.iconst 1, 1) := by decide +kernel
theorem dX1_orderOf_61 : decode cX1_orderOf 61 = .ok (.iadd, 1) := by decide +kernel
theorem dX1_orderOf_62 : decode cX1_orderOf 62 = .ok (.istore_n 2, 1) := by decide +kernel
theorem dX1_orderOf_63 : decode cX1_orderOf 63 = .ok (.goto 8, 3) := by decide +kernel
theorem dX1_orderOf_66 : decode cX1_orderOf 66 = .ok (.iload 5, 2) := by decide +kernel
theorem dX1_orderOf_68 : decode cX1_orderOf 68 = .ok (.iconst 1, 1) := by decide +kernel
theorem dX1_orderOf_69 : decode cX1_orderOf 69 = .ok (.isub, 1) := by decide +kernel
theorem dX1_orderOf_70 : decode cX1_orderOf 70 = .ok (.istore_n 3, 1) := by decide +kernel
theorem dX1_orderOf_71 : decode cX1_orderOf 71 = .ok (.iinc 4 1, 3) := by decide +kernel
theorem dX1_orderOf_74 : decode cX1_orderOf 74 = .ok (.goto (-61), 3) := by decide +kernel
theorem dX1_orderOf_77 : decode cX1_orderOf 77 = .ok (.iconst (-1), 1) := by decide +kernel
theorem dX1_orderOf_78 : decode cX1_orderOf 78 = .ok (.ireturn, 1) := by decide +kernel
theorem dX1_rankOf_0 : decode cX1_rankOf 0 = .ok (.aload_n 0, 1) := by decide +kernel
theorem dX1_rankOf_1 : decode cX1_rankOf 1 = .ok (.iload_n 1, 1) := by decide +kernel
theorem dX1_rankOf_2 : decode cX1_rankOf 2 = .ok (.invokevirtual 68, 3) := by decide +kernel
theorem dX1_rankOf_5 : decode cX1_rankOf 5 = .ok (.istore_n 3, 1) := by decide +kernel
theorem dX1_rankOf_6 : decode cX1_rankOf 6 = .ok (.iload_n 3, 1) := by decide +kernel
theorem dX1_rankOf_7 : decode cX1_rankOf 7 = .ok (.iconst (-1), 1) := by decide +kernel
theorem dX1_rankOf_8 : decode cX1_rankOf 8 = .ok (.if_icmp .eq 15, 3) := by decide +kernel
theorem dX1_rankOf_11 : decode cX1_rankOf 11 = .ok (.iload_n 2, 1) := by decide +kernel
theorem dX1_rankOf_12 : decode cX1_rankOf 12 = .ok (.ifCond .lt 11, 3) := by decide +kernel
theorem dX1_rankOf_15 : decode cX1_rankOf 15 = .ok (.iload_n 2, 1) := by decide +kernel
theorem dX1_rankOf_16 : decode cX1_rankOf 16 = .ok (.aload_n 0, 1) := by decide +kernel
theorem dX1_rankOf_17 : decode cX1_rankOf 17 = .ok (.getfield 18, 3) := by decide +kernel
theorem dX1_rankOf_20 : decode cX1_rankOf 20 = .ok (.if_icmp .le 5, 3) := by decide +kernel
theorem dX1_rankOf_23 : decode cX1_rankOf 23 = .ok (.iconst (-1), 1) := by decide +kernel
theorem dX1_rankOf_24 : decode cX1_rankOf 24 = .ok (.ireturn, 1) := by decide +kernel
theorem dX1_rankOf_25 : decode cX1_rankOf 25 = .ok (.iload_n 3, 1) := by decide +kernel
theorem dX1_rankOf_26 : decode cX1_rankOf 26 = .ok (.aload_n 0, 1) := by decide +kernel
theorem dX1_rankOf_27 : decode cX1_rankOf 27 = .ok (.getfield 15, 3) := by decide +kernel
theorem dX1_rankOf_30 : decode cX1_rankOf 30 = .ok (.ishl, 1) := by decide +kernel
theorem dX1_rankOf_31 : decode cX1_rankOf 31 = .ok (.iload_n 2, 1) := by decide +kernel
theorem dX1_rankOf_32 : decode cX1_rankOf 32 = .ok (.ior, 1) := by decide +kernel
theorem dX1_rankOf_33 : decode cX1_rankOf 33 = .ok (.ireturn, 1) := by decide +kernel
theorem dX1_codeOf_0 : decode cX1_codeOf 0 = .ok (.aload_n 0, 1) := by decide +kernel
theorem dX1_codeOf_1 : decode cX1_codeOf 1 = .ok (.getfield 28, 3) := by decide +kernel
theorem dX1_codeOf_4 : decode cX1_codeOf 4 = .ok (.iload_n 1, 1) := by decide +kernel
theorem dX1_codeOf_5 : decode cX1_codeOf 5 = .ok (.aload_n 0, 1) := by decide +kernel
theorem dX1_codeOf_6 : decode cX1_codeOf 6 = .ok (.getfield 15, 3) := by decide +kernel
theorem dX1_codeOf_9 : decode cX1_codeOf 9 = .ok (.ishr, 1) := by decide +kernel
theorem dX1_codeOf_10 : decode cX1_codeOf 10 = .ok (.invokestatic 60, 3) := by decide +kernel
theorem dX1_codeOf_13 : decode cX1_codeOf 13 = .ok (.ireturn, 1) := by decide +kernel
theorem dX1_sidesOf_0 : decode cX1_sidesOf 0 = .ok (.iload_n 1, 1) := by decide +kernel
theorem dX1_sidesOf_1 : decode cX1_sidesOf 1 = .ok (.aload_n 0, 1) := by decide +kernel
theorem dX1_sidesOf_2 : decode cX1_sidesOf 2 = .ok (.getfield 18, 3) := by decide +kernel
theorem dX1_sidesOf_5 : decode cX1_sidesOf 5 = .ok (.iand, 1) := by decide +kernel
theorem dX1_sidesOf_6 : decode cX1_sidesOf 6 = .ok (.ireturn, 1) := by decide +kernel
theorem dX1_sizeAt_0 : decode cX1_sizeAt 0 = .ok (.aload_n 0, 1) := by decide +kernel
theorem dX1_sizeAt_1 : decode cX1_sizeAt 1 = .ok (.getfield 32, 3) := by decide +kernel
theorem dX1_sizeAt_4 : decode cX1_sizeAt 4 = .ok (.iload_n 1, 1) := by decide +kernel
theorem dX1_sizeAt_5 : decode cX1_sizeAt 5 = .ok (.aload_n 0, 1) := by decide +kernel
theorem dX1_sizeAt_6 : decode cX1_sizeAt 6 = .ok (.getfield 15, 3) := by decide +kernel
theorem dX1_sizeAt_9 : decode cX1_sizeAt 9 = .ok (.ishr, 1) := by decide +kernel
theorem dX1_sizeAt_10 : decode cX1_sizeAt 10 = .ok (.aload_n 0, 1) := by decide +kernel
theorem dX1_sizeAt_11 : decode cX1_sizeAt 11 = .ok (.getfield 9, 3) := by decide +kernel
theorem dX1_sizeAt_14 : decode cX1_sizeAt 14 = .ok (.imul, 1) := by decide +kernel
theorem dX1_sizeAt_15 : decode cX1_sizeAt 15 = .ok (.iload_n 2, 1) := by decide +kernel
theorem dX1_sizeAt_16 : decode cX1_sizeAt 16 = .ok (.iadd, 1) := by decide +kernel
theorem dX1_sizeAt_17 : decode cX1_sizeAt 17 = .ok (.invokestatic 60, 3) := by decide +kernel
theorem dX1_sizeAt_20 : decode cX1_sizeAt 20 = .ok (.ireturn, 1) := by decide +kernel
theorem dX1_isBurnt_0 : decode cX1_isBurnt 0 = .ok (.iload_n 1, 1) := by decide +kernel
theorem dX1_isBurnt_1 : decode cX1_isBurnt 1 = .ok (.aload_n 0, 1) := by decide +kernel
theorem dX1_isBurnt_2 : decode cX1_isBurnt 2 = .ok (.getfield 18, 3) := by decide +kernel
theorem dX1_isBurnt_5 : decode cX1_isBurnt 5 = .ok (.iand, 1) := by decide +kernel
theorem dX1_isBurnt_6 : decode cX1_isBurnt 6 = .ok (.iload_n 2, 1) := by decide +kernel
theorem dX1_isBurnt_7 : decode cX1_isBurnt 7 = .ok (.ishr, 1) := by decide +kernel
theorem dX1_isBurnt_8 : decode cX1_isBurnt 8 = .ok (.iconst 1, 1) := by decide +kernel
theorem dX1_isBurnt_9 : decode cX1_isBurnt 9 = .ok (.iand, 1) := by decide +kernel
theorem dX1_isBurnt_10 : decode cX1_isBurnt 10 = .ok (.ifCond .eq 7, 3) := by decide +kernel
theorem dX1_isBurnt_13 : decode cX1_isBurnt 13 = .ok (.iconst 1, 1) := by decide +kernel
theorem dX1_isBurnt_14 : decode cX1_isBurnt 14 = .ok (.goto 4, 3) := by decide +kernel
theorem dX1_isBurnt_17 : decode cX1_isBurnt 17 = .ok (.iconst 0, 1) := by decide +kernel
theorem dX1_isBurnt_18 : decode cX1_isBurnt 18 = .ok (.ireturn, 1) := by decide +kernel
theorem dX1_behind_0 : decode cX1_behind 0 = .ok (.aload_n 0, 1) := by decide +kernel
theorem dX1_behind_1 : decode cX1_behind 1 = .ok (.getfield 35, 3) := by decide +kernel
theorem dX1_behind_4 : decode cX1_behind 4 = .ok (.iload_n 1, 1) := by decide +kernel
theorem dX1_behind_5 : decode cX1_behind 5 = .ok (.aload_n 0, 1) := by decide +kernel
theorem dX1_behind_6 : decode cX1_behind 6 = .ok (.getfield 9, 3) := by decide +kernel
theorem dX1_behind_9 : decode cX1_behind 9 = .ok (.imul, 1) := by decide +kernel
theorem dX1_behind_10 : decode cX1_behind 10 = .ok (.iload_n 2, 1) := by decide +kernel
theorem dX1_behind_11 : decode cX1_behind 11 = .ok (.iadd, 1) := by decide +kernel
theorem dX1_behind_12 : decode cX1_behind 12 = .ok (.iconst 1, 1) := by decide +kernel
theorem dX1_behind_13 : decode cX1_behind 13 = .ok (.isub, 1) := by decide +kernel
theorem dX1_behind_14 : decode cX1_behind 14 = .ok (.invokestatic 60, 3) := by decide +kernel
theorem dX1_behind_17 : decode cX1_behind 17 = .ok (.ireturn, 1) := by decide +kernel
theorem dX1_isJoined_0 : decode cX1_isJoined 0 = .ok (.aload_n 0, 1) := by decide +kernel
theorem dX1_isJoined_1 : decode cX1_isJoined 1 = .ok (.getfield 38, 3) := by decide +kernel
theorem dX1_isJoined_4 : decode cX1_isJoined 4 = .ok (.iload_n 1, 1) := by decide +kernel
theorem dX1_isJoined_5 : decode cX1_isJoined 5 = .ok (.invokestatic 60, 3) := by decide +kernel
theorem dX1_isJoined_8 : decode cX1_isJoined 8 = .ok (.iload_n 2, 1) := by decide +kernel
theorem dX1_isJoined_9 : decode cX1_isJoined 9 = .ok (.ishr, 1) := by decide +kernel
theorem dX1_isJoined_10 : decode cX1_isJoined 10 = .ok (.iconst 1, 1) := by decide +kernel
theorem dX1_isJoined_11 : decode cX1_isJoined 11 = .ok (.iand, 1) := by decide +kernel
theorem dX1_isJoined_12 : decode cX1_isJoined 12 = .ok (.ifCond .eq 7, 3) := by decide +kernel
theorem dX1_isJoined_15 : decode cX1_isJoined 15 = .ok (.iconst 1, 1) := by decide +kernel
theorem dX1_isJoined_16 : decode cX1_isJoined 16 = .ok (.goto 4, 3) := by decide +kernel
theorem dX1_isJoined_19 : decode cX1_isJoined 19 = .ok (.iconst 0, 1) := by decide +kernel
theorem dX1_isJoined_20 : decode cX1_isJoined 20 = .ok (.ireturn, 1) := by decide +kernel
theorem dX1_gaps_0 : decode cX1_gaps 0 = .ok (.aload_n 0, 1) := by decide +kernel
theorem dX1_gaps_1 : decode cX1_gaps 1 = .ok (.getfield 9, 3) := by decide +kernel
theorem dX1_gaps_4 : decode cX1_gaps 4 = .ok (.aload_n 0, 1) := by decide +kernel
theorem dX1_gaps_5 : decode cX1_gaps 5 = .ok (.getfield 38, 3) := by decide +kernel
theorem dX1_gaps_8 : decode cX1_gaps 8 = .ok (.iload_n 1, 1) := by decide +kernel
theorem dX1_gaps_9 : decode cX1_gaps 9 = .ok (.invokestatic 60, 3) := by decide +kernel
theorem dX1_gaps_12 : decode cX1_gaps 12 = .ok (.invokestatic 81, 3) := by decide +kernel
theorem dX1_gaps_15 : decode cX1_gaps 15 = .ok (.isub, 1) := by decide +kernel
theorem dX1_gaps_16 : decode cX1_gaps 16 = .ok (.ireturn, 1) := by decide +kernel
theorem dX2_init_0 : decode cX2_init 0 = .ok (.aload_n 0, 1) := by decide +kernel
theorem dX2_init_1 : decode cX2_init 1 = .ok (.invokespecial 3, 3) := by decide +kernel
theorem dX2_init_4 : decode cX2_init 4 = .ok (.aload_n 0, 1) := by decide +kernel
theorem dX2_init_5 : decode cX2_init 5 = .ok (.aconst_null, 1) := by decide +kernel
theorem dX2_init_6 : decode cX2_init 6 = .ok (.putfield 9, 3) := by decide +kernel
theorem dX2_init_9 : decode cX2_init 9 = .ok (.aload_n 0, 1) := by decide +kernel
theorem dX2_init_10 : decode cX2_init 10 = .ok (.iload_n 1, 1) := by decide +kernel
theorem dX2_init_11 : decode cX2_init 11 = .ok (.putfield 15, 3) := by decide +kernel
theorem dX2_init_14 : decode cX2_init 14 = .ok (.aload_n 0, 1) := by decide +kernel
theorem dX2_init_15 : decode cX2_init 15 = .ok (.iload_n 2, 1) := by decide +kernel
theorem dX2_init_16 : decode cX2_init 16 = .ok (.putfield 19, 3) := by decide +kernel
theorem dX2_init_19 : decode cX2_init 19 = .ok (.aload_n 0, 1) := by decide +kernel
theorem dX2_init_20 : decode cX2_init 20 = .ok (.aload_n 3, 1) := by decide +kernel
theorem dX2_init_21 : decode cX2_init 21 = .ok (.putfield 22, 3) := by decide +kernel
theorem dX2_init_24 : decode cX2_init 24 = .ok (.aload_n 0, 1) := by decide +kernel
theorem dX2_init_25 : decode cX2_init 25 = .ok (.aload_n 3, 1) := by decide +kernel
theorem dX2_init_26 : decode cX2_init 26 = .ok (.getfield 26, 3) := by decide +kernel
theorem dX2_init_29 : decode cX2_init 29 = .ok (.putfield 31, 3) := by decide +kernel
theorem dX2_init_32 : decode cX2_init 32 = .ok (.aload_n 0, 1) := by decide +kernel
theorem dX2_init_33 : decode cX2_init 33 = .ok (.aload_n 3, 1) := by decide +kernel
theorem dX2_init_34 : decode cX2_init 34 = .ok (.getfield 32, 3) := by decide +kernel
theorem dX2_init_37 : decode cX2_init 37 = .ok (.invokestatic 35, 3) := by decide +kernel
theorem dX2_init_40 : decode cX2_init 40 = .ok (.putfield 39, 3) := by decide +kernel
theorem dX2_init_43 : decode cX2_init 43 = .ok (.iconst 0, 1) := by decide +kernel
theorem dX2_init_44 : decode cX2_init 44 = .ok (.istore 4, 2) := by decide +kernel
theorem dX2_init_46 : decode cX2_init 46 = .ok (.iload 4, 2) := by decide +kernel
theorem dX2_init_48 : decode cX2_init 48 = .ok (.aload_n 0, 1) := by decide +kernel
theorem dX2_init_49 : decode cX2_init 49 = .ok (.getfield 39, 3) := by decide +kernel
theorem dX2_init_52 : decode cX2_init 52 = .ok (.arraylength, 1) := by decide +kernel
theorem dX2_init_53 : decode cX2_init 53 = .ok (.if_icmp .ge 22, 3) := by decide +kernel
theorem dX2_init_56 : decode cX2_init 56 = .ok (.aload_n 0, 1) := by decide +kernel
theorem dX2_init_57 : decode cX2_init 57 = .ok (.getfield 39, 3) := by decide +kernel
theorem dX2_init_60 : decode cX2_init 60 = .ok (.iload 4, 2) := by decide +kernel
theorem dX2_init_62 : decode cX2_init 62 = .ok (.aload_n 0, 1) := by decide +kernel
theorem dX2_init_63 : decode cX2_init 63 = .ok (.iload 4, 2) := by decide +kernel
theorem dX2_init_65 : decode cX2_init 65 = .ok (.invokevirtual 43, 3) := by decide +kernel
theorem dX2_init_68 : decode cX2_init 68 = .ok (.iastore, 1) := by decide +kernel
theorem dX2_init_69 : decode cX2_init 69 = .ok (.iinc 4 1, 3) := by decide +kernel
theorem dX2_init_72 : decode cX2_init 72 = .ok (.goto (-26), 3) := by decide +kernel
theorem dX2_init_75 : decode cX2_init 75 = .ok (.return_, 1) := by decide +kernel
theorem dX2_findPossible_0 : decode cX2_findPossible 0 = .ok (.iconst 0, 1) := by decide +kernel
theorem dX2_findPossible_1 : decode cX2_findPossible 1 = .ok (.istore_n 2, 1) := by decide +kernel
theorem dX2_findPossible_2 : decode cX2_findPossible 2 = .ok (.iconst 0, 1) := by decide +kernel
theorem dX2_findPossible_3 : decode cX2_findPossible 3 = .ok (.istore_n 3, 1) := by decide +kernel
theorem dX2_findPossible_4 : decode cX2_findPossible 4 = .ok (.iconst 1, 1) := by decide +kernel
theorem dX2_findPossible_5 : decode cX2_findPossible 5 = .ok (.istore 4, 2) := by decide +kernel
theorem dX2_findPossible_7 : decode cX2_findPossible 7 = .ok (.iload 4, 2) := by decide +kernel
theorem dX2_findPossible_9 : decode cX2_findPossible 9 = .ok (.aload_n 0, 1) := by decide +kernel
theorem dX2_findPossible_10 : decode cX2_findPossible 10 = .ok (.getfield 31, 3) := by decide +kernel
theorem dX2_findPossible_13 : decode cX2_findPossible 13 = .ok (.if_icmp .gt 94, 3) := by decide +kernel
theorem dX2_findPossible_16 : decode cX2_findPossible 16 = .ok (.iload_n 3, 1) := by decide +kernel
theorem dX2_findPossible_17 : decode cX2_findPossible 17 = .ok (.aload_n 0, 1) := by decide +kernel
theorem dX2_findPossible_18 : decode cX2_findPossible 18 = .ok (.getfield 22, 3) := by decide +kernel
theorem dX2_findPossible_21 : decode cX2_findPossible 21 = .ok (.iload_n 1, 1) := by decide +kernel
theorem dX2_findPossible_22 : decode cX2_findPossible 22 = .ok (.iload 4, 2) := by decide +kernel
theorem dX2_findPossible_24 : decode cX2_findPossible 24 = .ok (.iconst 1, 1) := by decide +kernel
theorem dX2_findPossible_25 : decode cX2_findPossible 25 = .ok (.isub, 1) := by decide +kernel
theorem dX2_findPossible_26 : decode cX2_findPossible 26 = .ok (.invokevirtual 47, 3) := by decide +kernel
theorem dX2_findPossible_29 : decode cX2_findPossible 29 = .ok (.iadd, 1) := by decide +kernel
theorem dX2_findPossible_30 : decode cX2_findPossible 30 = .ok (.istore_n 3, 1) := by decide +kernel
theorem dX2_findPossible_31 : decode cX2_findPossible 31 = .ok (.aload_n 0, 1) := by decide +kernel
theorem dX2_findPossible_32 : decode cX2_findPossible 32 = .ok (.getfield 15, 3) := by decide +kernel
theorem dX2_findPossible_35 : decode cX2_findPossible 35 = .ok (.iconst 2, 1) := by decide +kernel
theorem dX2_findPossible_36 : decode cX2_findPossible 36 = .ok (.if_icmp .ne 22, 3) := by decide +kernel
theorem dX2_findPossible_39 : decode cX2_findPossible 39 = .ok (.aload_n 0, 1) := by decide +kernel
theorem dX2_findPossible_40 : decode cX2_findPossible 40 = .ok (.getfield 22, 3) := by decide +kernel
theorem dX2_findPossible_43 : decode cX2_findPossible 43 = .ok (.iload_n 1, 1) := by decide +kernel
theorem dX2_findPossible_44 : decode cX2_findPossible 44 = .ok (.iload 4, 2) := by decide +kernel
theorem dX2_findPossible_46 : decode cX2_findPossible 46 = .ok (.iconst 1, 1) := by decide +kernel
theorem dX2_findPossible_47 : decode cX2_findPossible 47 = .ok (.isub, 1) := by decide +kernel
theorem dX2_findPossible_48 : decode cX2_findPossible 48 = .ok (.invokevirtual 51, 3) := by decide +kernel
theorem dX2_findPossible_51 : decode cX2_findPossible 51 = .ok (.ifCond .eq 7, 3) := by decide +kernel
theorem dX2_findPossible_54 : decode cX2_findPossible 54 = .ok (.iconst 1, 1) := by decide +kernel
theorem dX2_findPossible_55 : decode cX2_findPossible 55 = .ok (.goto 4, 3) := by decide +kernel
theorem dX2_findPossible_58 : decode cX2_findPossible 58 = .ok (.iconst 0, 1) := by decide +kernel
theorem dX2_findPossible_59 : decode cX2_findPossible 59 = .ok (.istore 5, 2) := by decide +kernel
theorem dX2_findPossible_61 : decode cX2_findPossible 61 = .ok (.aload_n 0, 1) := by decide +kernel
theorem dX2_findPossible_62 : decode cX2_findPossible 62 = .ok (.getfield 15, 3) := by decide +kernel
theorem dX2_findPossible_65 : decode cX2_findPossible 65 = .ok (.iconst 3, 1) := by decide +kernel
theorem dX2_findPossible_66 : decode cX2_findPossible 66 = .ok (.if_icmp .ne 15, 3) := by decide +kernel
theorem dX2_findPossible_69 : decode cX2_findPossible 69 = .ok (.iload_n 3, 1) := by decide +kernel
theorem dX2_findPossible_70 : decode cX2_findPossible 70 = .ok (.aload_n 0, 1) := by decide +kernel
theorem dX2_findPossible_71 : decode cX2_findPossible 71 = .ok (.getfield 19, 3) := by decide +kernel
theorem dX2_findPossible_74 : decode cX2_findPossible 74 = .ok (.if_icmp .le 7, 3) := by decide +kernel
theorem dX2_findPossible_77 : decode cX2_findPossible 77 = .ok (.iconst 1, 1) := by decide +kernel
theorem dX2_findPossible_78 : decode cX2_findPossible 78 = .ok (.goto 4, 3) := by decide +kernel
theorem dX2_findPossible_81 : decode cX2_findPossible 81 = .ok (.iconst 0, 1) := by decide +kernel
theorem dX2_findPossible_82 : decode cX2_findPossible 82 = .ok (.istore 6, 2) := by decide +kernel
theorem dX2_findPossible_84 : decode cX2_findPossible 84 = .ok (.iload 5, 2) := by decide +kernel
theorem dX2_findPossible_86 : decode cX2_findPossible 86 = .ok (.ifCond .ne 15, 3) := by decide +kernel
theorem dX2_findPossible_89 : decode cX2_findPossible 89 = .ok (.iload 6, 2) := by decide +kernel
theorem dX2_findPossible_91 : decode cX2_findPossible 91 = .ok (.ifCond .ne 10, 3) := by decide +kernel
theorem dX2_findPossible_94 : decode cX2_findPossible 94 = .ok (.iload_n 2, 1) := by decide +kernel
theorem dX2_findPossible_95 : decode cX2_findPossible 95 = .ok (.iconst 1, 1) := by decide +kernel
theorem dX2_findPossible_96 : decode cX2_findPossible 96 = .ok (.iload 4, 2) := by decide +kernel
theorem dX2_findPossible_98 : decode cX2_findPossible 98 = .ok (.ishl, 1) := by decide +kernel
theorem dX2_findPossible_99 : decode cX2_findPossible 99 = .ok (.ior, 1) := by decide +kernel
theorem dX2_findPossible_100 : decode cX2_findPossible 100 = .ok (.istore_n 2, 1) := by decide +kernel
theorem dX2_findPossible_101 : decode cX2_findPossible 101 = .ok (.iinc 4 1, 3) := by decide +kernel
theorem dX2_findPossible_104 : decode cX2_findPossible 104 = .ok (.goto (-97), 3) := by decide +kernel
theorem dX2_findPossible_107 : decode cX2_findPossible 107 = .ok (.iload_n 2, 1) := by decide +kernel
theorem dX2_findPossible_108 : decode cX2_findPossible 108 = .ok (.ireturn, 1) := by decide +kernel
theorem dX2_solver_0 : decode cX2_solver 0 = .ok (.aload_n 0, 1) := by decide +kernel
theorem dX2_solver_1 : decode cX2_solver 1 = .ok (.getfield 9, 3) := by decide +kernel
theorem dX2_solver_4 : decode cX2_solver 4 = .ok (.ifnonnull 15, 3) := by decide +kernel
theorem dX2_solver_7 : decode cX2_solver 7 = .ok (.aload_n 0, 1) := by decide +kernel
theorem dX2_solver_8 : decode cX2_solver 8 = .ok (.new 55, 3) := by decide +kernel
theorem dX2_solver_11 : decode cX2_solver 11 = .ok (.dup, 1) := by decide +kernel
theorem dX2_solver_12 : decode cX2_solver 12 = .ok (.aload_n 0, 1) := by decide +kernel
theorem dX2_solver_13 : decode cX2_solver 13 = .ok (.invokespecial 57, 3) := by decide +kernel
theorem dX2_solver_16 : decode cX2_solver 16 = .ok (.putfield 9, 3) := by decide +kernel
theorem dX2_solver_19 : decode cX2_solver 19 = .ok (.aload_n 0, 1) := by decide +kernel
theorem dX2_solver_20 : decode cX2_solver 20 = .ok (.getfield 9, 3) := by decide +kernel
theorem dX2_solver_23 : decode cX2_solver 23 = .ok (.areturn, 1) := by decide +kernel
theorem dX2_possibleTurns_0 : decode cX2_possibleTurns 0 = .ok (.aload_n 0, 1) := by decide +kernel
theorem dX2_possibleTurns_1 : decode cX2_possibleTurns 1 = .ok (.getfield 39, 3) := by decide +kernel
theorem dX2_possibleTurns_4 : decode cX2_possibleTurns 4 = .ok (.iload_n 1, 1) := by decide +kernel
theorem dX2_possibleTurns_5 : decode cX2_possibleTurns 5 = .ok (.invokestatic 60, 3) := by decide +kernel
theorem dX2_possibleTurns_8 : decode cX2_possibleTurns 8 = .ok (.ireturn, 1) := by decide +kernel
theorem dX2_allows_0 : decode cX2_allows 0 = .ok (.iload_n 2, 1) := by decide +kernel
theorem dX2_allows_1 : decode cX2_allows 1 = .ok (.iconst 1, 1) := by decide +kernel
theorem dX2_allows_2 : decode cX2_allows 2 = .ok (.if_icmp .lt 30, 3) := by decide +kernel
theorem dX2_allows_5 : decode cX2_allows 5 = .ok (.iload_n 2, 1) := by decide +kernel
theorem dX2_allows_6 : decode cX2_allows 6 = .ok (.aload_n 0, 1) := by decide +kernel
theorem dX2_allows_7 : decode cX2_allows 7 = .ok (.getfield 31, 3) := by decide +kernel
theorem dX2_allows_10 : decode cX2_allows 10 = .ok (.if_icmp .gt 22, 3) := by decide +kernel
theorem dX2_allows_13 : decode cX2_allows 13 = .ok (.aload_n 0, 1) := by decide +kernel
theorem dX2_allows_14 : decode cX2_allows 14 = .ok (.getfield 39, 3) := by decide +kernel
theorem dX2_allows_17 : decode cX2_allows 17 = .ok (.iload_n 1, 1) := by decide +kernel
theorem dX2_allows_18 : decode cX2_allows 18 = .ok (.invokestatic 60, 3) := by decide +kernel
theorem dX2_allows_21 : decode cX2_allows 21 = .ok (.iload_n 2, 1) := by decide +kernel
theorem dX2_allows_22 : decode cX2_allows 22 = .ok (.ishr, 1) := by decide +kernel
theorem dX2_allows_23 : decode cX2_allows 23 = .ok (.iconst 1, 1) := by decide +kernel
theorem dX2_allows_24 : decode cX2_allows 24 = .ok (.iand, 1) := by decide +kernel
theorem dX2_allows_25 : decode cX2_allows 25 = .ok (.ifCond .eq 7, 3) := by decide +kernel
theorem dX2_allows_28 : decode cX2_allows 28 = .ok (.iconst 1, 1) := by decide +kernel
theorem dX2_allows_29 : decode cX2_allows 29 = .ok (.goto 4, 3) := by decide +kernel
theorem dX2_allows_32 : decode cX2_allows 32 = .ok (.iconst 0, 1) := by decide +kernel
theorem dX2_allows_33 : decode cX2_allows 33 = .ok (.ireturn, 1) := by decide +kernel
theorem dX3_init_0 : decode cX3_init 0 = .ok (.aload_n 0, 1) := by decide +kernel
theorem dX3_init_1 : decode cX3_init 1 = .ok (.invokespecial 3, 3) := by decide +kernel
theorem dX3_init_4 : decode cX3_init 4 = .ok (.aload_n 0, 1) := by decide +kernel
theorem dX3_init_5 : decode cX3_init 5 = .ok (.bipush 7, 2) := by decide +kernel
theorem dX3_init_7 : decode cX3_init 7 = .ok (.anewarray 9, 3) := by decide +kernel
theorem dX3_init_10 : decode cX3_init 10 = .ok (.putfield 11, 3) := by decide +kernel
theorem dX3_init_13 : decode cX3_init 13 = .ok (.aload_n 0, 1) := by decide +kernel
theorem dX3_init_14 : decode cX3_init 14 = .ok (.bipush 6, 2) := by decide +kernel
theorem dX3_init_16 : decode cX3_init 16 = .ok (.anewarray 9, 3) := by decide +kernel
theorem dX3_init_19 : decode cX3_init 19 = .ok (.putfield 17, 3) := by decide +kernel
theorem dX3_init_22 : decode cX3_init 22 = .ok (.aload_n 0, 1) := by decide +kernel
theorem dX3_init_23 : decode cX3_init 23 = .ok (.sipush 616, 3) := by decide +kernel
theorem dX3_init_26 : decode cX3_init 26 = .ok (.anewarray 20, 3) := by decide +kernel
theorem dX3_init_29 : decode cX3_init 29 = .ok (.putfield 22, 3) := by decide +kernel
theorem dX3_init_32 : decode cX3_init 32 = .ok (.return_, 1) := by decide +kernel
theorem dX3_shape_0 : decode cX3_shape 0 = .ok (.iload_n 1, 1) := by decide +kernel
theorem dX3_shape_1 : decode cX3_shape 1 = .ok (.ifCond .lt 21, 3) := by decide +kernel
theorem dX3_shape_4 : decode cX3_shape 4 = .ok (.iload_n 1, 1) := by decide +kernel
theorem dX3_shape_5 : decode cX3_shape 5 = .ok (.iconst 3, 1) := by decide +kernel
theorem dX3_shape_6 : decode cX3_shape 6 = .ok (.if_icmp .gt 16, 3) := by decide +kernel
theorem dX3_shape_9 : decode cX3_shape 9 = .ok (.iload_n 2, 1) := by decide +kernel
theorem dX3_shape_10 : decode cX3_shape 10 = .ok (.iconst 1, 1) := by decide +kernel
theorem dX3_shape_11 : decode cX3_shape 11 = .ok (.if_icmp .lt 11, 3) := by decide +kernel
theorem dX3_shape_14 : decode cX3_shape 14 = .ok (.iload_n 2, 1) := by decide +kernel
theorem dX3_shape_15 : decode cX3_shape 15 = .ok (.iload_n 1, 1) := by decide +kernel
theorem dX3_shape_16 : decode cX3_shape 16 = .ok (.invokestatic 26, 3) := by decide +kernel
theorem dX3_shape_19 : decode cX3_shape 19 = .ok (.if_icmp .le 5, 3) := by decide +kernel
theorem dX3_shape_22 : decode cX3_shape 22 = .ok (.aconst_null, 1) := by decide +kernel
theorem dX3_shape_23 : decode cX3_shape 23 = .ok (.areturn, 1) := by decide +kernel
theorem dX3_shape_24 : decode cX3_shape 24 = .ok (.iload_n 3, 1) := by decide +kernel
theorem dX3_shape_25 : decode cX3_shape 25 = .ok (.iload_n 1, 1) := by decide +kernel
theorem dX3_shape_26 : decode cX3_shape 26 = .ok (.iconst 3, 1) := by decide +kernel
theorem dX3_shape_27 : decode cX3_shape 27 = .ok (.if_icmp .ne 7, 3) := by decide +kernel
theorem dX3_shape_30 : decode cX3_shape 30 = .ok (.iconst 1, 1) := by decide +kernel
theorem dX3_shape_31 : decode cX3_shape 31 = .ok (.goto 4, 3) := by decide +kernel
theorem dX3_shape_34 : decode cX3_shape 34 = .ok (.iconst 0, 1) := by decide +kernel
theorem dX3_shape_35 : decode cX3_shape 35 = .ok (.if_icmp .lt 18, 3) := by decide +kernel
theorem dX3_shape_38 : decode cX3_shape 38 = .ok (.iload_n 3, 1) := by decide +kernel
theorem dX3_shape_39 : decode cX3_shape 39 = .ok (.iload_n 1, 1) := by decide +kernel
theorem dX3_shape_40 : decode cX3_shape 40 = .ok (.iconst 3, 1) := by decide +kernel
theorem dX3_shape_41 : decode cX3_shape 41 = .ok (.if_icmp .ne 8, 3) := by decide +kernel
theorem dX3_shape_44 : decode cX3_shape 44 = .ok (.bipush 21, 2) := by decide +kernel
theorem dX3_shape_46 : decode cX3_shape 46 = .ok (.goto 4, 3) := by decide +kernel
theorem dX3_shape_49 : decode cX3_shape 49 = .ok (.iconst 0, 1) := by decide +kernel
theorem dX3_shape_50 : decode cX3_shape 50 = .ok (.if_icmp .le 5, 3) := by decide +kernel
theorem dX3_shape_53 : decode cX3_shape 53 = .ok (.aconst_null, 1) := by decide +kernel
theorem dX3_shape_54 : decode cX3_shape 54 = .ok (.areturn, 1) := by decide +kernel
theorem dX3_shape_55 : decode cX3_shape 55 = .ok (.aload_n 0, 1) := by decide +kernel
theorem dX3_shape_56 : decode cX3_shape 56 = .ok (.iload_n 2, 1) := by decide +kernel
theorem dX3_shape_57 : decode cX3_shape 57 = .ok (.iload_n 1, 1) := by decide +kernel
theorem dX3_shape_58 : decode cX3_shape 58 = .ok (.invokestatic 30, 3) := by decide +kernel
theorem dX3_shape_61 : decode cX3_shape 61 = .ok (.invokevirtual 34, 3) := by decide +kernel
theorem dX3_shape_64 : decode cX3_shape 64 = .ok (.astore 4, 2) := by decide +kernel
theorem dX3_shape_66 : decode cX3_shape 66 = .ok (.iload_n 1, 1) := by decide +kernel
theorem dX3_shape_67 : decode cX3_shape 67 = .ok (.bipush 7, 2) := by decide +kernel
theorem dX3_shape_69 : decode cX3_shape 69 = .ok (.imul, 1) := by decide +kernel
theorem dX3_shape_70 : decode cX3_shape 70 = .ok (.iload_n 2, 1) := by decide +kernel
theorem dX3_shape_71 : decode cX3_shape 71 = .ok (.iadd, 1) := by decide +kernel
theorem dX3_shape_72 : decode cX3_shape 72 = .ok (.bipush 22, 2) := by decide +kernel
theorem dX3_shape_74 : decode cX3_shape 74 = .ok (.imul, 1) := by decide +kernel
theorem dX3_shape_75 : decode cX3_shape 75 = .ok (.iload_n 3, 1) := by decide +kernel
theorem dX3_shape_76 : decode cX3_shape 76 = .ok (.iadd, 1) := by decide +kernel
theorem dX3_shape_77 : decode cX3_shape 77 = .ok (.istore 5, 2) := by decide +kernel
theorem dX3_shape_79 : decode cX3_shape 79 = .ok (.aload 4, 2) := by decide +kernel
theorem dX3_shape_81 : decode cX3_shape 81 = .ok (.ifnull 18, 3) := by decide +kernel
theorem dX3_shape_84 : decode cX3_shape 84 = .ok (.iload 5, 2) := by decide +kernel
theorem dX3_shape_86 : decode cX3_shape 86 = .ok (.ifCond .lt 13, 3) := by decide +kernel
theorem dX3_shape_89 : decode cX3_shape 89 = .ok (.iload 5, 2) := by decide +kernel
theorem dX3_shape_91 : decode cX3_shape 91 = .ok (.aload_n 0, 1) := by decide +kernel
theorem dX3_shape_92 : decode cX3_shape 92 = .ok (.getfield 22, 3) := by decide +kernel
theorem dX3_shape_95 : decode cX3_shape 95 = .ok (.arraylength, 1) := by decide +kernel
theorem dX3_shape_96 : decode cX3_shape 96 = .ok (.if_icmp .lt 5, 3) := by decide +kernel
theorem dX3_shape_99 : decode cX3_shape 99 = .ok (.aconst_null, 1) := by decide +kernel
theorem dX3_shape_100 : decode cX3_shape 100 = .ok (.areturn, 1) := by decide +kernel
theorem dX3_shape_101 : decode cX3_shape 101 = .ok (.aload_n 0, 1) := by decide +kernel
theorem dX3_shape_102 : decode cX3_shape 102 = .ok (.getfield 22, 3) := by decide +kernel
theorem dX3_shape_105 : decode cX3_shape 105 = .ok (.iload 5, 2) := by decide +kernel
theorem dX3_shape_107 : decode cX3_shape 107 = .ok (.aaload, 1) := by decide +kernel
theorem dX3_shape_108 : decode cX3_shape 108 = .ok (.ifnonnull 21, 3) := by decide +kernel
theorem dX3_shape_111 : decode cX3_shape 111 = .ok (.aload_n 0, 1) := by decide +kernel
theorem dX3_shape_112 : decode cX3_shape 112 = .ok (.getfield 22, 3) := by decide +kernel
theorem dX3_shape_115 : decode cX3_shape 115 = .ok (.iload 5, 2) := by decide +kernel
theorem dX3_shape_117 : decode cX3_shape 117 = .ok (.new 20, 3) := by decide +kernel
theorem dX3_shape_120 : decode cX3_shape 120 = .ok (.dup, 1) := by decide +kernel
theorem dX3_shape_121 : decode cX3_shape 121 = .ok (.iload_n 1, 1) := by decide +kernel
theorem dX3_shape_122 : decode cX3_shape 122 = .ok (.iload_n 3, 1) := by decide +kernel
theorem dX3_shape_123 : decode cX3_shape 123 = .ok (.aload 4, 2) := by decide +kernel
theorem dX3_shape_125 : decode cX3_shape 125 = .ok (.invokespecial 38, 3) := by decide +kernel
theorem dX3_shape_128 : decode cX3_shape 128 = .ok (.aastore, 1) := by decide +kernel
theorem dX3_shape_129 : decode cX3_shape 129 = .ok (.aload_n 0, 1) := by decide +kernel
theorem dX3_shape_130 : decode cX3_shape 130 = .ok (.getfield 22, 3) := by decide +kernel
theorem dX3_shape_133 : decode cX3_shape 133 = .ok (.iload 5, 2) := by decide +kernel
theorem dX3_shape_135 : decode cX3_shape 135 = .ok (.aaload, 1) := by decide +kernel
theorem dX3_shape_136 : decode cX3_shape 136 = .ok (.areturn, 1) := by decide +kernel
theorem dX3_layouts_0 : decode cX3_layouts 0 = .ok (.iload_n 2, 1) := by decide +kernel
theorem dX3_layouts_1 : decode cX3_layouts 1 = .ok (.ifCond .eq 10, 3) := by decide +kernel
theorem dX3_layouts_4 : decode cX3_layouts 4 = .ok (.aload_n 0, 1) := by decide +kernel
theorem dX3_layouts_5 : decode cX3_layouts 5 = .ok (.getfield 17, 3) := by decide +kernel
theorem dX3_layouts_8 : decode cX3_layouts 8 = .ok (.goto 7, 3) := by decide +kernel
theorem dX3_layouts_11 : decode cX3_layouts 11 = .ok (.aload_n 0, 1) := by decide +kernel
theorem dX3_layouts_12 : decode cX3_layouts 12 = .ok (.getfield 11, 3) := by decide +kernel
theorem dX3_layouts_15 : decode cX3_layouts 15 = .ok (.astore_n 3, 1) := by decide +kernel
theorem dX3_layouts_16 : decode cX3_layouts 16 = .ok (.iload_n 1, 1) := by decide +kernel
theorem dX3_layouts_17 : decode cX3_layouts 17 = .ok (.ifCond .lt 9, 3) := by decide +kernel
theorem dX3_layouts_20 : decode cX3_layouts 20 = .ok (.iload_n 1, 1) := by decide +kernel
theorem dX3_layouts_21 : decode cX3_layouts 21 = .ok (.aload_n 3, 1) := by decide +kernel
theorem dX3_layouts_22 : decode cX3_layouts 22 = .ok (.arraylength, 1) := by decide +kernel
theorem dX3_layouts_23 : decode cX3_layouts 23 = .ok (.if_icmp .lt 5, 3) := by decide +kernel
theorem dX3_layouts_26 : decode cX3_layouts 26 = .ok (.aconst_null, 1) := by decide +kernel
theorem dX3_layouts_27 : decode cX3_layouts 27 = .ok (.areturn, 1) := by decide +kernel
theorem dX3_layouts_28 : decode cX3_layouts 28 = .ok (.aload_n 3, 1) := by decide +kernel
theorem dX3_layouts_29 : decode cX3_layouts 29 = .ok (.iload_n 1, 1) := by decide +kernel
theorem dX3_layouts_30 : decode cX3_layouts 30 = .ok (.aaload, 1) := by decide +kernel
theorem dX3_layouts_31 : decode cX3_layouts 31 = .ok (.ifnonnull 15, 3) := by decide +kernel
theorem dX3_layouts_34 : decode cX3_layouts 34 = .ok (.aload_n 3, 1) := by decide +kernel
theorem dX3_layouts_35 : decode cX3_layouts 35 = .ok (.iload_n 1, 1) := by decide +kernel
theorem dX3_layouts_36 : decode cX3_layouts 36 = .ok (.new 9, 3) := by decide +kernel
theorem dX3_layouts_39 : decode cX3_layouts 39 = .ok (.dup, 1) := by decide +kernel
theorem dX3_layouts_40 : decode cX3_layouts 40 = .ok (.iload_n 1, 1) := by decide +kernel
theorem dX3_layouts_41 : decode cX3_layouts 41 = .ok (.iload_n 2, 1) := by decide +kernel
theorem dX3_layouts_42 : decode cX3_layouts 42 = .ok (.invokespecial 41, 3) := by decide +kernel
theorem dX3_layouts_45 : decode cX3_layouts 45 = .ok (.aastore, 1) := by decide +kernel
theorem dX3_layouts_46 : decode cX3_layouts 46 = .ok (.aload_n 3, 1) := by decide +kernel
theorem dX3_layouts_47 : decode cX3_layouts 47 = .ok (.iload_n 1, 1) := by decide +kernel
theorem dX3_layouts_48 : decode cX3_layouts 48 = .ok (.aaload, 1) := by decide +kernel
theorem dX3_layouts_49 : decode cX3_layouts 49 = .ok (.areturn, 1) := by decide +kernel
theorem dX3_isSided_0 : decode cX3_isSided 0 = .ok (.iload_n 0, 1) := by decide +kernel
theorem dX3_isSided_1 : decode cX3_isSided 1 = .ok (.iconst 1, 1) := by decide +kernel
theorem dX3_isSided_2 : decode cX3_isSided 2 = .ok (.if_icmp .eq 8, 3) := by decide +kernel
theorem dX3_isSided_5 : decode cX3_isSided 5 = .ok (.iload_n 0, 1) := by decide +kernel
theorem dX3_isSided_6 : decode cX3_isSided 6 = .ok (.iconst 3, 1) := by decide +kernel
theorem dX3_isSided_7 : decode cX3_isSided 7 = .ok (.if_icmp .ne 7, 3) := by decide +kernel
theorem dX3_isSided_10 : decode cX3_isSided 10 = .ok (.iconst 1, 1) := by decide +kernel
theorem dX3_isSided_11 : decode cX3_isSided 11 = .ok (.goto 4, 3) := by decide +kernel
theorem dX3_isSided_14 : decode cX3_isSided 14 = .ok (.iconst 0, 1) := by decide +kernel
theorem dX3_isSided_15 : decode cX3_isSided 15 = .ok (.ireturn, 1) := by decide +kernel
theorem dX3_mostCakes_0 : decode cX3_mostCakes 0 = .ok (.iload_n 0, 1) := by decide +kernel
theorem dX3_mostCakes_1 : decode cX3_mostCakes 1 = .ok (.invokestatic 30, 3) := by decide +kernel
theorem dX3_mostCakes_4 : decode cX3_mostCakes 4 = .ok (.ifCond .eq 7, 3) := by decide +kernel
theorem dX3_mostCakes_7 : decode cX3_mostCakes 7 = .ok (.iconst 5, 1) := by decide +kernel
theorem dX3_mostCakes_8 : decode cX3_mostCakes 8 = .ok (.goto 5, 3) := by decide +kernel
theorem dX3_mostCakes_11 : decode cX3_mostCakes 11 = .ok (.bipush 6, 2) := by decide +kernel
theorem dX3_mostCakes_13 : decode cX3_mostCakes 13 = .ok (.ireturn, 1) := by decide +kernel
theorem dX4_init_0 : decode cX4_init 0 = .ok (.aload_n 0, 1) := by decide +kernel
theorem dX4_init_1 : decode cX4_init 1 = .ok (.invokespecial 3, 3) := by decide +kernel
theorem dX4_init_4 : decode cX4_init 4 = .ok (.aload_n 0, 1) := by decide +kernel
theorem dX4_init_5 : decode cX4_init 5 = .ok (.iconst 0, 1) := by decide +kernel
theorem dX4_init_6 : decode cX4_init 6 = .ok (.putfield 9, 3) := by decide +kernel
theorem dX4_init_9 : decode cX4_init 9 = .ok (.aload_n 0, 1) := by decide +kernel
theorem dX4_init_10 : decode cX4_init 10 = .ok (.iconst 0, 1) := by decide +kernel
theorem dX4_init_11 : decode cX4_init 11 = .ok (.putfield 15, 3) := by decide +kernel
theorem dX4_init_14 : decode cX4_init 14 = .ok (.aload_n 0, 1) := by decide +kernel
theorem dX4_init_15 : decode cX4_init 15 = .ok (.aload_n 1, 1) := by decide +kernel
theorem dX4_init_16 : decode cX4_init 16 = .ok (.putfield 18, 3) := by decide +kernel
theorem dX4_init_19 : decode cX4_init 19 = .ok (.aload_n 0, 1) := by decide +kernel
theorem dX4_init_20 : decode cX4_init 20 = .ok (.aload_n 1, 1) := by decide +kernel
theorem dX4_init_21 : decode cX4_init 21 = .ok (.getfield 22, 3) := by decide +kernel
theorem dX4_init_24 : decode cX4_init 24 = .ok (.putfield 28, 3) := by decide +kernel
theorem dX4_init_27 : decode cX4_init 27 = .ok (.aload_n 0, 1) := by decide +kernel
theorem dX4_init_28 : decode cX4_init 28 = .ok (.aload_n 0, 1) := by decide +kernel
theorem dX4_init_29 : decode cX4_init 29 = .ok (.getfield 28, 3) := by decide +kernel
theorem dX4_init_32 : decode cX4_init 32 = .ok (.getfield 29, 3) := by decide +kernel
theorem dX4_init_35 : decode cX4_init 35 = .ok (.invokestatic 35, 3) := by decide +kernel
theorem dX4_init_38 : decode cX4_init 38 = .ok (.putfield 39, 3) := by decide +kernel
theorem dX4_init_41 : decode cX4_init 41 = .ok (.aload_n 0, 1) := by decide +kernel
theorem dX4_init_42 : decode cX4_init 42 = .ok (.aload_n 0, 1) := by decide +kernel
theorem dX4_init_43 : decode cX4_init 43 = .ok (.getfield 28, 3) := by decide +kernel
theorem dX4_init_46 : decode cX4_init 46 = .ok (.getfield 29, 3) := by decide +kernel
theorem dX4_init_49 : decode cX4_init 49 = .ok (.invokestatic 35, 3) := by decide +kernel
theorem dX4_init_52 : decode cX4_init 52 = .ok (.putfield 43, 3) := by decide +kernel
theorem dX4_init_55 : decode cX4_init 55 = .ok (.return_, 1) := by decide +kernel
theorem dX4_turnsFrom_0 : decode cX4_turnsFrom 0 = .ok (.aload_n 0, 1) := by decide +kernel
theorem dX4_turnsFrom_1 : decode cX4_turnsFrom 1 = .ok (.getfield 9, 3) := by decide +kernel
theorem dX4_turnsFrom_4 : decode cX4_turnsFrom 4 = .ok (.ifCond .ne 17, 3) := by decide +kernel
theorem dX4_turnsFrom_7 : decode cX4_turnsFrom 7 = .ok (.aload_n 0, 1) := by decide +kernel
theorem dX4_turnsFrom_8 : decode cX4_turnsFrom 8 = .ok (.aload_n 0, 1) := by decide +kernel
theorem dX4_turnsFrom_9 : decode cX4_turnsFrom 9 = .ok (.getfield 39, 3) := by decide +kernel
theorem dX4_turnsFrom_12 : decode cX4_turnsFrom 12 = .ok (.iconst 0, 1) := by decide +kernel
theorem dX4_turnsFrom_13 : decode cX4_turnsFrom 13 = .ok (.invokevirtual 46, 3) := by decide +kernel
theorem dX4_turnsFrom_16 : decode cX4_turnsFrom 16 = .ok (.aload_n 0, 1) := by decide +kernel
theorem dX4_turnsFrom_17 : decode cX4_turnsFrom 17 = .ok (.iconst 1, 1) := by decide +kernel
theorem dX4_turnsFrom_18 : decode cX4_turnsFrom 18 = .ok (.putfield 9, 3) := by decide +kernel
theorem dX4_turnsFrom_21 : decode cX4_turnsFrom 21 = .ok (.aload_n 0, 1) := by decide +kernel
theorem dX4_turnsFrom_22 : decode cX4_turnsFrom 22 = .ok (.getfield 39, 3) := by decide +kernel
theorem dX4_turnsFrom_25 : decode cX4_turnsFrom 25 = .ok (.iload_n 1, 1) := by decide +kernel
theorem dX4_turnsFrom_26 : decode cX4_turnsFrom 26 = .ok (.invokestatic 50, 3) := by decide +kernel
theorem dX4_turnsFrom_29 : decode cX4_turnsFrom 29 = .ok (.ireturn, 1) := by decide +kernel
theorem dX4_workFrom_0 : decode cX4_workFrom 0 = .ok (.aload_n 0, 1) := by decide +kernel
theorem dX4_workFrom_1 : decode cX4_workFrom 1 = .ok (.getfield 15, 3) := by decide +kernel
theorem dX4_workFrom_4 : decode cX4_workFrom 4 = .ok (.ifCond .ne 17, 3) := by decide +kernel
theorem dX4_workFrom_7 : decode cX4_workFrom 7 = .ok (.aload_n 0, 1) := by decide +kernel
theorem dX4_workFrom_8 : decode cX4_workFrom 8 = .ok (.aload_n 0, 1) := by decide +kernel
theorem dX4_workFrom_9 : decode cX4_workFrom 9 = .ok (.getfield 43, 3) := by decide +kernel
theorem dX4_workFrom_12 : decode cX4_workFrom 12 = .ok (.iconst 1, 1) := by decide +kernel
theorem dX4_workFrom_13 : decode cX4_workFrom 13 = .ok (.invokevirtual 46, 3) := by decide +kernel
theorem dX4_workFrom_16 : decode cX4_workFrom 16 = .ok (.aload_n 0, 1) := by decide +kernel
theorem dX4_workFrom_17 : decode cX4_workFrom 17 = .ok (.iconst 1, 1) := by decide +kernel
theorem dX4_workFrom_18 : decode cX4_workFrom 18 = .ok (.putfield 15, 3) := by decide +kernel
theorem dX4_workFrom_21 : decode cX4_workFrom 21 = .ok (.aload_n 0, 1) := by decide +kernel
theorem dX4_workFrom_22 : decode cX4_workFrom 22 = .ok (.getfield 43, 3) := by decide +kernel
theorem dX4_workFrom_25 : decode cX4_workFrom 25 = .ok (.iload_n 1, 1) := by decide +kernel
theorem dX4_workFrom_26 : decode cX4_workFrom 26 = .ok (.invokestatic 50, 3) := by decide +kernel
theorem dX4_workFrom_29 : decode cX4_workFrom 29 = .ok (.ireturn, 1) := by decide +kernel
theorem dX4_stacksWithTurns_0 : decode cX4_stacksWithTurns 0 = .ok (.iconst 0, 1) := by decide +kernel
theorem dX4_stacksWithTurns_1 : decode cX4_stacksWithTurns 1 = .ok (.istore_n 2, 1) := by decide +kernel
theorem dX4_stacksWithTurns_2 : decode cX4_stacksWithTurns 2 = .ok (.iconst 0, 1) := by decide +kernel
theorem dX4_stacksWithTurns_3 : decode cX4_stacksWithTurns 3 = .ok (.istore_n 3, 1) := by decide +kernel
theorem dX4_stacksWithTurns_4 : decode cX4_stacksWithTurns 4 = .ok (.iload_n 3, 1) := by decide +kernel
theorem dX4_stacksWithTurns_5 : decode cX4_stacksWithTurns 5 = .ok (.aload_n 0, 1) := by decide +kernel
theorem dX4_stacksWithTurns_6 : decode cX4_stacksWithTurns 6 = .ok (.getfield 28, 3) := by decide +kernel
theorem dX4_stacksWithTurns_9 : decode cX4_stacksWithTurns 9 = .ok (.getfield 29, 3) := by decide +kernel
theorem dX4_stacksWithTurns_12 : decode cX4_stacksWithTurns 12 = .ok (.if_icmp .ge 21, 3) := by decide +kernel
theorem dX4_stacksWithTurns_15 : decode cX4_stacksWithTurns 15 = .ok (.aload_n 0, 1) := by decide +kernel
theorem dX4_stacksWithTurns_16 : decode cX4_stacksWithTurns 16 = .ok (.iload_n 3, 1) := by decide +kernel
theorem dX4_stacksWithTurns_17 : decode cX4_stacksWithTurns 17 = .ok (.invokevirtual 54, 3) := by decide +kernel
theorem dX4_stacksWithTurns_20 : decode cX4_stacksWithTurns 20 = .ok (.iload_n 1, 1) := by decide +kernel
theorem dX4_stacksWithTurns_21 : decode cX4_stacksWithTurns 21 = .ok (.if_icmp .ne 6, 3) := by decide +kernel
theorem dX4_stacksWithTurns_24 : decode cX4_stacksWithTurns 24 = .ok (.iinc 2 1, 3) := by decide +kernel
theorem dX4_stacksWithTurns_27 : decode cX4_stacksWithTurns 27 = .ok (.iinc 3 1, 3) := by decide +kernel
theorem dX4_stacksWithTurns_30 : decode cX4_stacksWithTurns 30 = .ok (.goto (-26), 3) := by decide +kernel
theorem dX4_stacksWithTurns_33 : decode cX4_stacksWithTurns 33 = .ok (.iload_n 2, 1) := by decide +kernel
theorem dX4_stacksWithTurns_34 : decode cX4_stacksWithTurns 34 = .ok (.ireturn, 1) := by decide +kernel
theorem dX4_firstRow_0 : decode cX4_firstRow 0 = .ok (.iconst 0, 1) := by decide +kernel
theorem dX4_firstRow_1 : decode cX4_firstRow 1 = .ok (.istore_n 2, 1) := by decide +kernel
theorem dX4_firstRow_2 : decode cX4_firstRow 2 = .ok (.iload_n 1, 1) := by decide +kernel
theorem dX4_firstRow_3 : decode cX4_firstRow 3 = .ok (.istore_n 3, 1) := by decide +kernel
theorem dX4_firstRow_4 : decode cX4_firstRow 4 = .ok (.aload_n 0, 1) := by decide +kernel
theorem dX4_firstRow_5 : decode cX4_firstRow 5 = .ok (.iload_n 1, 1) := by decide +kernel
theorem dX4_firstRow_6 : decode cX4_firstRow 6 = .ok (.invokevirtual 54, 3) := by decide +kernel
theorem dX4_firstRow_9 : decode cX4_firstRow 9 = .ok (.istore 4, 2) := by decide +kernel
theorem dX4_firstRow_11 : decode cX4_firstRow 11 = .ok (.iload 4, 2) := by decide +kernel
theorem dX4_firstRow_13 : decode cX4_firstRow 13 = .ok (.ifCond .le 39, 3) := by decide +kernel
theorem dX4_firstRow_16 : decode cX4_firstRow 16 = .ok (.aload_n 0, 1) := by decide +kernel
theorem dX4_firstRow_17 : decode cX4_firstRow 17 = .ok (.iload_n 3, 1) := by decide +kernel
theorem dX4_firstRow_18 : decode cX4_firstRow 18 = .ok (.iload 4, 2) := by decide +kernel
theorem dX4_firstRow_20 : decode cX4_firstRow 20 = .ok (.iconst 1, 1) := by decide +kernel
theorem dX4_firstRow_21 : decode cX4_firstRow 21 = .ok (.isub, 1) := by decide +kernel
theorem dX4_firstRow_22 : decode cX4_firstRow 22 = .ok (.invokevirtual 58, 3) := by decide +kernel
theorem dX4_firstRow_25 : decode cX4_firstRow 25 = .ok (.istore 5, 2) := by decide +kernel
theorem dX4_firstRow_27 : decode cX4_firstRow 27 = .ok (.iload_n 2, 1) := by decide +kernel
theorem dX4_firstRow_28 : decode cX4_firstRow 28 = .ok (.bipush 10, 2) := by decide +kernel
theorem dX4_firstRow_30 : decode cX4_firstRow 30 = .ok (.imul, 1) := by decide +kernel
theorem dX4_firstRow_31 : decode cX4_firstRow 31 = .ok (.iload 5, 2) := by decide +kernel
theorem dX4_firstRow_33 : decode cX4_firstRow 33 = .ok (.iadd, 1) := by decide +kernel
theorem dX4_firstRow_34 : decode cX4_firstRow 34 = .ok (.istore_n 2, 1) := by decide +kernel
theorem dX4_firstRow_35 : decode cX4_firstRow 35 = .ok (.aload_n 0, 1) := by decide +kernel
theorem dX4_firstRow_36 : decode cX4_firstRow 36 = .ok (.getfield 28, 3) := by decide +kernel
theorem dX4_firstRow_39 : decode cX4_firstRow 39 = .ok (.iload_n 3, 1) := by decide +kernel
theorem dX4_firstRow_40 : decode cX4_firstRow 40 = .ok (.iload 5, 2) := by decide +kernel
theorem dX4_firstRow_42 : decode cX4_firstRow 42 = .ok (.invokevirtual 62, 3) := by decide +kernel
theorem dX4_firstRow_45 : decode cX4_firstRow 45 = .ok (.istore_n 3, 1) := by decide +kernel
theorem dX4_firstRow_46 : decode cX4_firstRow 46 = .ok (.iinc 4 (-1), 3) := by decide +kernel
theorem dX4_firstRow_49 : decode cX4_firstRow 49 = .ok (.goto (-38), 3) := by decide +kernel
theorem dX4_firstRow_52 : decode cX4_firstRow 52 = .ok (.iload_n 2, 1) := by decide +kernel
theorem dX4_firstRow_53 : decode cX4_firstRow 53 = .ok (.ireturn, 1) := by decide +kernel
theorem dX4_firstTurnToward_0 : decode cX4_firstTurnToward 0 = .ok (.iconst 1, 1) := by decide +kernel
theorem dX4_firstTurnToward_1 : decode cX4_firstTurnToward 1 = .ok (.istore_n 3, 1) := by decide +kernel
theorem dX4_firstTurnToward_2 : decode cX4_firstTurnToward 2 = .ok (.iload_n 3, 1) := by decide +kernel
theorem dX4_firstTurnToward_3 : decode cX4_firstTurnToward 3 = .ok (.aload_n 0, 1) := by decide +kernel
theorem dX4_firstTurnToward_4 : decode cX4_firstTurnToward 4 = .ok (.getfield 18, 3) := by decide +kernel
theorem dX4_firstTurnToward_7 : decode cX4_firstTurnToward 7 = .ok (.getfield 65, 3) := by decide +kernel
theorem dX4_firstTurnToward_10 : decode cX4_firstTurnToward 10 = .ok (.if_icmp .gt 43, 3) := by decide +kernel
theorem dX4_firstTurnToward_13 : decode cX4_firstTurnToward 13 = .ok (.aload_n 0, 1) := by decide +kernel
theorem dX4_firstTurnToward_14 : decode cX4_firstTurnToward 14 = .ok (.getfield 18, 3) := by decide +kernel
theorem dX4_firstTurnToward_17 : decode cX4_firstTurnToward 17 = .ok (.iload_n 1, 1) := by decide +kernel
theorem dX4_firstTurnToward_18 : decode cX4_firstTurnToward 18 = .ok (.iload_n 3, 1) := by decide +kernel
theorem dX4_firstTurnToward_19 : decode cX4_firstTurnToward 19 = .ok (.invokevirtual 68, 3) := by decide +kernel
theorem dX4_firstTurnToward_22 : decode cX4_firstTurnToward 22 = .ok (.ifCond .eq 25, 3) := by decide +kernel
theorem dX4_firstTurnToward_25 : decode cX4_firstTurnToward 25 = .ok (.aload_n 0, 1) := by decide +kernel
theorem dX4_firstTurnToward_26 : decode cX4_firstTurnToward 26 = .ok (.getfield 39, 3) := by decide +kernel
theorem dX4_firstTurnToward_29 : decode cX4_firstTurnToward 29 = .ok (.aload_n 0, 1) := by decide +kernel
theorem dX4_firstTurnToward_30 : decode cX4_firstTurnToward 30 = .ok (.getfield 28, 3) := by decide +kernel
theorem dX4_firstTurnToward_33 : decode cX4_firstTurnToward 33 = .ok (.iload_n 1, 1) := by decide +kernel
theorem dX4_firstTurnToward_34 : decode cX4_firstTurnToward 34 = .ok (.iload_n 3, 1) := by decide +kernel
theorem dX4_firstTurnToward_35 : decode cX4_firstTurnToward 35 = .ok (.invokevirtual 62, 3) := by decide +kernel
theorem dX4_firstTurnToward_38 : decode cX4_firstTurnToward 38 = .ok (.invokestatic 50, 3) := by decide +kernel
theorem dX4_firstTurnToward_41 : decode cX4_firstTurnToward 41 = .ok (.iload_n 2, 1) := by decide +kernel
theorem dX4_firstTurnToward_42 : decode cX4_firstTurnToward 42 = .ok (.if_icmp .ne 5, 3) := by decide +kernel
theorem dX4_firstTurnToward_45 : decode cX4_firstTurnToward 45 = .ok (.iload_n 3, 1) := by decide +kernel
theorem dX4_firstTurnToward_46 : decode cX4_firstTurnToward 46 = .ok (.ireturn, 1) := by decide +kernel
theorem dX4_firstTurnToward_47 : decode cX4_firstTurnToward 47 = .ok (.iinc 3 1, 3) := by decide +kernel
theorem dX4_firstTurnToward_50 : decode cX4_firstTurnToward 50 = .ok (.goto (-48), 3) := by decide +kernel
theorem dX4_firstTurnToward_53 : decode cX4_firstTurnToward 53 = .ok (.iconst (-1), 1) := by decide +kernel
theorem dX4_firstTurnToward_54 : decode cX4_firstTurnToward 54 = .ok (.ireturn, 1) := by decide +kernel
theorem dX4_fillCosts_0 : decode cX4_fillCosts 0 = .ok (.iconst 0, 1) := by decide +kernel
theorem dX4_fillCosts_1 : decode cX4_fillCosts 1 = .ok (.istore_n 3, 1) := by decide +kernel
theorem dX4_fillCosts_2 : decode cX4_fillCosts 2 = .ok (.iload_n 3, 1) := by decide +kernel
theorem dX4_fillCosts_3 : decode cX4_fillCosts 3 = .ok (.aload_n 1, 1) := by decide +kernel
theorem dX4_fillCosts_4 : decode cX4_fillCosts 4 = .ok (.arraylength, 1) := by decide +kernel
theorem dX4_fillCosts_5 : decode cX4_fillCosts 5 = .ok (.if_icmp .ge 13, 3) := by decide +kernel
theorem dX4_fillCosts_8 : decode cX4_fillCosts 8 = .ok (.aload_n 1, 1) := by decide +kernel
theorem dX4_fillCosts_9 : decode cX4_fillCosts 9 = .ok (.iload_n 3, 1) := by decide +kernel
theorem dX4_fillCosts_10 : decode cX4_fillCosts 10 = .ok (.iconst (-1), 1) := by decide +kernel
theorem dX4_fillCosts_11 : decode cX4_fillCosts 11 = .ok (.iastore, 1) := by decide +kernel
theorem dX4_fillCosts_12 : decode cX4_fillCosts 12 = .ok (.iinc 3 1, 3) := by decide +kernel
theorem dX4_fillCosts_15 : decode cX4_fillCosts 15 = .ok (.goto (-13), 3) := by decide +kernel
theorem dX4_fillCosts_18 : decode cX4_fillCosts 18 = .ok (.aload_n 1, 1) := by decide +kernel
theorem dX4_fillCosts_19 : decode cX4_fillCosts 19 = .ok (.iconst 0, 1) := by decide +kernel
theorem dX4_fillCosts_20 : decode cX4_fillCosts 20 = .ok (.iconst 0, 1) := by decide +kernel
theorem dX4_fillCosts_21 : decode cX4_fillCosts 21 = .ok (.invokestatic 72, 3) := by decide +kernel
theorem dX4_fillCosts_24 : decode cX4_fillCosts 24 = .ok (.iconst 0, 1) := by decide +kernel
theorem dX4_fillCosts_25 : decode cX4_fillCosts 25 = .ok (.istore_n 3, 1) := by decide +kernel
theorem dX4_fillCosts_26 : decode cX4_fillCosts 26 = .ok (.iconst 0, 1) := by decide +kernel
theorem dX4_fillCosts_27 : decode cX4_fillCosts 27 = .ok (.istore 4, 2) := by decide +kernel
theorem dX4_fillCosts_29 : decode cX4_fillCosts 29 = .ok (.iload 4, 2) := by decide +kernel
theorem dX4_fillCosts_31 : decode cX4_fillCosts 31 = .ok (.iload_n 3, 1) := by decide +kernel
theorem dX4_fillCosts_32 : decode cX4_fillCosts 32 = .ok (.if_icmp .gt 55, 3) := by decide +kernel
theorem dX4_fillCosts_35 : decode cX4_fillCosts 35 = .ok (.iload 4, 2) := by decide +kernel
theorem dX4_fillCosts_37 : decode cX4_fillCosts 37 = .ok (.sipush 20000, 3) := by decide +kernel
theorem dX4_fillCosts_40 : decode cX4_fillCosts 40 = .ok (.if_icmp .gt 47, 3) := by decide +kernel
theorem dX4_fillCosts_43 : decode cX4_fillCosts 43 = .ok (.iconst 0, 1) := by decide +kernel
theorem dX4_fillCosts_44 : decode cX4_fillCosts 44 = .ok (.istore 5, 2) := by decide +kernel
theorem dX4_fillCosts_46 : decode cX4_fillCosts 46 = .ok (.iload 5, 2) := by decide +kernel
theorem dX4_fillCosts_48 : decode cX4_fillCosts 48 = .ok (.aload_n 1, 1) := by decide +kernel
theorem dX4_fillCosts_49 : decode cX4_fillCosts 49 = .ok (.arraylength, 1) := by decide +kernel
theorem dX4_fillCosts_50 : decode cX4_fillCosts 50 = .ok (.if_icmp .ge 31, 3) := by decide +kernel
theorem dX4_fillCosts_53 : decode cX4_fillCosts 53 = .ok (.aload_n 1, 1) := by decide +kernel
theorem dX4_fillCosts_54 : decode cX4_fillCosts 54 = .ok (.iload 5, 2) := by decide +kernel
theorem dX4_fillCosts_56 : decode cX4_fillCosts 56 = .ok (.iaload, 1) := by decide +kernel
theorem dX4_fillCosts_57 : decode cX4_fillCosts 57 = .ok (.iload 4, 2) := by decide +kernel
theorem dX4_fillCosts_59 : decode cX4_fillCosts 59 = .ok (.if_icmp .ne 16, 3) := by decide +kernel
theorem dX4_fillCosts_62 : decode cX4_fillCosts 62 = .ok (.iload_n 3, 1) := by decide +kernel
theorem dX4_fillCosts_63 : decode cX4_fillCosts 63 = .ok (.aload_n 0, 1) := by decide +kernel
theorem dX4_fillCosts_64 : decode cX4_fillCosts 64 = .ok (.aload_n 1, 1) := by decide +kernel
theorem dX4_fillCosts_65 : decode cX4_fillCosts 65 = .ok (.iload 5, 2) := by decide +kernel
theorem dX4_fillCosts_67 : decode cX4_fillCosts 67 = .ok (.iload_n 2, 1) := by decide +kernel
theorem dX4_fillCosts_68 : decode cX4_fillCosts 68 = .ok (.invokevirtual 76, 3) := by decide +kernel
theorem dX4_fillCosts_71 : decode cX4_fillCosts 71 = .ok (.invokestatic 80, 3) := by decide +kernel
theorem dX4_fillCosts_74 : decode cX4_fillCosts 74 = .ok (.istore_n 3, 1) := by decide +kernel
theorem dX4_fillCosts_75 : decode cX4_fillCosts 75 = .ok (.iinc 5 1, 3) := by decide +kernel
theorem dX4_fillCosts_78 : decode cX4_fillCosts 78 = .ok (.goto (-32), 3) := by decide +kernel
theorem dX4_fillCosts_81 : decode cX4_fillCosts 81 = .ok (.iinc 4 1, 3) := by decide +kernel
theorem dX4_fillCosts_84 : decode cX4_fillCosts 84 = .ok (.goto (-55), 3) := by decide +kernel
theorem dX4_fillCosts_87 : decode cX4_fillCosts 87 = .ok (.return_, 1) := by decide +kernel
theorem dX4_spreadCost_0 : decode cX4_spreadCost 0 = .ok (.iconst 0, 1) := by decide +kernel
theorem dX4_spreadCost_1 : decode cX4_spreadCost 1 = .ok (.istore 4, 2) := by decide +kernel
theorem dX4_spreadCost_3 : decode cX4_spreadCost 3 = .ok (.iconst 1, 1) := by decide +kernel
theorem dX4_spreadCost_4 : decode cX4_spreadCost 4 = .ok (.istore 5, 2) := by decide +kernel
theorem dX4_spreadCost_6 : decode cX4_spreadCost 6 = .ok (.iload 5, 2) := by decide +kernel
theorem dX4_spreadCost_8 : decode cX4_spreadCost 8 = .ok (.aload_n 0, 1) := by decide +kernel
theorem dX4_spreadCost_9 : decode cX4_spreadCost 9 = .ok (.getfield 18, 3) := by decide +kernel
theorem dX4_spreadCost_12 : decode cX4_spreadCost 12 = .ok (.getfield 65, 3) := by decide +kernel
theorem dX4_spreadCost_15 : decode cX4_spreadCost 15 = .ok (.if_icmp .gt 91, 3) := by decide +kernel
theorem dX4_spreadCost_18 : decode cX4_spreadCost 18 = .ok (.aload_n 0, 1) := by decide +kernel
theorem dX4_spreadCost_19 : decode cX4_spreadCost 19 = .ok (.getfield 28, 3) := by decide +kernel
theorem dX4_spreadCost_22 : decode cX4_spreadCost 22 = .ok (.iload_n 2, 1) := by decide +kernel
theorem dX4_spreadCost_23 : decode cX4_spreadCost 23 = .ok (.iload 5, 2) := by decide +kernel
theorem dX4_spreadCost_25 : decode cX4_spreadCost 25 = .ok (.invokevirtual 62, 3) := by decide +kernel
theorem dX4_spreadCost_28 : decode cX4_spreadCost 28 = .ok (.istore 6, 2) := by decide +kernel
theorem dX4_spreadCost_30 : decode cX4_spreadCost 30 = .ok (.aload_n 1, 1) := by decide +kernel
theorem dX4_spreadCost_31 : decode cX4_spreadCost 31 = .ok (.iload_n 2, 1) := by decide +kernel
theorem dX4_spreadCost_32 : decode cX4_spreadCost 32 = .ok (.invokestatic 50, 3) := by decide +kernel
theorem dX4_spreadCost_35 : decode cX4_spreadCost 35 = .ok (.iload_n 3, 1) := by decide +kernel
theorem dX4_spreadCost_36 : decode cX4_spreadCost 36 = .ok (.ifCond .eq 8, 3) := by decide +kernel
theorem dX4_spreadCost_39 : decode cX4_spreadCost 39 = .ok (.iload 5, 2) := by decide +kernel
theorem dX4_spreadCost_41 : decode cX4_spreadCost 41 = .ok (.goto 4, 3) := by decide +kernel
theorem dX4_spreadCost_44 : decode cX4_spreadCost 44 = .ok (.iconst 1, 1) := by decide +kernel
theorem dX4_spreadCost_45 : decode cX4_spreadCost 45 = .ok (.iadd, 1) := by decide +kernel
theorem dX4_spreadCost_46 : decode cX4_spreadCost 46 = .ok (.istore 7, 2) := by decide +kernel
theorem dX4_spreadCost_48 : decode cX4_spreadCost 48 = .ok (.aload_n 1, 1) := by decide +kernel
theorem dX4_spreadCost_49 : decode cX4_spreadCost 49 = .ok (.iload 6, 2) := by decide +kernel
theorem dX4_spreadCost_51 : decode cX4_spreadCost 51 = .ok (.invokestatic 50, 3) := by decide +kernel
theorem dX4_spreadCost_54 : decode cX4_spreadCost 54 = .ok (.istore 8, 2) := by decide +kernel
theorem dX4_spreadCost_56 : decode cX4_spreadCost 56 = .ok (.iload 8, 2) := by decide +kernel
theorem dX4_spreadCost_58 : decode cX4_spreadCost 58 = .ok (.iconst (-1), 1) := by decide +kernel
theorem dX4_spreadCost_59 : decode cX4_spreadCost 59 = .ok (.if_icmp .eq 10, 3) := by decide +kernel
theorem dX4_spreadCost_62 : decode cX4_spreadCost 62 = .ok (.iload 8, 2) := by decide +kernel
theorem dX4_spreadCost_64 : decode cX4_spreadCost 64 = .ok (.iload 7, 2) := by decide +kernel
theorem dX4_spreadCost_66 : decode cX4_spreadCost 66 = .ok (.if_icmp .le 34, 3) := by decide +kernel
theorem dX4_spreadCost_69 : decode cX4_spreadCost 69 = .ok (.aload_n 0, 1) := by decide +kernel
theorem dX4_spreadCost_70 : decode cX4_spreadCost 70 = .ok (.getfield 18, 3) := by decide +kernel
theorem dX4_spreadCost_73 : decode cX4_spreadCost 73 = .ok (.iload 6, 2) := by decide +kernel
theorem dX4_spreadCost_75 : decode cX4_spreadCost 75 = .ok (.iload 5, 2) := by decide +kernel
theorem dX4_spreadCost_77 : decode cX4_spreadCost 77 = .ok (.invokevirtual 68, 3) := by decide +kernel
theorem dX4_spreadCost_80 : decode cX4_spreadCost 80 = .ok (.ifCond .eq 20, 3) := by decide +kernel
theorem dX4_spreadCost_83 : decode cX4_spreadCost 83 = .ok (.aload_n 1, 1) := by decide +kernel
theorem dX4_spreadCost_84 : decode cX4_spreadCost 84 = .ok (.iload 6, 2) := by decide +kernel
theorem dX4_spreadCost_86 : decode cX4_spreadCost 86 = .ok (.iload 7, 2) := by decide +kernel
theorem dX4_spreadCost_88 : decode cX4_spreadCost 88 = .ok (.invokestatic 72, 3) := by decide +kernel
theorem dX4_spreadCost_91 : decode cX4_spreadCost 91 = .ok (.iload 4, 2) := by decide +kernel
theorem dX4_spreadCost_93 : decode cX4_spreadCost 93 = .ok (.iload 7, 2) := by decide +kernel
theorem dX4_spreadCost_95 : decode cX4_spreadCost 95 = .ok (.invokestatic 80, 3) := by decide +kernel
theorem dX4_spreadCost_98 : decode cX4_spreadCost 98 = .ok (.istore 4, 2) := by decide +kernel
theorem dX4_spreadCost_100 : decode cX4_spreadCost 100 = .ok (.iinc 5 1, 3) := by decide +kernel
theorem dX4_spreadCost_103 : decode cX4_spreadCost 103 = .ok (.goto (-97), 3) := by decide +kernel
theorem dX4_spreadCost_106 : decode cX4_spreadCost 106 = .ok (.iload 4, 2) := by decide +kernel
theorem dX4_spreadCost_108 : decode cX4_spreadCost 108 = .ok (.ireturn, 1) := by decide +kernel
theorem dX4_sortingRows_0 : decode cX4_sortingRows 0 = .ok (.aload_n 0, 1) := by decide +kernel
theorem dX4_sortingRows_1 : decode cX4_sortingRows 1 = .ok (.getfield 18, 3) := by decide +kernel
theorem dX4_sortingRows_4 : decode cX4_sortingRows 4 = .ok (.iload_n 1, 1) := by decide +kernel
theorem dX4_sortingRows_5 : decode cX4_sortingRows 5 = .ok (.iload_n 2, 1) := by decide +kernel
theorem dX4_sortingRows_6 : decode cX4_sortingRows 6 = .ok (.invokestatic 85, 3) := by decide +kernel
theorem dX4_sortingRows_9 : decode cX4_sortingRows 9 = .ok (.ireturn, 1) := by decide +kernel
theorem dX4_countSorting_0 : decode cX4_countSorting 0 = .ok (.aload_n 0, 1) := by decide +kernel
theorem dX4_countSorting_1 : decode cX4_countSorting 1 = .ok (.getfield 22, 3) := by decide +kernel
theorem dX4_countSorting_4 : decode cX4_countSorting 4 = .ok (.iload_n 1, 1) := by decide +kernel
theorem dX4_countSorting_5 : decode cX4_countSorting 5 = .ok (.invokevirtual 89, 3) := by decide +kernel
theorem dX4_countSorting_8 : decode cX4_countSorting 8 = .ok (.iload_n 2, 1) := by decide +kernel
theorem dX4_countSorting_9 : decode cX4_countSorting 9 = .ok (.if_icmp .le 5, 3) := by decide +kernel
theorem dX4_countSorting_12 : decode cX4_countSorting 12 = .ok (.iconst 0, 1) := by decide +kernel
theorem dX4_countSorting_13 : decode cX4_countSorting 13 = .ok (.ireturn, 1) := by decide +kernel
theorem dX4_countSorting_14 : decode cX4_countSorting 14 = .ok (.iload_n 2, 1) := by decide +kernel
theorem dX4_countSorting_15 : decode cX4_countSorting 15 = .ok (.ifCond .gt 5, 3) := by decide +kernel
theorem dX4_countSorting_18 : decode cX4_countSorting 18 = .ok (.iconst 1, 1) := by decide +kernel
theorem dX4_countSorting_19 : decode cX4_countSorting 19 = .ok (.ireturn, 1) := by decide +kernel
theorem dX4_countSorting_20 : decode cX4_countSorting 20 = .ok (.iconst 0, 1) := by decide +kernel
theorem dX4_countSorting_21 : decode cX4_countSorting 21 = .ok (.istore_n 3, 1) := by decide +kernel
theorem dX4_countSorting_22 : decode cX4_countSorting 22 = .ok (.iconst 1, 1) := by decide +kernel
theorem dX4_countSorting_23 : decode cX4_countSorting 23 = .ok (.istore 4, 2) := by decide +kernel
theorem dX4_countSorting_25 : decode cX4_countSorting 25 = .ok (.iload 4, 2) := by decide +kernel
theorem dX4_countSorting_27 : decode cX4_countSorting 27 = .ok (.aload_n 0, 1) := by decide +kernel
theorem dX4_countSorting_28 : decode cX4_countSorting 28 = .ok (.getfield 65, 3) := by decide +kernel
theorem dX4_countSorting_31 : decode cX4_countSorting 31 = .ok (.if_icmp .gt 39, 3) := by decide +kernel
theorem dX4_countSorting_34 : decode cX4_countSorting 34 = .ok (.aload_n 0, 1) := by decide +kernel
theorem dX4_countSorting_35 : decode cX4_countSorting 35 = .ok (.iload_n 1, 1) := by decide +kernel
theorem dX4_countSorting_36 : decode cX4_countSorting 36 = .ok (.iload 4, 2) := by decide +kernel
theorem dX4_countSorting_38 : decode cX4_countSorting 38 = .ok (.invokevirtual 68, 3) := by decide +kernel
theorem dX4_countSorting_41 : decode cX4_countSorting 41 = .ok (.ifCond .eq 23, 3) := by decide +kernel
theorem dX4_countSorting_44 : decode cX4_countSorting 44 = .ok (.iload_n 3, 1) := by decide +kernel
theorem dX4_countSorting_45 : decode cX4_countSorting 45 = .ok (.aload_n 0, 1) := by decide +kernel
theorem dX4_countSorting_46 : decode cX4_countSorting 46 = .ok (.aload_n 0, 1) := by decide +kernel
theorem dX4_countSorting_47 : decode cX4_countSorting 47 = .ok (.getfield 22, 3) := by decide +kernel
theorem dX4_countSorting_50 : decode cX4_countSorting 50 = .ok (.iload_n 1, 1) := by decide +kernel
theorem dX4_countSorting_51 : decode cX4_countSorting 51 = .ok (.iload 4, 2) := by decide +kernel
theorem dX4_countSorting_53 : decode cX4_countSorting 53 = .ok (.invokevirtual 62, 3) := by decide +kernel
theorem dX4_countSorting_56 : decode cX4_countSorting 56 = .ok (.iload_n 2, 1) := by decide +kernel
theorem dX4_countSorting_57 : decode cX4_countSorting 57 = .ok (.iconst 1, 1) := by decide +kernel
theorem dX4_countSorting_58 : decode cX4_countSorting 58 = .ok (.isub, 1) := by decide +kernel
theorem dX4_countSorting_59 : decode cX4_countSorting 59 = .ok (.invokestatic 85, 3) := by decide +kernel
theorem dX4_countSorting_62 : decode cX4_countSorting 62 = .ok (.iadd, 1) := by decide +kernel
theorem dX4_countSorting_63 : decode cX4_countSorting 63 = .ok (.istore_n 3, 1) := by decide +kernel
theorem dX4_countSorting_64 : decode cX4_countSorting 64 = .ok (.iinc 4 1, 3) := by decide +kernel
theorem dX4_countSorting_67 : decode cX4_countSorting 67 = .ok (.goto (-42), 3) := by decide +kernel
theorem dX4_countSorting_70 : decode cX4_countSorting 70 = .ok (.iload_n 3, 1) := by decide +kernel
theorem dX4_countSorting_71 : decode cX4_countSorting 71 = .ok (.ireturn, 1) := by decide +kernel
theorem dX5_init_0 : decode cX5_init 0 = .ok (.aload_n 0, 1) := by decide +kernel
theorem dX5_init_1 : decode cX5_init 1 = .ok (.invokespecial 3, 3) := by decide +kernel
theorem dX5_init_4 : decode cX5_init 4 = .ok (.aload_n 0, 1) := by decide +kernel
theorem dX5_init_5 : decode cX5_init 5 = .ok (.iconst 0, 1) := by decide +kernel
theorem dX5_init_6 : decode cX5_init 6 = .ok (.putfield 9, 3) := by decide +kernel
theorem dX5_init_9 : decode cX5_init 9 = .ok (.aload_n 0, 1) := by decide +kernel
theorem dX5_init_10 : decode cX5_init 10 = .ok (.iconst 0, 1) := by decide +kernel
