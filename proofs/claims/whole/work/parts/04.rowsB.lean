theorem dX4_fillCosts_32 : decode cX4_fillCosts 32 = .ok (.if_icmp .gt 55, 3) := by decide +kernel
theorem dX4_fillCosts_35 : decode cX4_fillCosts 35 = .ok (.iload 4, 2) := by decide +kernel
theorem dX4_fillCosts_37 : decode cX4_fillCosts 37 = .ok (.sipush 20000, 3) := by decide +kernel
theorem dX4_fillCosts_40 : decode cX4_fillCosts 40 = .ok (.if_icmp .gt 47, 3) := by decide +kernel
theorem dX4_fillCosts_43 : decode cX4_fillCosts 43 = .ok (.iconst 0, 1) := by decide +kernel
theorem dX4_fillCosts_44 : decode cX4_fillCosts 44 = .ok (.istore 5, 2) := by decide +kernel
theorem dX4_fillCosts_46 : decode cX4_fillCosts 46 = .ok (.iload 5, 2) := by decide +kernel
theorem dX4_fillCosts_48 : decode cX4_fillCosts 48 = .ok (.aload_n 1, 1) := by decide +kernel
theorem dX4_fillCosts_49 : decode cX4_fillCosts 49 = .ok (.arraylength, 1) := by decide +kernel
theorem dX4_fillCosts_50 : decode cX4_fillCosts 50 = .ok (.if_icmp .ge 31, 3) := by decide +kernel
theorem dX4_fillCosts_53 : decode cX4_fillCosts 53 = .ok (.aload_n 1, 1) := by decide +kernel
theorem dX4_fillCosts_54 : decode cX4_fillCosts 54 = .ok (.iload 5, 2) := by decide +kernel
theorem dX4_fillCosts_56 : decode cX4_fillCosts 56 = .ok (.iaload, 1) := by decide +kernel
theorem dX4_fillCosts_57 : decode cX4_fillCosts 57 = .ok (.iload 4, 2) := by decide +kernel
theorem dX4_fillCosts_59 : decode cX4_fillCosts 59 = .ok (.if_icmp .ne 16, 3) := by decide +kernel
theorem dX4_fillCosts_62 : decode cX4_fillCosts 62 = .ok (.iload_n 3, 1) := by decide +kernel
theorem dX4_fillCosts_63 : decode cX4_fillCosts 63 = .ok (.aload_n 0, 1) := by decide +kernel
theorem dX4_fillCosts_64 : decode cX4_fillCosts 64 = .ok (.aload_n 1, 1) := by decide +kernel
theorem dX4_fillCosts_65 : decode cX4_fillCosts 65 = .ok (.iload 5, 2) := by decide +kernel
theorem dX4_fillCosts_67 : decode cX4_fillCosts 67 = .ok (.iload_n 2, 1) := by decide +kernel
theorem dX4_fillCosts_68 : decode cX4_fillCosts 68 = .ok (.invokevirtual 76, 3) := by decide +kernel
theorem dX4_fillCosts_71 : decode cX4_fillCosts 71 = .ok (.invokestatic 80, 3) := by decide +kernel
theorem dX4_fillCosts_74 : decode cX4_fillCosts 74 = .ok (.istore_n 3, 1) := by decide +kernel
theorem dX4_fillCosts_75 : decode cX4_fillCosts 75 = .ok (.iinc 5 1, 3) := by decide +kernel
theorem dX4_fillCosts_78 : decode cX4_fillCosts 78 = .ok (.goto (-32), 3) := by decide +kernel
theorem dX4_fillCosts_81 : decode cX4_fillCosts 81 = .ok (.iinc 4 1, 3) := by decide +kernel
theorem dX4_fillCosts_84 : decode cX4_fillCosts 84 = .ok (.goto (-55), 3) := by decide +kernel
theorem dX4_fillCosts_87 : decode cX4_fillCosts 87 = .ok (.return_, 1) := by decide +kernel
theorem dX4_spreadCost_0 : decode cX4_spreadCost 0 = .ok (.iconst 0, 1) := by decide +kernel
theorem dX4_spreadCost_1 : decode cX4_spreadCost 1 = .ok (.istore 4, 2) := by decide +kernel
theorem dX4_spreadCost_3 : decode cX4_spreadCost 3 = .ok (.iconst 1, 1) := by decide +kernel
theorem dX4_spreadCost_4 : decode cX4_spreadCost 4 = .ok (.istore 5, 2) := by decide +kernel
theorem dX4_spreadCost_6 : decode cX4_spreadCost 6 = .ok (.iload 5, 2) := by decide +kernel
theorem dX4_spreadCost_8 : decode cX4_spreadCost 8 = .ok (.aload_n 0, 1) := by decide +kernel
theorem dX4_spreadCost_9 : decode cX4_spreadCost 9 = .ok (.getfield 18, 3) := by decide +kernel
theorem dX4_spreadCost_12 : decode cX4_spreadCost 12 = .ok (.getfield 65, 3) := by decide +kernel
theorem dX4_spreadCost_15 : decode cX4_spreadCost 15 = .ok (.if_icmp .gt 91, 3) := by decide +kernel
theorem dX4_spreadCost_18 : decode cX4_spreadCost 18 = .ok (.aload_n 0, 1) := by decide +kernel
theorem dX4_spreadCost_19 : decode cX4_spreadCost 19 = .ok (.getfield 28, 3) := by decide +kernel
theorem dX4_spreadCost_22 : decode cX4_spreadCost 22 = .ok (.iload_n 2, 1) := by decide +kernel
theorem dX4_spreadCost_23 : decode cX4_spreadCost 23 = .ok (.iload 5, 2) := by decide +kernel
theorem dX4_spreadCost_25 : decode cX4_spreadCost 25 = .ok (.invokevirtual 62, 3) := by decide +kernel
theorem dX4_spreadCost_28 : decode cX4_spreadCost 28 = .ok (.istore 6, 2) := by decide +kernel
theorem dX4_spreadCost_30 : decode cX4_spreadCost 30 = .ok (.aload_n 1, 1) := by decide +kernel
theorem dX4_spreadCost_31 : decode cX4_spreadCost 31 = .ok (.iload_n 2, 1) := by decide +kernel
theorem dX4_spreadCost_32 : decode cX4_spreadCost 32 = .ok (.invokestatic 50, 3) := by decide +kernel
theorem dX4_spreadCost_35 : decode cX4_spreadCost 35 = .ok (.iload_n 3, 1) := by decide +kernel
theorem dX4_spreadCost_36 : decode cX4_spreadCost 36 = .ok (.ifCond .eq 8, 3) := by decide +kernel
theorem dX4_spreadCost_39 : decode cX4_spreadCost 39 = .ok (.iload 5, 2) := by decide +kernel
theorem dX4_spreadCost_41 : decode cX4_spreadCost 41 = .ok (.goto 4, 3) := by decide +kernel
theorem dX4_spreadCost_44 : decode cX4_spreadCost 44 = .ok (.iconst 1, 1) := by decide +kernel
theorem dX4_spreadCost_45 : decode cX4_spreadCost 45 = .ok (.iadd, 1) := by decide +kernel
theorem dX4_spreadCost_46 : decode cX4_spreadCost 46 = .ok (.istore 7, 2) := by decide +kernel
theorem dX4_spreadCost_48 : decode cX4_spreadCost 48 = .ok (.aload_n 1, 1) := by decide +kernel
theorem dX4_spreadCost_49 : decode cX4_spreadCost 49 = .ok (.iload 6, 2) := by decide +kernel
theorem dX4_spreadCost_51 : decode cX4_spreadCost 51 = .ok (.invokestatic 50, 3) := by decide +kernel
theorem dX4_spreadCost_54 : decode cX4_spreadCost 54 = .ok (.istore 8, 2) := by decide +kernel
theorem dX4_spreadCost_56 : decode cX4_spreadCost 56 = .ok (.iload 8, 2) := by decide +kernel
theorem dX4_spreadCost_58 : decode cX4_spreadCost 58 = .ok (.iconst (-1), 1) := by decide +kernel
theorem dX4_spreadCost_59 : decode cX4_spreadCost 59 = .ok (.if_icmp .eq 10, 3) := by decide +kernel
theorem dX4_spreadCost_62 : decode cX4_spreadCost 62 = .ok (.iload 8, 2) := by decide +kernel
theorem dX4_spreadCost_64 : decode cX4_spreadCost 64 = .ok (.iload 7, 2) := by decide +kernel
theorem dX4_spreadCost_66 : decode cX4_spreadCost 66 = .ok (.if_icmp .le 34, 3) := by decide +kernel
theorem dX4_spreadCost_69 : decode cX4_spreadCost 69 = .ok (.aload_n 0, 1) := by decide +kernel
theorem dX4_spreadCost_70 : decode cX4_spreadCost 70 = .ok (.getfield 18, 3) := by decide +kernel
theorem dX4_spreadCost_73 : decode cX4_spreadCost 73 = .ok (.iload 6, 2) := by decide +kernel
theorem dX4_spreadCost_75 : decode cX4_spreadCost 75 = .ok (.iload 5, 2) := by decide +kernel
theorem dX4_spreadCost_77 : decode cX4_spreadCost 77 = .ok (.invokevirtual 68, 3) := by decide +kernel
theorem dX4_spreadCost_80 : decode cX4_spreadCost 80 = .ok (.ifCond .eq 20, 3) := by decide +kernel
theorem dX4_spreadCost_83 : decode cX4_spreadCost 83 = .ok (.aload_n 1, 1) := by decide +kernel
theorem dX4_spreadCost_84 : decode cX4_spreadCost 84 = .ok (.iload 6, 2) := by decide +kernel
theorem dX4_spreadCost_86 : decode cX4_spreadCost 86 = .ok (.iload 7, 2) := by decide +kernel
theorem dX4_spreadCost_88 : decode cX4_spreadCost 88 = .ok (.invokestatic 72, 3) := by decide +kernel
theorem dX4_spreadCost_91 : decode cX4_spreadCost 91 = .ok (.iload 4, 2) := by decide +kernel
theorem dX4_spreadCost_93 : decode cX4_spreadCost 93 = .ok (.iload 7, 2) := by decide +kernel
theorem dX4_spreadCost_95 : decode cX4_spreadCost 95 = .ok (.invokestatic 80, 3) := by decide +kernel
theorem dX4_spreadCost_98 : decode cX4_spreadCost 98 = .ok (.istore 4, 2) := by decide +kernel
theorem dX4_spreadCost_100 : decode cX4_spreadCost 100 = .ok (.iinc 5 1, 3) := by decide +kernel
theorem dX4_spreadCost_103 : decode cX4_spreadCost 103 = .ok (.goto (-97), 3) := by decide +kernel
theorem dX4_spreadCost_106 : decode cX4_spreadCost 106 = .ok (.iload 4, 2) := by decide +kernel
theorem dX4_spreadCost_108 : decode cX4_spreadCost 108 = .ok (.ireturn, 1) := by decide +kernel
theorem dX4_sortingRows_0 : decode cX4_sortingRows 0 = .ok (.aload_n 0, 1) := by decide +kernel
theorem dX4_sortingRows_1 : decode cX4_sortingRows 1 = .ok (.getfield 18, 3) := by decide +kernel
theorem dX4_sortingRows_4 : decode cX4_sortingRows 4 = .ok (.iload_n 1, 1) := by decide +kernel
theorem dX4_sortingRows_5 : decode cX4_sortingRows 5 = .ok (.iload_n 2, 1) := by decide +kernel
theorem dX4_sortingRows_6 : decode cX4_sortingRows 6 = .ok (.invokestatic 85, 3) := by decide +kernel
theorem dX4_sortingRows_9 : decode cX4_sortingRows 9 = .ok (.ireturn, 1) := by decide +kernel
theorem dX4_countSorting_0 : decode cX4_countSorting 0 = .ok (.aload_n 0, 1) := by decide +kernel
theorem dX4_countSorting_1 : decode cX4_countSorting 1 = .ok (.getfield 22, 3) := by decide +kernel
theorem dX4_countSorting_4 : decode cX4_countSorting 4 = .ok (.iload_n 1, 1) := by decide +kernel
theorem dX4_countSorting_5 : decode cX4_countSorting 5 = .ok (.invokevirtual 89, 3) := by decide +kernel
theorem dX4_countSorting_8 : decode cX4_countSorting 8 = .ok (.iload_n 2, 1) := by decide +kernel
theorem dX4_countSorting_9 : decode cX4_countSorting 9 = .ok (.if_icmp .le 5, 3) := by decide +kernel
theorem dX4_countSorting_12 : decode cX4_countSorting 12 = .ok (.iconst 0, 1) := by decide +kernel
theorem dX4_countSorting_13 : decode cX4_countSorting 13 = .ok (.ireturn, 1) := by decide +kernel
theorem dX4_countSorting_14 : decode cX4_countSorting 14 = .ok (.iload_n 2, 1) := by decide +kernel
theorem dX4_countSorting_15 : decode cX4_countSorting 15 = .ok (.ifCond .gt 5, 3) := by decide +kernel
theorem dX4_countSorting_18 : decode cX4_countSorting 18 = .ok (.iconst 1, 1) := by decide +kernel
theorem dX4_countSorting_19 : decode cX4_countSorting 19 = .ok (.ireturn, 1) := by decide +kernel
theorem dX4_countSorting_20 : decode cX4_countSorting 20 = .ok (.iconst 0, 1) := by decide +kernel
theorem dX4_countSorting_21 : decode cX4_countSorting 21 = .ok (.istore_n 3, 1) := by decide +kernel
theorem dX4_countSorting_22 : decode cX4_countSorting 22 = .ok (.iconst 1, 1) := by decide +kernel
theorem dX4_countSorting_23 : decode cX4_countSorting 23 = .ok (.istore 4, 2) := by decide +kernel
theorem dX4_countSorting_25 : decode cX4_countSorting 25 = .ok (.iload 4, 2) := by decide +kernel
theorem dX4_countSorting_27 : decode cX4_countSorting 27 = .ok (.aload_n 0, 1) := by decide +kernel
theorem dX4_countSorting_28 : decode cX4_countSorting 28 = .ok (.getfield 65, 3) := by decide +kernel
theorem dX4_countSorting_31 : decode cX4_countSorting 31 = .ok (.if_icmp .gt 39, 3) := by decide +kernel
theorem dX4_countSorting_34 : decode cX4_countSorting 34 = .ok (.aload_n 0, 1) := by decide +kernel
theorem dX4_countSorting_35 : decode cX4_countSorting 35 = .ok (.iload_n 1, 1) := by decide +kernel
theorem dX4_countSorting_36 : decode cX4_countSorting 36 = .ok (.iload 4, 2) := by decide +kernel
theorem dX4_countSorting_38 : decode cX4_countSorting 38 = .ok (.invokevirtual 68, 3) := by decide +kernel
theorem dX4_countSorting_41 : decode cX4_countSorting 41 = .ok (.ifCond .eq 23, 3) := by decide +kernel
theorem dX4_countSorting_44 : decode cX4_countSorting 44 = .ok (.iload_n 3, 1) := by decide +kernel
theorem dX4_countSorting_45 : decode cX4_countSorting 45 = .ok (.aload_n 0, 1) := by decide +kernel
theorem dX4_countSorting_46 : decode cX4_countSorting 46 = .ok (.aload_n 0, 1) := by decide +kernel
theorem dX4_countSorting_47 : decode cX4_countSorting 47 = .ok (.getfield 22, 3) := by decide +kernel
theorem dX4_countSorting_50 : decode cX4_countSorting 50 = .ok (.iload_n 1, 1) := by decide +kernel
theorem dX4_countSorting_51 : decode cX4_countSorting 51 = .ok (.iload 4, 2) := by decide +kernel
theorem dX4_countSorting_53 : decode cX4_countSorting 53 = .ok (.invokevirtual 62, 3) := by decide +kernel
theorem dX4_countSorting_56 : decode cX4_countSorting 56 = .ok (.iload_n 2, 1) := by decide +kernel
theorem dX4_countSorting_57 : decode cX4_countSorting 57 = .ok (.iconst 1, 1) := by decide +kernel
theorem dX4_countSorting_58 : decode cX4_countSorting 58 = .ok (.isub, 1) := by decide +kernel
theorem dX4_countSorting_59 : decode cX4_countSorting 59 = .ok (.invokestatic 85, 3) := by decide +kernel
theorem dX4_countSorting_62 : decode cX4_countSorting 62 = .ok (.iadd, 1) := by decide +kernel
theorem dX4_countSorting_63 : decode cX4_countSorting 63 = .ok (.istore_n 3, 1) := by decide +kernel
theorem dX4_countSorting_64 : decode cX4_countSorting 64 = .ok (.iinc 4 1, 3) := by decide +kernel
theorem dX4_countSorting_67 : decode cX4_countSorting 67 = .ok (.goto (-42), 3) := by decide +kernel
theorem dX4_countSorting_70 : decode cX4_countSorting 70 = .ok (.iload_n 3, 1) := by decide +kernel
theorem dX4_countSorting_71 : decode cX4_countSorting 71 = .ok (.ireturn, 1) := by decide +kernel
theorem dX4_searchedRows_0 : decode cX4_searchedRows 0 = .ok (.aload_n 0, 1) := by decide +kernel
theorem dX4_searchedRows_1 : decode cX4_searchedRows 1 = .ok (.getfield 18, 3) := by decide +kernel
theorem dX4_searchedRows_4 : decode cX4_searchedRows 4 = .ok (.iload_n 1, 1) := by decide +kernel
theorem dX4_searchedRows_5 : decode cX4_searchedRows 5 = .ok (.iconst (-1), 1) := by decide +kernel
theorem dX4_searchedRows_6 : decode cX4_searchedRows 6 = .ok (.iload_n 2, 1) := by decide +kernel
theorem dX4_searchedRows_7 : decode cX4_searchedRows 7 = .ok (.invokestatic 92, 3) := by decide +kernel
theorem dX4_searchedRows_10 : decode cX4_searchedRows 10 = .ok (.ireturn, 1) := by decide +kernel
theorem dX4_countSearched_0 : decode cX4_countSearched 0 = .ok (.aload_n 0, 1) := by decide +kernel
theorem dX4_countSearched_1 : decode cX4_countSearched 1 = .ok (.getfield 22, 3) := by decide +kernel
theorem dX4_countSearched_4 : decode cX4_countSearched 4 = .ok (.iload_n 1, 1) := by decide +kernel
theorem dX4_countSearched_5 : decode cX4_countSearched 5 = .ok (.invokevirtual 89, 3) := by decide +kernel
theorem dX4_countSearched_8 : decode cX4_countSearched 8 = .ok (.iload_n 3, 1) := by decide +kernel
theorem dX4_countSearched_9 : decode cX4_countSearched 9 = .ok (.if_icmp .le 5, 3) := by decide +kernel
theorem dX4_countSearched_12 : decode cX4_countSearched 12 = .ok (.iconst 0, 1) := by decide +kernel
theorem dX4_countSearched_13 : decode cX4_countSearched 13 = .ok (.ireturn, 1) := by decide +kernel
theorem dX4_countSearched_14 : decode cX4_countSearched 14 = .ok (.iconst 1, 1) := by decide +kernel
theorem dX4_countSearched_15 : decode cX4_countSearched 15 = .ok (.istore 4, 2) := by decide +kernel
theorem dX4_countSearched_17 : decode cX4_countSearched 17 = .ok (.iload_n 1, 1) := by decide +kernel
theorem dX4_countSearched_18 : decode cX4_countSearched 18 = .ok (.ifCond .eq 7, 3) := by decide +kernel
theorem dX4_countSearched_21 : decode cX4_countSearched 21 = .ok (.iload_n 3, 1) := by decide +kernel
theorem dX4_countSearched_22 : decode cX4_countSearched 22 = .ok (.ifCond .gt 6, 3) := by decide +kernel
theorem dX4_countSearched_25 : decode cX4_countSearched 25 = .ok (.iload 4, 2) := by decide +kernel
theorem dX4_countSearched_27 : decode cX4_countSearched 27 = .ok (.ireturn, 1) := by decide +kernel
theorem dX4_countSearched_28 : decode cX4_countSearched 28 = .ok (.iconst 1, 1) := by decide +kernel
theorem dX4_countSearched_29 : decode cX4_countSearched 29 = .ok (.istore 5, 2) := by decide +kernel
theorem dX4_countSearched_31 : decode cX4_countSearched 31 = .ok (.iload 5, 2) := by decide +kernel
theorem dX4_countSearched_33 : decode cX4_countSearched 33 = .ok (.aload_n 0, 1) := by decide +kernel
theorem dX4_countSearched_34 : decode cX4_countSearched 34 = .ok (.getfield 65, 3) := by decide +kernel
theorem dX4_countSearched_37 : decode cX4_countSearched 37 = .ok (.if_icmp .gt 49, 3) := by decide +kernel
theorem dX4_countSearched_40 : decode cX4_countSearched 40 = .ok (.iload 5, 2) := by decide +kernel
theorem dX4_countSearched_42 : decode cX4_countSearched 42 = .ok (.iload_n 2, 1) := by decide +kernel
theorem dX4_countSearched_43 : decode cX4_countSearched 43 = .ok (.if_icmp .eq 37, 3) := by decide +kernel
theorem dX4_countSearched_46 : decode cX4_countSearched 46 = .ok (.aload_n 0, 1) := by decide +kernel
theorem dX4_countSearched_47 : decode cX4_countSearched 47 = .ok (.iload_n 1, 1) := by decide +kernel
theorem dX4_countSearched_48 : decode cX4_countSearched 48 = .ok (.iload 5, 2) := by decide +kernel
theorem dX4_countSearched_50 : decode cX4_countSearched 50 = .ok (.invokevirtual 68, 3) := by decide +kernel
theorem dX4_countSearched_53 : decode cX4_countSearched 53 = .ok (.ifCond .eq 27, 3) := by decide +kernel
theorem dX4_countSearched_56 : decode cX4_countSearched 56 = .ok (.iload 4, 2) := by decide +kernel
theorem dX4_countSearched_58 : decode cX4_countSearched 58 = .ok (.aload_n 0, 1) := by decide +kernel
theorem dX4_countSearched_59 : decode cX4_countSearched 59 = .ok (.aload_n 0, 1) := by decide +kernel
theorem dX4_countSearched_60 : decode cX4_countSearched 60 = .ok (.getfield 22, 3) := by decide +kernel
theorem dX4_countSearched_63 : decode cX4_countSearched 63 = .ok (.iload_n 1, 1) := by decide +kernel
theorem dX4_countSearched_64 : decode cX4_countSearched 64 = .ok (.iload 5, 2) := by decide +kernel
theorem dX4_countSearched_66 : decode cX4_countSearched 66 = .ok (.invokevirtual 62, 3) := by decide +kernel
theorem dX4_countSearched_69 : decode cX4_countSearched 69 = .ok (.iload 5, 2) := by decide +kernel
theorem dX4_countSearched_71 : decode cX4_countSearched 71 = .ok (.iload_n 3, 1) := by decide +kernel
theorem dX4_countSearched_72 : decode cX4_countSearched 72 = .ok (.iconst 1, 1) := by decide +kernel
theorem dX4_countSearched_73 : decode cX4_countSearched 73 = .ok (.isub, 1) := by decide +kernel
theorem dX4_countSearched_74 : decode cX4_countSearched 74 = .ok (.invokestatic 92, 3) := by decide +kernel
theorem dX4_countSearched_77 : decode cX4_countSearched 77 = .ok (.iadd, 1) := by decide +kernel
theorem dX4_countSearched_78 : decode cX4_countSearched 78 = .ok (.istore 4, 2) := by decide +kernel
theorem dX4_countSearched_80 : decode cX4_countSearched 80 = .ok (.iinc 5 1, 3) := by decide +kernel
theorem dX4_countSearched_83 : decode cX4_countSearched 83 = .ok (.goto (-52), 3) := by decide +kernel
theorem dX4_countSearched_86 : decode cX4_countSearched 86 = .ok (.iload 4, 2) := by decide +kernel
theorem dX4_countSearched_88 : decode cX4_countSearched 88 = .ok (.ireturn, 1) := by decide +kernel
theorem dX4_simpleWay_0 : decode cX4_simpleWay 0 = .ok (.iload_n 1, 1) := by decide +kernel
theorem dX4_simpleWay_1 : decode cX4_simpleWay 1 = .ok (.istore_n 3, 1) := by decide +kernel
theorem dX4_simpleWay_2 : decode cX4_simpleWay 2 = .ok (.iconst 0, 1) := by decide +kernel
theorem dX4_simpleWay_3 : decode cX4_simpleWay 3 = .ok (.istore 4, 2) := by decide +kernel
theorem dX4_simpleWay_5 : decode cX4_simpleWay 5 = .ok (.iconst 0, 1) := by decide +kernel
theorem dX4_simpleWay_6 : decode cX4_simpleWay 6 = .ok (.istore 5, 2) := by decide +kernel
theorem dX4_simpleWay_8 : decode cX4_simpleWay 8 = .ok (.iconst 1, 1) := by decide +kernel
theorem dX4_simpleWay_9 : decode cX4_simpleWay 9 = .ok (.istore 6, 2) := by decide +kernel
theorem dX4_simpleWay_11 : decode cX4_simpleWay 11 = .ok (.iconst 0, 1) := by decide +kernel
theorem dX4_simpleWay_12 : decode cX4_simpleWay 12 = .ok (.istore 7, 2) := by decide +kernel
theorem dX4_simpleWay_14 : decode cX4_simpleWay 14 = .ok (.iload 7, 2) := by decide +kernel
theorem dX4_simpleWay_16 : decode cX4_simpleWay 16 = .ok (.bipush 100, 2) := by decide +kernel
theorem dX4_simpleWay_18 : decode cX4_simpleWay 18 = .ok (.if_icmp .ge 60, 3) := by decide +kernel
theorem dX4_simpleWay_21 : decode cX4_simpleWay 21 = .ok (.iload_n 3, 1) := by decide +kernel
theorem dX4_simpleWay_22 : decode cX4_simpleWay 22 = .ok (.ifCond .eq 56, 3) := by decide +kernel
theorem dX4_simpleWay_25 : decode cX4_simpleWay 25 = .ok (.aload_n 0, 1) := by decide +kernel
theorem dX4_simpleWay_26 : decode cX4_simpleWay 26 = .ok (.getfield 28, 3) := by decide +kernel
theorem dX4_simpleWay_29 : decode cX4_simpleWay 29 = .ok (.iload_n 3, 1) := by decide +kernel
theorem dX4_simpleWay_30 : decode cX4_simpleWay 30 = .ok (.invokevirtual 96, 3) := by decide +kernel
theorem dX4_simpleWay_33 : decode cX4_simpleWay 33 = .ok (.istore 8, 2) := by decide +kernel
theorem dX4_simpleWay_35 : decode cX4_simpleWay 35 = .ok (.aload_n 0, 1) := by decide +kernel
theorem dX4_simpleWay_36 : decode cX4_simpleWay 36 = .ok (.getfield 18, 3) := by decide +kernel
theorem dX4_simpleWay_39 : decode cX4_simpleWay 39 = .ok (.iload_n 3, 1) := by decide +kernel
theorem dX4_simpleWay_40 : decode cX4_simpleWay 40 = .ok (.iload 8, 2) := by decide +kernel
theorem dX4_simpleWay_42 : decode cX4_simpleWay 42 = .ok (.invokevirtual 68, 3) := by decide +kernel
theorem dX4_simpleWay_45 : decode cX4_simpleWay 45 = .ok (.ifCond .ne 6, 3) := by decide +kernel
theorem dX4_simpleWay_48 : decode cX4_simpleWay 48 = .ok (.iconst 0, 1) := by decide +kernel
theorem dX4_simpleWay_49 : decode cX4_simpleWay 49 = .ok (.istore 6, 2) := by decide +kernel
theorem dX4_simpleWay_51 : decode cX4_simpleWay 51 = .ok (.iinc 4 1, 3) := by decide +kernel
theorem dX4_simpleWay_54 : decode cX4_simpleWay 54 = .ok (.iload 5, 2) := by decide +kernel
theorem dX4_simpleWay_56 : decode cX4_simpleWay 56 = .ok (.iload 8, 2) := by decide +kernel
theorem dX4_simpleWay_58 : decode cX4_simpleWay 58 = .ok (.iadd, 1) := by decide +kernel
theorem dX4_simpleWay_59 : decode cX4_simpleWay 59 = .ok (.istore 5, 2) := by decide +kernel
theorem dX4_simpleWay_61 : decode cX4_simpleWay 61 = .ok (.aload_n 0, 1) := by decide +kernel
theorem dX4_simpleWay_62 : decode cX4_simpleWay 62 = .ok (.getfield 28, 3) := by decide +kernel
theorem dX4_simpleWay_65 : decode cX4_simpleWay 65 = .ok (.iload_n 3, 1) := by decide +kernel
theorem dX4_simpleWay_66 : decode cX4_simpleWay 66 = .ok (.iload 8, 2) := by decide +kernel
theorem dX4_simpleWay_68 : decode cX4_simpleWay 68 = .ok (.invokevirtual 62, 3) := by decide +kernel
theorem dX4_simpleWay_71 : decode cX4_simpleWay 71 = .ok (.istore_n 3, 1) := by decide +kernel
theorem dX4_simpleWay_72 : decode cX4_simpleWay 72 = .ok (.iinc 7 1, 3) := by decide +kernel
theorem dX4_simpleWay_75 : decode cX4_simpleWay 75 = .ok (.goto (-61), 3) := by decide +kernel
theorem dX4_simpleWay_78 : decode cX4_simpleWay 78 = .ok (.iload_n 2, 1) := by decide +kernel
theorem dX4_simpleWay_79 : decode cX4_simpleWay 79 = .ok (.iconst 2, 1) := by decide +kernel
theorem dX4_simpleWay_80 : decode cX4_simpleWay 80 = .ok (.if_icmp .ne 6, 3) := by decide +kernel
theorem dX4_simpleWay_83 : decode cX4_simpleWay 83 = .ok (.iload 6, 2) := by decide +kernel
theorem dX4_simpleWay_85 : decode cX4_simpleWay 85 = .ok (.ireturn, 1) := by decide +kernel
theorem dX4_simpleWay_86 : decode cX4_simpleWay 86 = .ok (.iload_n 2, 1) := by decide +kernel
theorem dX4_simpleWay_87 : decode cX4_simpleWay 87 = .ok (.iconst 1, 1) := by decide +kernel
theorem dX4_simpleWay_88 : decode cX4_simpleWay 88 = .ok (.if_icmp .ne 8, 3) := by decide +kernel
theorem dX4_simpleWay_91 : decode cX4_simpleWay 91 = .ok (.iload 5, 2) := by decide +kernel
theorem dX4_simpleWay_93 : decode cX4_simpleWay 93 = .ok (.goto 5, 3) := by decide +kernel
theorem dX4_simpleWay_96 : decode cX4_simpleWay 96 = .ok (.iload 4, 2) := by decide +kernel
theorem dX4_simpleWay_98 : decode cX4_simpleWay 98 = .ok (.ireturn, 1) := by decide +kernel
theorem dX5_init_0 : decode cX5_init 0 = .ok (.aload_n 0, 1) := by decide +kernel
theorem dX5_init_1 : decode cX5_init 1 = .ok (.invokespecial 3, 3) := by decide +kernel
theorem dX5_init_4 : decode cX5_init 4 = .ok (.aload_n 0, 1) := by decide +kernel
theorem dX5_init_5 : decode cX5_init 5 = .ok (.iconst 0, 1) := by decide +kernel
theorem dX5_init_6 : decode cX5_init 6 = .ok (.putfield 9, 3) := by decide +kernel
theorem dX5_init_9 : decode cX5_init 9 = .ok (.aload_n 0, 1) := by decide +kernel
theorem dX5_init_10 : decode cX5_init 10 = .ok (.iconst 0, 1) := by decide +kernel
theorem dX5_init_11 : decode cX5_init 11 = .ok (.putfield 15, 3) := by decide +kernel
theorem dX5_init_14 : decode cX5_init 14 = .ok (.aload_n 0, 1) := by decide +kernel
theorem dX5_init_15 : decode cX5_init 15 = .ok (.iconst 0, 1) := by decide +kernel
theorem dX5_init_16 : decode cX5_init 16 = .ok (.putfield 18, 3) := by decide +kernel
theorem dX5_init_19 : decode cX5_init 19 = .ok (.aload_n 0, 1) := by decide +kernel
theorem dX5_init_20 : decode cX5_init 20 = .ok (.iconst 0, 1) := by decide +kernel
theorem dX5_init_21 : decode cX5_init 21 = .ok (.putfield 21, 3) := by decide +kernel
theorem dX5_init_24 : decode cX5_init 24 = .ok (.aload_n 0, 1) := by decide +kernel
theorem dX5_init_25 : decode cX5_init 25 = .ok (.bipush 50, 2) := by decide +kernel
theorem dX5_init_27 : decode cX5_init 27 = .ok (.newarray .int, 2) := by decide +kernel
theorem dX5_init_29 : decode cX5_init 29 = .ok (.putfield 24, 3) := by decide +kernel
theorem dX5_init_32 : decode cX5_init 32 = .ok (.aload_n 0, 1) := by decide +kernel
theorem dX5_init_33 : decode cX5_init 33 = .ok (.iconst (-1), 1) := by decide +kernel
theorem dX5_init_34 : decode cX5_init 34 = .ok (.putfield 28, 3) := by decide +kernel
theorem dX5_init_37 : decode cX5_init 37 = .ok (.aload_n 0, 1) := by decide +kernel
theorem dX5_init_38 : decode cX5_init 38 = .ok (.iconst 0, 1) := by decide +kernel
theorem dX5_init_39 : decode cX5_init 39 = .ok (.putfield 31, 3) := by decide +kernel
theorem dX5_init_42 : decode cX5_init 42 = .ok (.return_, 1) := by decide +kernel
theorem dX5_append_0 : decode cX5_append 0 = .ok (.aload_n 0, 1) := by decide +kernel
theorem dX5_append_1 : decode cX5_append 1 = .ok (.getfield 9, 3) := by decide +kernel
theorem dX5_append_4 : decode cX5_append 4 = .ok (.aload_n 0, 1) := by decide +kernel
theorem dX5_append_5 : decode cX5_append 5 = .ok (.getfield 24, 3) := by decide +kernel
theorem dX5_append_8 : decode cX5_append 8 = .ok (.arraylength, 1) := by decide +kernel
theorem dX5_append_9 : decode cX5_append 9 = .ok (.if_icmp .lt 5, 3) := by decide +kernel
theorem dX5_append_12 : decode cX5_append 12 = .ok (.iconst 0, 1) := by decide +kernel
theorem dX5_append_13 : decode cX5_append 13 = .ok (.ireturn, 1) := by decide +kernel
theorem dX5_append_14 : decode cX5_append 14 = .ok (.aload_n 0, 1) := by decide +kernel
theorem dX5_append_15 : decode cX5_append 15 = .ok (.getfield 24, 3) := by decide +kernel
theorem dX5_append_18 : decode cX5_append 18 = .ok (.aload_n 0, 1) := by decide +kernel
theorem dX5_append_19 : decode cX5_append 19 = .ok (.getfield 9, 3) := by decide +kernel
theorem dX5_append_22 : decode cX5_append 22 = .ok (.iload_n 1, 1) := by decide +kernel
theorem dX5_append_23 : decode cX5_append 23 = .ok (.invokestatic 34, 3) := by decide +kernel
theorem dX5_append_26 : decode cX5_append 26 = .ok (.aload_n 0, 1) := by decide +kernel
theorem dX5_append_27 : decode cX5_append 27 = .ok (.dup, 1) := by decide +kernel
theorem dX5_append_28 : decode cX5_append 28 = .ok (.getfield 9, 3) := by decide +kernel
theorem dX5_append_31 : decode cX5_append 31 = .ok (.iconst 1, 1) := by decide +kernel
theorem dX5_append_32 : decode cX5_append 32 = .ok (.iadd, 1) := by decide +kernel
theorem dX5_append_33 : decode cX5_append 33 = .ok (.putfield 9, 3) := by decide +kernel
theorem dX5_append_36 : decode cX5_append 36 = .ok (.iconst 1, 1) := by decide +kernel
theorem dX5_append_37 : decode cX5_append 37 = .ok (.ireturn, 1) := by decide +kernel
theorem dX5_empty_0 : decode cX5_empty 0 = .ok (.aload_n 0, 1) := by decide +kernel
theorem dX5_empty_1 : decode cX5_empty 1 = .ok (.getfield 9, 3) := by decide +kernel
theorem dX5_empty_4 : decode cX5_empty 4 = .ok (.istore_n 1, 1) := by decide +kernel
theorem dX5_empty_5 : decode cX5_empty 5 = .ok (.aload_n 0, 1) := by decide +kernel
theorem dX5_empty_6 : decode cX5_empty 6 = .ok (.iconst 0, 1) := by decide +kernel
theorem dX5_empty_7 : decode cX5_empty 7 = .ok (.putfield 9, 3) := by decide +kernel
theorem dX5_empty_10 : decode cX5_empty 10 = .ok (.iload_n 1, 1) := by decide +kernel
theorem dX5_empty_11 : decode cX5_empty 11 = .ok (.ireturn, 1) := by decide +kernel
theorem dX5_readInto_0 : decode cX5_readInto 0 = .ok (.aload_n 0, 1) := by decide +kernel
theorem dX5_readInto_1 : decode cX5_readInto 1 = .ok (.iconst 0, 1) := by decide +kernel
theorem dX5_readInto_2 : decode cX5_readInto 2 = .ok (.putfield 15, 3) := by decide +kernel
theorem dX5_readInto_5 : decode cX5_readInto 5 = .ok (.aload_n 0, 1) := by decide +kernel
theorem dX5_readInto_6 : decode cX5_readInto 6 = .ok (.iconst 0, 1) := by decide +kernel
theorem dX5_readInto_7 : decode cX5_readInto 7 = .ok (.putfield 21, 3) := by decide +kernel
theorem dX5_readInto_10 : decode cX5_readInto 10 = .ok (.aload_n 0, 1) := by decide +kernel
theorem dX5_readInto_11 : decode cX5_readInto 11 = .ok (.iconst (-1), 1) := by decide +kernel
theorem dX5_readInto_12 : decode cX5_readInto 12 = .ok (.putfield 28, 3) := by decide +kernel
theorem dX5_readInto_15 : decode cX5_readInto 15 = .ok (.iconst 0, 1) := by decide +kernel
theorem dX5_readInto_16 : decode cX5_readInto 16 = .ok (.istore_n 2, 1) := by decide +kernel
theorem dX5_readInto_17 : decode cX5_readInto 17 = .ok (.iload_n 2, 1) := by decide +kernel
theorem dX5_readInto_18 : decode cX5_readInto 18 = .ok (.aload_n 0, 1) := by decide +kernel
theorem dX5_readInto_19 : decode cX5_readInto 19 = .ok (.getfield 9, 3) := by decide +kernel
theorem dX5_readInto_22 : decode cX5_readInto 22 = .ok (.if_icmp .ge 38, 3) := by decide +kernel
theorem dX5_readInto_25 : decode cX5_readInto 25 = .ok (.aload_n 0, 1) := by decide +kernel
theorem dX5_readInto_26 : decode cX5_readInto 26 = .ok (.getfield 15, 3) := by decide +kernel
theorem dX5_readInto_29 : decode cX5_readInto 29 = .ok (.ifCond .ne 31, 3) := by decide +kernel
theorem dX5_readInto_32 : decode cX5_readInto 32 = .ok (.aload_n 0, 1) := by decide +kernel
theorem dX5_readInto_33 : decode cX5_readInto 33 = .ok (.iload_n 2, 1) := by decide +kernel
theorem dX5_readInto_34 : decode cX5_readInto 34 = .ok (.putfield 18, 3) := by decide +kernel
theorem dX5_readInto_37 : decode cX5_readInto 37 = .ok (.aload_n 0, 1) := by decide +kernel
theorem dX5_readInto_38 : decode cX5_readInto 38 = .ok (.aload_n 0, 1) := by decide +kernel
theorem dX5_readInto_39 : decode cX5_readInto 39 = .ok (.aload_n 0, 1) := by decide +kernel
theorem dX5_readInto_40 : decode cX5_readInto 40 = .ok (.getfield 24, 3) := by decide +kernel
theorem dX5_readInto_43 : decode cX5_readInto 43 = .ok (.iload_n 2, 1) := by decide +kernel
theorem dX5_readInto_44 : decode cX5_readInto 44 = .ok (.invokestatic 38, 3) := by decide +kernel
theorem dX5_readInto_47 : decode cX5_readInto 47 = .ok (.aload_n 1, 1) := by decide +kernel
theorem dX5_readInto_48 : decode cX5_readInto 48 = .ok (.invokevirtual 42, 3) := by decide +kernel
theorem dX5_readInto_51 : decode cX5_readInto 51 = .ok (.putfield 15, 3) := by decide +kernel
theorem dX5_readInto_54 : decode cX5_readInto 54 = .ok (.iinc 2 1, 3) := by decide +kernel
theorem dX5_readInto_57 : decode cX5_readInto 57 = .ok (.goto (-40), 3) := by decide +kernel
theorem dX5_readInto_60 : decode cX5_readInto 60 = .ok (.aload_n 0, 1) := by decide +kernel
theorem dX5_readInto_61 : decode cX5_readInto 61 = .ok (.getfield 15, 3) := by decide +kernel
theorem dX5_readInto_64 : decode cX5_readInto 64 = .ok (.ifCond .ne 24, 3) := by decide +kernel
theorem dX5_readInto_67 : decode cX5_readInto 67 = .ok (.aload_n 0, 1) := by decide +kernel
theorem dX5_readInto_68 : decode cX5_readInto 68 = .ok (.getfield 28, 3) := by decide +kernel
theorem dX5_readInto_71 : decode cX5_readInto 71 = .ok (.iconst (-1), 1) := by decide +kernel
theorem dX5_readInto_72 : decode cX5_readInto 72 = .ok (.if_icmp .eq 16, 3) := by decide +kernel
theorem dX5_readInto_75 : decode cX5_readInto 75 = .ok (.aload_n 0, 1) := by decide +kernel
theorem dX5_readInto_76 : decode cX5_readInto 76 = .ok (.aload_n 0, 1) := by decide +kernel
theorem dX5_readInto_77 : decode cX5_readInto 77 = .ok (.getfield 9, 3) := by decide +kernel
theorem dX5_readInto_80 : decode cX5_readInto 80 = .ok (.putfield 18, 3) := by decide +kernel
theorem dX5_readInto_83 : decode cX5_readInto 83 = .ok (.aload_n 0, 1) := by decide +kernel
theorem dX5_readInto_84 : decode cX5_readInto 84 = .ok (.iconst 1, 1) := by decide +kernel
theorem dX5_readInto_85 : decode cX5_readInto 85 = .ok (.putfield 15, 3) := by decide +kernel
theorem dX5_readInto_88 : decode cX5_readInto 88 = .ok (.return_, 1) := by decide +kernel
theorem dX5_readSign_0 : decode cX5_readSign 0 = .ok (.aload_n 0, 1) := by decide +kernel
theorem dX5_readSign_1 : decode cX5_readSign 1 = .ok (.getfield 28, 3) := by decide +kernel
theorem dX5_readSign_4 : decode cX5_readSign 4 = .ok (.iconst (-1), 1) := by decide +kernel
theorem dX5_readSign_5 : decode cX5_readSign 5 = .ok (.if_icmp .ne 10, 3) := by decide +kernel
theorem dX5_readSign_8 : decode cX5_readSign 8 = .ok (.aload_n 0, 1) := by decide +kernel
theorem dX5_readSign_9 : decode cX5_readSign 9 = .ok (.iload_n 1, 1) := by decide +kernel
theorem dX5_readSign_10 : decode cX5_readSign 10 = .ok (.aload_n 2, 1) := by decide +kernel
theorem dX5_readSign_11 : decode cX5_readSign 11 = .ok (.invokevirtual 46, 3) := by decide +kernel
theorem dX5_readSign_14 : decode cX5_readSign 14 = .ok (.ireturn, 1) := by decide +kernel
theorem dX5_readSign_15 : decode cX5_readSign 15 = .ok (.iload_n 1, 1) := by decide +kernel
theorem dX5_readSign_16 : decode cX5_readSign 16 = .ok (.bipush 48, 2) := by decide +kernel
theorem dX5_readSign_18 : decode cX5_readSign 18 = .ok (.if_icmp .lt 19, 3) := by decide +kernel
theorem dX5_readSign_21 : decode cX5_readSign 21 = .ok (.iload_n 1, 1) := by decide +kernel
theorem dX5_readSign_22 : decode cX5_readSign 22 = .ok (.bipush 57, 2) := by decide +kernel
theorem dX5_readSign_24 : decode cX5_readSign 24 = .ok (.if_icmp .gt 13, 3) := by decide +kernel
theorem dX5_readSign_27 : decode cX5_readSign 27 = .ok (.aload_n 0, 1) := by decide +kernel
theorem dX5_readSign_28 : decode cX5_readSign 28 = .ok (.iload_n 1, 1) := by decide +kernel
theorem dX5_readSign_29 : decode cX5_readSign 29 = .ok (.bipush 48, 2) := by decide +kernel
theorem dX5_readSign_31 : decode cX5_readSign 31 = .ok (.isub, 1) := by decide +kernel
theorem dX5_readSign_32 : decode cX5_readSign 32 = .ok (.aload_n 2, 1) := by decide +kernel
theorem dX5_readSign_33 : decode cX5_readSign 33 = .ok (.invokevirtual 49, 3) := by decide +kernel
theorem dX5_readSign_36 : decode cX5_readSign 36 = .ok (.ireturn, 1) := by decide +kernel
theorem dX5_readSign_37 : decode cX5_readSign 37 = .ok (.iload_n 1, 1) := by decide +kernel
theorem dX5_readSign_38 : decode cX5_readSign 38 = .ok (.bipush 59, 2) := by decide +kernel
theorem dX5_readSign_40 : decode cX5_readSign 40 = .ok (.if_icmp .ne 10, 3) := by decide +kernel
theorem dX5_readSign_43 : decode cX5_readSign 43 = .ok (.aload_n 0, 1) := by decide +kernel
theorem dX5_readSign_44 : decode cX5_readSign 44 = .ok (.getfield 31, 3) := by decide +kernel
theorem dX5_readSign_47 : decode cX5_readSign 47 = .ok (.ifCond .ne 5, 3) := by decide +kernel
theorem dX5_readSign_50 : decode cX5_readSign 50 = .ok (.iconst 1, 1) := by decide +kernel
theorem dX5_readSign_51 : decode cX5_readSign 51 = .ok (.ireturn, 1) := by decide +kernel
theorem dX5_readSign_52 : decode cX5_readSign 52 = .ok (.aload_n 0, 1) := by decide +kernel
theorem dX5_readSign_53 : decode cX5_readSign 53 = .ok (.iconst (-1), 1) := by decide +kernel
theorem dX5_readSign_54 : decode cX5_readSign 54 = .ok (.putfield 28, 3) := by decide +kernel
theorem dX5_readSign_57 : decode cX5_readSign 57 = .ok (.iconst 0, 1) := by decide +kernel
theorem dX5_readSign_58 : decode cX5_readSign 58 = .ok (.ireturn, 1) := by decide +kernel
theorem dX5_openOrder_0 : decode cX5_openOrder 0 = .ok (.iload_n 1, 1) := by decide +kernel
theorem dX5_openOrder_1 : decode cX5_openOrder 1 = .ok (.bipush 65, 2) := by decide +kernel
theorem dX5_openOrder_3 : decode cX5_openOrder 3 = .ok (.if_icmp .lt 9, 3) := by decide +kernel
theorem dX5_openOrder_6 : decode cX5_openOrder 6 = .ok (.iload_n 1, 1) := by decide +kernel
theorem dX5_openOrder_7 : decode cX5_openOrder 7 = .ok (.bipush 70, 2) := by decide +kernel
theorem dX5_openOrder_9 : decode cX5_openOrder 9 = .ok (.if_icmp .lt 5, 3) := by decide +kernel
theorem dX5_openOrder_12 : decode cX5_openOrder 12 = .ok (.iconst 1, 1) := by decide +kernel
theorem dX5_openOrder_13 : decode cX5_openOrder 13 = .ok (.ireturn, 1) := by decide +kernel
theorem dX5_openOrder_14 : decode cX5_openOrder 14 = .ok (.aload_n 2, 1) := by decide +kernel
theorem dX5_openOrder_15 : decode cX5_openOrder 15 = .ok (.iload_n 1, 1) := by decide +kernel
theorem dX5_openOrder_16 : decode cX5_openOrder 16 = .ok (.bipush 65, 2) := by decide +kernel
theorem dX5_openOrder_18 : decode cX5_openOrder 18 = .ok (.isub, 1) := by decide +kernel
theorem dX5_openOrder_19 : decode cX5_openOrder 19 = .ok (.invokevirtual 52, 3) := by decide +kernel
theorem dX5_openOrder_22 : decode cX5_openOrder 22 = .ok (.ifnonnull 5, 3) := by decide +kernel
theorem dX5_openOrder_25 : decode cX5_openOrder 25 = .ok (.iconst 2, 1) := by decide +kernel
theorem dX5_openOrder_26 : decode cX5_openOrder 26 = .ok (.ireturn, 1) := by decide +kernel
theorem dX5_openOrder_27 : decode cX5_openOrder 27 = .ok (.aload_n 0, 1) := by decide +kernel
theorem dX5_openOrder_28 : decode cX5_openOrder 28 = .ok (.iload_n 1, 1) := by decide +kernel
theorem dX5_openOrder_29 : decode cX5_openOrder 29 = .ok (.bipush 65, 2) := by decide +kernel
theorem dX5_openOrder_31 : decode cX5_openOrder 31 = .ok (.isub, 1) := by decide +kernel
theorem dX5_openOrder_32 : decode cX5_openOrder 32 = .ok (.putfield 28, 3) := by decide +kernel
theorem dX5_openOrder_35 : decode cX5_openOrder 35 = .ok (.aload_n 0, 1) := by decide +kernel
theorem dX5_openOrder_36 : decode cX5_openOrder 36 = .ok (.iconst 0, 1) := by decide +kernel
theorem dX5_openOrder_37 : decode cX5_openOrder 37 = .ok (.putfield 31, 3) := by decide +kernel
theorem dX5_openOrder_40 : decode cX5_openOrder 40 = .ok (.iconst 0, 1) := by decide +kernel
theorem dX5_openOrder_41 : decode cX5_openOrder 41 = .ok (.ireturn, 1) := by decide +kernel
theorem dX5_readTurn_0 : decode cX5_readTurn 0 = .ok (.aload_n 2, 1) := by decide +kernel
theorem dX5_readTurn_1 : decode cX5_readTurn 1 = .ok (.aload_n 0, 1) := by decide +kernel
theorem dX5_readTurn_2 : decode cX5_readTurn 2 = .ok (.getfield 28, 3) := by decide +kernel
theorem dX5_readTurn_5 : decode cX5_readTurn 5 = .ok (.iload_n 1, 1) := by decide +kernel
theorem dX5_readTurn_6 : decode cX5_readTurn 6 = .ok (.invokevirtual 58, 3) := by decide +kernel
theorem dX5_readTurn_9 : decode cX5_readTurn 9 = .ok (.ifCond .ne 5, 3) := by decide +kernel
theorem dX5_readTurn_12 : decode cX5_readTurn 12 = .ok (.iconst 3, 1) := by decide +kernel
theorem dX5_readTurn_13 : decode cX5_readTurn 13 = .ok (.ireturn, 1) := by decide +kernel
theorem dX5_readTurn_14 : decode cX5_readTurn 14 = .ok (.aload_n 0, 1) := by decide +kernel
theorem dX5_readTurn_15 : decode cX5_readTurn 15 = .ok (.dup, 1) := by decide +kernel
theorem dX5_readTurn_16 : decode cX5_readTurn 16 = .ok (.getfield 31, 3) := by decide +kernel
theorem dX5_readTurn_19 : decode cX5_readTurn 19 = .ok (.iconst 1, 1) := by decide +kernel
theorem dX5_readTurn_20 : decode cX5_readTurn 20 = .ok (.iadd, 1) := by decide +kernel
theorem dX5_readTurn_21 : decode cX5_readTurn 21 = .ok (.putfield 31, 3) := by decide +kernel
theorem dX5_readTurn_24 : decode cX5_readTurn 24 = .ok (.aload_n 0, 1) := by decide +kernel
theorem dX5_readTurn_25 : decode cX5_readTurn 25 = .ok (.dup, 1) := by decide +kernel
theorem dX5_readTurn_26 : decode cX5_readTurn 26 = .ok (.getfield 21, 3) := by decide +kernel
theorem dX5_readTurn_29 : decode cX5_readTurn 29 = .ok (.iconst 1, 1) := by decide +kernel
theorem dX5_readTurn_30 : decode cX5_readTurn 30 = .ok (.iadd, 1) := by decide +kernel
theorem dX5_readTurn_31 : decode cX5_readTurn 31 = .ok (.putfield 21, 3) := by decide +kernel
theorem dX5_readTurn_34 : decode cX5_readTurn 34 = .ok (.iconst 0, 1) := by decide +kernel
theorem dX5_readTurn_35 : decode cX5_readTurn 35 = .ok (.ireturn, 1) := by decide +kernel
theorem dX6_init_0 : decode cX6_init 0 = .ok (.aload_n 0, 1) := by decide +kernel
theorem dX6_init_1 : decode cX6_init 1 = .ok (.invokespecial 1, 3) := by decide +kernel
theorem dX6_init_4 : decode cX6_init 4 = .ok (.aload_n 0, 1) := by decide +kernel
theorem dX6_init_5 : decode cX6_init 5 = .ok (.new 7, 3) := by decide +kernel
theorem dX6_init_8 : decode cX6_init 8 = .ok (.dup, 1) := by decide +kernel
theorem dX6_init_9 : decode cX6_init 9 = .ok (.invokespecial 9, 3) := by decide +kernel
theorem dX6_init_12 : decode cX6_init 12 = .ok (.putfield 10, 3) := by decide +kernel
theorem dX6_init_15 : decode cX6_init 15 = .ok (.aload_n 0, 1) := by decide +kernel
theorem dX6_init_16 : decode cX6_init 16 = .ok (.new 16, 3) := by decide +kernel
theorem dX6_init_19 : decode cX6_init 19 = .ok (.dup, 1) := by decide +kernel
theorem dX6_init_20 : decode cX6_init 20 = .ok (.invokespecial 18, 3) := by decide +kernel
theorem dX6_init_23 : decode cX6_init 23 = .ok (.putfield 19, 3) := by decide +kernel
theorem dX6_init_26 : decode cX6_init 26 = .ok (.aload_n 0, 1) := by decide +kernel
theorem dX6_init_27 : decode cX6_init 27 = .ok (.new 23, 3) := by decide +kernel
theorem dX6_init_30 : decode cX6_init 30 = .ok (.dup, 1) := by decide +kernel
theorem dX6_init_31 : decode cX6_init 31 = .ok (.invokespecial 25, 3) := by decide +kernel
theorem dX6_init_34 : decode cX6_init 34 = .ok (.putfield 26, 3) := by decide +kernel
theorem dX6_init_37 : decode cX6_init 37 = .ok (.aload_n 0, 1) := by decide +kernel
theorem dX6_init_38 : decode cX6_init 38 = .ok (.new 23, 3) := by decide +kernel
theorem dX6_init_41 : decode cX6_init 41 = .ok (.dup, 1) := by decide +kernel
theorem dX6_init_42 : decode cX6_init 42 = .ok (.invokespecial 25, 3) := by decide +kernel
theorem dX6_init_45 : decode cX6_init 45 = .ok (.putfield 30, 3) := by decide +kernel
theorem dX6_init_48 : decode cX6_init 48 = .ok (.aload_n 0, 1) := by decide +kernel
theorem dX6_init_49 : decode cX6_init 49 = .ok (.iconst 4, 1) := by decide +kernel
theorem dX6_init_50 : decode cX6_init 50 = .ok (.anewarray 23, 3) := by decide +kernel
theorem dX6_init_53 : decode cX6_init 53 = .ok (.putfield 33, 3) := by decide +kernel
theorem dX6_init_56 : decode cX6_init 56 = .ok (.aload_n 0, 1) := by decide +kernel
theorem dX6_init_57 : decode cX6_init 57 = .ok (.iconst 0, 1) := by decide +kernel
theorem dX6_init_58 : decode cX6_init 58 = .ok (.putfield 37, 3) := by decide +kernel
theorem dX6_init_61 : decode cX6_init 61 = .ok (.iconst 0, 1) := by decide +kernel
theorem dX6_init_62 : decode cX6_init 62 = .ok (.istore_n 1, 1) := by decide +kernel
theorem dX6_init_63 : decode cX6_init 63 = .ok (.iload_n 1, 1) := by decide +kernel
theorem dX6_init_64 : decode cX6_init 64 = .ok (.aload_n 0, 1) := by decide +kernel
theorem dX6_init_65 : decode cX6_init 65 = .ok (.getfield 33, 3) := by decide +kernel
theorem dX6_init_68 : decode cX6_init 68 = .ok (.arraylength, 1) := by decide +kernel
theorem dX6_init_69 : decode cX6_init 69 = .ok (.if_icmp .ge 22, 3) := by decide +kernel
theorem dX6_init_72 : decode cX6_init 72 = .ok (.aload_n 0, 1) := by decide +kernel
theorem dX6_init_73 : decode cX6_init 73 = .ok (.getfield 33, 3) := by decide +kernel
theorem dX6_init_76 : decode cX6_init 76 = .ok (.iload_n 1, 1) := by decide +kernel
theorem dX6_init_77 : decode cX6_init 77 = .ok (.new 23, 3) := by decide +kernel
theorem dX6_init_80 : decode cX6_init 80 = .ok (.dup, 1) := by decide +kernel
theorem dX6_init_81 : decode cX6_init 81 = .ok (.invokespecial 25, 3) := by decide +kernel
theorem dX6_init_84 : decode cX6_init 84 = .ok (.aastore, 1) := by decide +kernel
theorem dX6_init_85 : decode cX6_init 85 = .ok (.iinc 1 1, 3) := by decide +kernel
theorem dX6_init_88 : decode cX6_init 88 = .ok (.goto (-25), 3) := by decide +kernel
theorem dX6_init_91 : decode cX6_init 91 = .ok (.return_, 1) := by decide +kernel
theorem dX6_stack_0 : decode cX6_stack 0 = .ok (.aload_n 0, 1) := by decide +kernel
theorem dX6_stack_1 : decode cX6_stack 1 = .ok (.getfield 10, 3) := by decide +kernel
theorem dX6_stack_4 : decode cX6_stack 4 = .ok (.iload_n 1, 1) := by decide +kernel
theorem dX6_stack_5 : decode cX6_stack 5 = .ok (.iload_n 2, 1) := by decide +kernel
theorem dX6_stack_6 : decode cX6_stack 6 = .ok (.iload_n 3, 1) := by decide +kernel
theorem dX6_stack_7 : decode cX6_stack 7 = .ok (.invokevirtual 41, 3) := by decide +kernel
theorem dX6_stack_10 : decode cX6_stack 10 = .ok (.astore 4, 2) := by decide +kernel
theorem dX6_stack_12 : decode cX6_stack 12 = .ok (.aload 4, 2) := by decide +kernel
theorem dX6_stack_14 : decode cX6_stack 14 = .ok (.ifnonnull 6, 3) := by decide +kernel
theorem dX6_stack_17 : decode cX6_stack 17 = .ok (.ldc 45, 2) := by decide +kernel
theorem dX6_stack_19 : decode cX6_stack 19 = .ok (.ireturn, 1) := by decide +kernel
theorem dX6_stack_20 : decode cX6_stack 20 = .ok (.aload_n 0, 1) := by decide +kernel
theorem dX6_stack_21 : decode cX6_stack 21 = .ok (.getfield 30, 3) := by decide +kernel
theorem dX6_stack_24 : decode cX6_stack 24 = .ok (.aload_n 0, 1) := by decide +kernel
theorem dX6_stack_25 : decode cX6_stack 25 = .ok (.getfield 26, 3) := by decide +kernel
theorem dX6_stack_28 : decode cX6_stack 28 = .ok (.invokevirtual 46, 3) := by decide +kernel
theorem dX6_stack_31 : decode cX6_stack 31 = .ok (.aload_n 0, 1) := by decide +kernel
theorem dX6_stack_32 : decode cX6_stack 32 = .ok (.getfield 30, 3) := by decide +kernel
theorem dX6_stack_35 : decode cX6_stack 35 = .ok (.aload 4, 2) := by decide +kernel
theorem dX6_stack_37 : decode cX6_stack 37 = .ok (.invokevirtual 50, 3) := by decide +kernel
theorem dX6_stack_40 : decode cX6_stack 40 = .ok (.istore 5, 2) := by decide +kernel
theorem dX6_stack_42 : decode cX6_stack 42 = .ok (.iload 5, 2) := by decide +kernel
theorem dX6_stack_44 : decode cX6_stack 44 = .ok (.iconst (-1), 1) := by decide +kernel
theorem dX6_stack_45 : decode cX6_stack 45 = .ok (.if_icmp .ne 6, 3) := by decide +kernel
theorem dX6_stack_48 : decode cX6_stack 48 = .ok (.ldc 54, 2) := by decide +kernel
theorem dX6_stack_50 : decode cX6_stack 50 = .ok (.ireturn, 1) := by decide +kernel
theorem dX6_stack_51 : decode cX6_stack 51 = .ok (.aload_n 0, 1) := by decide +kernel
theorem dX6_stack_52 : decode cX6_stack 52 = .ok (.invokevirtual 55, 3) := by decide +kernel
theorem dX6_stack_55 : decode cX6_stack 55 = .ok (.iload 5, 2) := by decide +kernel
theorem dX6_stack_57 : decode cX6_stack 57 = .ok (.ireturn, 1) := by decide +kernel
theorem dX6_lay_0 : decode cX6_lay 0 = .ok (.aload_n 0, 1) := by decide +kernel
theorem dX6_lay_1 : decode cX6_lay 1 = .ok (.getfield 26, 3) := by decide +kernel
theorem dX6_lay_4 : decode cX6_lay 4 = .ok (.iload_n 1, 1) := by decide +kernel
theorem dX6_lay_5 : decode cX6_lay 5 = .ok (.invokevirtual 58, 3) := by decide +kernel
theorem dX6_lay_8 : decode cX6_lay 8 = .ok (.astore 4, 2) := by decide +kernel
theorem dX6_lay_10 : decode cX6_lay 10 = .ok (.aload 4, 2) := by decide +kernel
theorem dX6_lay_12 : decode cX6_lay 12 = .ok (.ifnonnull 6, 3) := by decide +kernel
theorem dX6_lay_15 : decode cX6_lay 15 = .ok (.ldc 45, 2) := by decide +kernel
theorem dX6_lay_17 : decode cX6_lay 17 = .ok (.ireturn, 1) := by decide +kernel
theorem dX6_lay_18 : decode cX6_lay 18 = .ok (.aload 4, 2) := by decide +kernel
theorem dX6_lay_20 : decode cX6_lay 20 = .ok (.getfield 62, 3) := by decide +kernel
theorem dX6_lay_23 : decode cX6_lay 23 = .ok (.iload_n 2, 1) := by decide +kernel
theorem dX6_lay_24 : decode cX6_lay 24 = .ok (.iload_n 3, 1) := by decide +kernel
theorem dX6_lay_25 : decode cX6_lay 25 = .ok (.invokevirtual 68, 3) := by decide +kernel
theorem dX6_lay_28 : decode cX6_lay 28 = .ok (.istore 5, 2) := by decide +kernel
theorem dX6_lay_30 : decode cX6_lay 30 = .ok (.iload 5, 2) := by decide +kernel
theorem dX6_lay_32 : decode cX6_lay 32 = .ok (.iconst (-1), 1) := by decide +kernel
theorem dX6_lay_33 : decode cX6_lay 33 = .ok (.if_icmp .ne 6, 3) := by decide +kernel
theorem dX6_lay_36 : decode cX6_lay 36 = .ok (.ldc 45, 2) := by decide +kernel
theorem dX6_lay_38 : decode cX6_lay 38 = .ok (.ireturn, 1) := by decide +kernel
theorem dX6_lay_39 : decode cX6_lay 39 = .ok (.aload_n 0, 1) := by decide +kernel
theorem dX6_lay_40 : decode cX6_lay 40 = .ok (.getfield 30, 3) := by decide +kernel
theorem dX6_lay_43 : decode cX6_lay 43 = .ok (.aload_n 0, 1) := by decide +kernel
theorem dX6_lay_44 : decode cX6_lay 44 = .ok (.getfield 26, 3) := by decide +kernel
theorem dX6_lay_47 : decode cX6_lay 47 = .ok (.invokevirtual 46, 3) := by decide +kernel
theorem dX6_lay_50 : decode cX6_lay 50 = .ok (.aload_n 0, 1) := by decide +kernel
theorem dX6_lay_51 : decode cX6_lay 51 = .ok (.getfield 30, 3) := by decide +kernel
theorem dX6_lay_54 : decode cX6_lay 54 = .ok (.iload_n 1, 1) := by decide +kernel
theorem dX6_lay_55 : decode cX6_lay 55 = .ok (.iload 5, 2) := by decide +kernel
theorem dX6_lay_57 : decode cX6_lay 57 = .ok (.invokevirtual 74, 3) := by decide +kernel
theorem dX6_lay_60 : decode cX6_lay 60 = .ok (.aload_n 0, 1) := by decide +kernel
theorem dX6_lay_61 : decode cX6_lay 61 = .ok (.invokevirtual 55, 3) := by decide +kernel
theorem dX6_lay_64 : decode cX6_lay 64 = .ok (.aload 4, 2) := by decide +kernel
theorem dX6_lay_66 : decode cX6_lay 66 = .ok (.getfield 62, 3) := by decide +kernel
theorem dX6_lay_69 : decode cX6_lay 69 = .ok (.iload 5, 2) := by decide +kernel
theorem dX6_lay_71 : decode cX6_lay 71 = .ok (.invokevirtual 78, 3) := by decide +kernel
theorem dX6_lay_74 : decode cX6_lay 74 = .ok (.ireturn, 1) := by decide +kernel
theorem dX6_turn_0 : decode cX6_turn 0 = .ok (.aload_n 0, 1) := by decide +kernel
theorem dX6_turn_1 : decode cX6_turn 1 = .ok (.getfield 26, 3) := by decide +kernel
theorem dX6_turn_4 : decode cX6_turn 4 = .ok (.iload_n 1, 1) := by decide +kernel
theorem dX6_turn_5 : decode cX6_turn 5 = .ok (.invokevirtual 58, 3) := by decide +kernel
theorem dX6_turn_8 : decode cX6_turn 8 = .ok (.astore_n 3, 1) := by decide +kernel
theorem dX6_turn_9 : decode cX6_turn 9 = .ok (.aload_n 3, 1) := by decide +kernel
theorem dX6_turn_10 : decode cX6_turn 10 = .ok (.ifnull 16, 3) := by decide +kernel
theorem dX6_turn_13 : decode cX6_turn 13 = .ok (.iload_n 2, 1) := by decide +kernel
theorem dX6_turn_14 : decode cX6_turn 14 = .ok (.iconst 1, 1) := by decide +kernel
theorem dX6_turn_15 : decode cX6_turn 15 = .ok (.if_icmp .lt 11, 3) := by decide +kernel
theorem dX6_turn_18 : decode cX6_turn 18 = .ok (.iload_n 2, 1) := by decide +kernel
theorem dX6_turn_19 : decode cX6_turn 19 = .ok (.aload_n 3, 1) := by decide +kernel
theorem dX6_turn_20 : decode cX6_turn 20 = .ok (.getfield 82, 3) := by decide +kernel
theorem dX6_turn_23 : decode cX6_turn 23 = .ok (.if_icmp .le 6, 3) := by decide +kernel
theorem dX6_turn_26 : decode cX6_turn 26 = .ok (.ldc 45, 2) := by decide +kernel
theorem dX6_turn_28 : decode cX6_turn 28 = .ok (.ireturn, 1) := by decide +kernel
theorem dX6_turn_29 : decode cX6_turn 29 = .ok (.aload_n 0, 1) := by decide +kernel
theorem dX6_turn_30 : decode cX6_turn 30 = .ok (.getfield 30, 3) := by decide +kernel
theorem dX6_turn_33 : decode cX6_turn 33 = .ok (.aload_n 0, 1) := by decide +kernel
theorem dX6_turn_34 : decode cX6_turn 34 = .ok (.getfield 26, 3) := by decide +kernel
theorem dX6_turn_37 : decode cX6_turn 37 = .ok (.invokevirtual 46, 3) := by decide +kernel
theorem dX6_turn_40 : decode cX6_turn 40 = .ok (.aload_n 0, 1) := by decide +kernel
theorem dX6_turn_41 : decode cX6_turn 41 = .ok (.getfield 30, 3) := by decide +kernel
theorem dX6_turn_44 : decode cX6_turn 44 = .ok (.iload_n 1, 1) := by decide +kernel
theorem dX6_turn_45 : decode cX6_turn 45 = .ok (.iload_n 2, 1) := by decide +kernel
theorem dX6_turn_46 : decode cX6_turn 46 = .ok (.invokevirtual 85, 3) := by decide +kernel
theorem dX6_turn_49 : decode cX6_turn 49 = .ok (.ifCond .ne 6, 3) := by decide +kernel
theorem dX6_turn_52 : decode cX6_turn 52 = .ok (.ldc 89, 2) := by decide +kernel
theorem dX6_turn_54 : decode cX6_turn 54 = .ok (.ireturn, 1) := by decide +kernel
theorem dX6_turn_55 : decode cX6_turn 55 = .ok (.aload_n 0, 1) := by decide +kernel
theorem dX6_turn_56 : decode cX6_turn 56 = .ok (.invokevirtual 55, 3) := by decide +kernel
theorem dX6_turn_59 : decode cX6_turn 59 = .ok (.aload_n 3, 1) := by decide +kernel
theorem dX6_turn_60 : decode cX6_turn 60 = .ok (.getfield 62, 3) := by decide +kernel
theorem dX6_turn_63 : decode cX6_turn 63 = .ok (.aload_n 0, 1) := by decide +kernel
theorem dX6_turn_64 : decode cX6_turn 64 = .ok (.getfield 26, 3) := by decide +kernel
theorem dX6_turn_67 : decode cX6_turn 67 = .ok (.iload_n 1, 1) := by decide +kernel
theorem dX6_turn_68 : decode cX6_turn 68 = .ok (.invokevirtual 90, 3) := by decide +kernel
theorem dX6_turn_71 : decode cX6_turn 71 = .ok (.invokevirtual 78, 3) := by decide +kernel
theorem dX6_turn_74 : decode cX6_turn 74 = .ok (.ireturn, 1) := by decide +kernel
theorem dX6_doRow_0 : decode cX6_doRow 0 = .ok (.aload_n 0, 1) := by decide +kernel
theorem dX6_doRow_1 : decode cX6_doRow 1 = .ok (.getfield 26, 3) := by decide +kernel
theorem dX6_doRow_4 : decode cX6_doRow 4 = .ok (.iload_n 1, 1) := by decide +kernel
theorem dX6_doRow_5 : decode cX6_doRow 5 = .ok (.invokevirtual 58, 3) := by decide +kernel
theorem dX6_doRow_8 : decode cX6_doRow 8 = .ok (.astore_n 3, 1) := by decide +kernel
theorem dX6_doRow_9 : decode cX6_doRow 9 = .ok (.aload_n 3, 1) := by decide +kernel
theorem dX6_doRow_10 : decode cX6_doRow 10 = .ok (.ifnull 14, 3) := by decide +kernel
theorem dX6_doRow_13 : decode cX6_doRow 13 = .ok (.iload_n 2, 1) := by decide +kernel
theorem dX6_doRow_14 : decode cX6_doRow 14 = .ok (.iconst 1, 1) := by decide +kernel
theorem dX6_doRow_15 : decode cX6_doRow 15 = .ok (.if_icmp .lt 9, 3) := by decide +kernel
theorem dX6_doRow_18 : decode cX6_doRow 18 = .ok (.iload_n 2, 1) := by decide +kernel
theorem dX6_doRow_19 : decode cX6_doRow 19 = .ok (.ldc 92, 2) := by decide +kernel
theorem dX6_doRow_21 : decode cX6_doRow 21 = .ok (.if_icmp .le 6, 3) := by decide +kernel
theorem dX6_doRow_24 : decode cX6_doRow 24 = .ok (.ldc 45, 2) := by decide +kernel
theorem dX6_doRow_26 : decode cX6_doRow 26 = .ok (.ireturn, 1) := by decide +kernel
theorem dX6_doRow_27 : decode cX6_doRow 27 = .ok (.aload_n 0, 1) := by decide +kernel
theorem dX6_doRow_28 : decode cX6_doRow 28 = .ok (.getfield 30, 3) := by decide +kernel
theorem dX6_doRow_31 : decode cX6_doRow 31 = .ok (.aload_n 0, 1) := by decide +kernel
theorem dX6_doRow_32 : decode cX6_doRow 32 = .ok (.getfield 26, 3) := by decide +kernel
theorem dX6_doRow_35 : decode cX6_doRow 35 = .ok (.invokevirtual 46, 3) := by decide +kernel
theorem dX6_doRow_38 : decode cX6_doRow 38 = .ok (.aload_n 0, 1) := by decide +kernel
theorem dX6_doRow_39 : decode cX6_doRow 39 = .ok (.getfield 30, 3) := by decide +kernel
theorem dX6_doRow_42 : decode cX6_doRow 42 = .ok (.iload_n 1, 1) := by decide +kernel
theorem dX6_doRow_43 : decode cX6_doRow 43 = .ok (.iload_n 2, 1) := by decide +kernel
theorem dX6_doRow_44 : decode cX6_doRow 44 = .ok (.invokevirtual 93, 3) := by decide +kernel
theorem dX6_doRow_47 : decode cX6_doRow 47 = .ok (.ifCond .ne 6, 3) := by decide +kernel
theorem dX6_doRow_50 : decode cX6_doRow 50 = .ok (.ldc 89, 2) := by decide +kernel
theorem dX6_doRow_52 : decode cX6_doRow 52 = .ok (.ireturn, 1) := by decide +kernel
theorem dX6_doRow_53 : decode cX6_doRow 53 = .ok (.aload_n 0, 1) := by decide +kernel
theorem dX6_doRow_54 : decode cX6_doRow 54 = .ok (.invokevirtual 55, 3) := by decide +kernel
theorem dX6_doRow_57 : decode cX6_doRow 57 = .ok (.aload_n 3, 1) := by decide +kernel
theorem dX6_doRow_58 : decode cX6_doRow 58 = .ok (.getfield 62, 3) := by decide +kernel
theorem dX6_doRow_61 : decode cX6_doRow 61 = .ok (.aload_n 0, 1) := by decide +kernel
theorem dX6_doRow_62 : decode cX6_doRow 62 = .ok (.getfield 26, 3) := by decide +kernel
theorem dX6_doRow_65 : decode cX6_doRow 65 = .ok (.iload_n 1, 1) := by decide +kernel
theorem dX6_doRow_66 : decode cX6_doRow 66 = .ok (.invokevirtual 90, 3) := by decide +kernel
theorem dX6_doRow_69 : decode cX6_doRow 69 = .ok (.invokevirtual 78, 3) := by decide +kernel
theorem dX6_doRow_72 : decode cX6_doRow 72 = .ok (.ireturn, 1) := by decide +kernel
theorem dX6_stackOf_0 : decode cX6_stackOf 0 = .ok (.aload_n 0, 1) := by decide +kernel
theorem dX6_stackOf_1 : decode cX6_stackOf 1 = .ok (.getfield 26, 3) := by decide +kernel
theorem dX6_stackOf_4 : decode cX6_stackOf 4 = .ok (.iload_n 1, 1) := by decide +kernel
theorem dX6_stackOf_5 : decode cX6_stackOf 5 = .ok (.invokevirtual 58, 3) := by decide +kernel
theorem dX6_stackOf_8 : decode cX6_stackOf 8 = .ok (.astore_n 3, 1) := by decide +kernel
theorem dX6_stackOf_9 : decode cX6_stackOf 9 = .ok (.aload_n 3, 1) := by decide +kernel
theorem dX6_stackOf_10 : decode cX6_stackOf 10 = .ok (.ifnonnull 6, 3) := by decide +kernel
theorem dX6_stackOf_13 : decode cX6_stackOf 13 = .ok (.ldc 45, 2) := by decide +kernel
theorem dX6_stackOf_15 : decode cX6_stackOf 15 = .ok (.ireturn, 1) := by decide +kernel
theorem dX6_stackOf_16 : decode cX6_stackOf 16 = .ok (.aload_n 0, 1) := by decide +kernel
theorem dX6_stackOf_17 : decode cX6_stackOf 17 = .ok (.getfield 26, 3) := by decide +kernel
theorem dX6_stackOf_20 : decode cX6_stackOf 20 = .ok (.iload_n 1, 1) := by decide +kernel
theorem dX6_stackOf_21 : decode cX6_stackOf 21 = .ok (.invokevirtual 90, 3) := by decide +kernel
theorem dX6_stackOf_24 : decode cX6_stackOf 24 = .ok (.istore 4, 2) := by decide +kernel
theorem dX6_stackOf_26 : decode cX6_stackOf 26 = .ok (.iload_n 2, 1) := by decide +kernel
theorem dX6_stackOf_27 : decode cX6_stackOf 27 = .ok (.tableswitch 128 0 9 #[53, 58, 63, 68, 78, 88, 98, 109, 112, 119], 53) := by decide +kernel
theorem dX6_stackOf_80 : decode cX6_stackOf 80 = .ok (.aload_n 3, 1) := by decide +kernel
theorem dX6_stackOf_81 : decode cX6_stackOf 81 = .ok (.getfield 96, 3) := by decide +kernel
theorem dX6_stackOf_84 : decode cX6_stackOf 84 = .ok (.ireturn, 1) := by decide +kernel
theorem dX6_stackOf_85 : decode cX6_stackOf 85 = .ok (.aload_n 3, 1) := by decide +kernel
theorem dX6_stackOf_86 : decode cX6_stackOf 86 = .ok (.getfield 82, 3) := by decide +kernel
theorem dX6_stackOf_89 : decode cX6_stackOf 89 = .ok (.ireturn, 1) := by decide +kernel
theorem dX6_stackOf_90 : decode cX6_stackOf 90 = .ok (.aload_n 3, 1) := by decide +kernel
theorem dX6_stackOf_91 : decode cX6_stackOf 91 = .ok (.getfield 99, 3) := by decide +kernel
theorem dX6_stackOf_94 : decode cX6_stackOf 94 = .ok (.ireturn, 1) := by decide +kernel
theorem dX6_stackOf_95 : decode cX6_stackOf 95 = .ok (.aload_n 3, 1) := by decide +kernel
theorem dX6_stackOf_96 : decode cX6_stackOf 96 = .ok (.getfield 62, 3) := by decide +kernel
theorem dX6_stackOf_99 : decode cX6_stackOf 99 = .ok (.iload 4, 2) := by decide +kernel
theorem dX6_stackOf_101 : decode cX6_stackOf 101 = .ok (.invokevirtual 102, 3) := by decide +kernel
theorem dX6_stackOf_104 : decode cX6_stackOf 104 = .ok (.ireturn, 1) := by decide +kernel
theorem dX6_stackOf_105 : decode cX6_stackOf 105 = .ok (.aload_n 3, 1) := by decide +kernel
theorem dX6_stackOf_106 : decode cX6_stackOf 106 = .ok (.getfield 62, 3) := by decide +kernel
theorem dX6_stackOf_109 : decode cX6_stackOf 109 = .ok (.iload 4, 2) := by decide +kernel
theorem dX6_stackOf_111 : decode cX6_stackOf 111 = .ok (.invokevirtual 105, 3) := by decide +kernel
theorem dX6_stackOf_114 : decode cX6_stackOf 114 = .ok (.ireturn, 1) := by decide +kernel
theorem dX6_stackOf_115 : decode cX6_stackOf 115 = .ok (.aload_n 3, 1) := by decide +kernel
theorem dX6_stackOf_116 : decode cX6_stackOf 116 = .ok (.getfield 62, 3) := by decide +kernel
theorem dX6_stackOf_119 : decode cX6_stackOf 119 = .ok (.iload 4, 2) := by decide +kernel
theorem dX6_stackOf_121 : decode cX6_stackOf 121 = .ok (.invokevirtual 78, 3) := by decide +kernel
theorem dX6_stackOf_124 : decode cX6_stackOf 124 = .ok (.ireturn, 1) := by decide +kernel
theorem dX6_stackOf_125 : decode cX6_stackOf 125 = .ok (.iload 4, 2) := by decide +kernel
theorem dX6_stackOf_127 : decode cX6_stackOf 127 = .ok (.ifCond .ne 7, 3) := by decide +kernel
theorem dX6_stackOf_130 : decode cX6_stackOf 130 = .ok (.iconst 1, 1) := by decide +kernel
theorem dX6_stackOf_131 : decode cX6_stackOf 131 = .ok (.goto 4, 3) := by decide +kernel
theorem dX6_stackOf_134 : decode cX6_stackOf 134 = .ok (.iconst 0, 1) := by decide +kernel
theorem dX6_stackOf_135 : decode cX6_stackOf 135 = .ok (.ireturn, 1) := by decide +kernel
theorem dX6_stackOf_136 : decode cX6_stackOf 136 = .ok (.iload 4, 2) := by decide +kernel
theorem dX6_stackOf_138 : decode cX6_stackOf 138 = .ok (.ireturn, 1) := by decide +kernel
theorem dX6_stackOf_139 : decode cX6_stackOf 139 = .ok (.aload_n 3, 1) := by decide +kernel
theorem dX6_stackOf_140 : decode cX6_stackOf 140 = .ok (.iload 4, 2) := by decide +kernel
theorem dX6_stackOf_142 : decode cX6_stackOf 142 = .ok (.invokevirtual 108, 3) := by decide +kernel
theorem dX6_stackOf_145 : decode cX6_stackOf 145 = .ok (.ireturn, 1) := by decide +kernel
theorem dX6_stackOf_146 : decode cX6_stackOf 146 = .ok (.aload_n 0, 1) := by decide +kernel
theorem dX6_stackOf_147 : decode cX6_stackOf 147 = .ok (.getfield 26, 3) := by decide +kernel
theorem dX6_stackOf_150 : decode cX6_stackOf 150 = .ok (.iload_n 1, 1) := by decide +kernel
theorem dX6_stackOf_151 : decode cX6_stackOf 151 = .ok (.invokevirtual 111, 3) := by decide +kernel
theorem dX6_stackOf_154 : decode cX6_stackOf 154 = .ok (.ireturn, 1) := by decide +kernel
theorem dX6_stackOf_155 : decode cX6_stackOf 155 = .ok (.ldc 45, 2) := by decide +kernel
theorem dX6_stackOf_157 : decode cX6_stackOf 157 = .ok (.ireturn, 1) := by decide +kernel
theorem dX6_cakeAt_0 : decode cX6_cakeAt 0 = .ok (.aload_n 0, 1) := by decide +kernel
theorem dX6_cakeAt_1 : decode cX6_cakeAt 1 = .ok (.getfield 26, 3) := by decide +kernel
theorem dX6_cakeAt_4 : decode cX6_cakeAt 4 = .ok (.iload_n 1, 1) := by decide +kernel
theorem dX6_cakeAt_5 : decode cX6_cakeAt 5 = .ok (.invokevirtual 58, 3) := by decide +kernel
theorem dX6_cakeAt_8 : decode cX6_cakeAt 8 = .ok (.astore_n 3, 1) := by decide +kernel
theorem dX6_cakeAt_9 : decode cX6_cakeAt 9 = .ok (.aload_n 3, 1) := by decide +kernel
theorem dX6_cakeAt_10 : decode cX6_cakeAt 10 = .ok (.ifnull 15, 3) := by decide +kernel
theorem dX6_cakeAt_13 : decode cX6_cakeAt 13 = .ok (.iload_n 2, 1) := by decide +kernel
theorem dX6_cakeAt_14 : decode cX6_cakeAt 14 = .ok (.ifCond .lt 11, 3) := by decide +kernel
theorem dX6_cakeAt_17 : decode cX6_cakeAt 17 = .ok (.iload_n 2, 1) := by decide +kernel
theorem dX6_cakeAt_18 : decode cX6_cakeAt 18 = .ok (.aload_n 3, 1) := by decide +kernel
theorem dX6_cakeAt_19 : decode cX6_cakeAt 19 = .ok (.getfield 82, 3) := by decide +kernel
theorem dX6_cakeAt_22 : decode cX6_cakeAt 22 = .ok (.if_icmp .lt 6, 3) := by decide +kernel
theorem dX6_cakeAt_25 : decode cX6_cakeAt 25 = .ok (.ldc 45, 2) := by decide +kernel
theorem dX6_cakeAt_27 : decode cX6_cakeAt 27 = .ok (.ireturn, 1) := by decide +kernel
theorem dX6_cakeAt_28 : decode cX6_cakeAt 28 = .ok (.aload_n 0, 1) := by decide +kernel
theorem dX6_cakeAt_29 : decode cX6_cakeAt 29 = .ok (.getfield 26, 3) := by decide +kernel
theorem dX6_cakeAt_32 : decode cX6_cakeAt 32 = .ok (.iload_n 1, 1) := by decide +kernel
theorem dX6_cakeAt_33 : decode cX6_cakeAt 33 = .ok (.invokevirtual 90, 3) := by decide +kernel
theorem dX6_cakeAt_36 : decode cX6_cakeAt 36 = .ok (.istore 4, 2) := by decide +kernel
theorem dX6_cakeAt_38 : decode cX6_cakeAt 38 = .ok (.aload_n 3, 1) := by decide +kernel
theorem dX6_cakeAt_39 : decode cX6_cakeAt 39 = .ok (.getfield 62, 3) := by decide +kernel
theorem dX6_cakeAt_42 : decode cX6_cakeAt 42 = .ok (.iload 4, 2) := by decide +kernel
theorem dX6_cakeAt_44 : decode cX6_cakeAt 44 = .ok (.iload_n 2, 1) := by decide +kernel
theorem dX6_cakeAt_45 : decode cX6_cakeAt 45 = .ok (.invokevirtual 114, 3) := by decide +kernel
theorem dX6_cakeAt_48 : decode cX6_cakeAt 48 = .ok (.istore 5, 2) := by decide +kernel
theorem dX6_cakeAt_50 : decode cX6_cakeAt 50 = .ok (.aload_n 3, 1) := by decide +kernel
theorem dX6_cakeAt_51 : decode cX6_cakeAt 51 = .ok (.getfield 62, 3) := by decide +kernel
theorem dX6_cakeAt_54 : decode cX6_cakeAt 54 = .ok (.iload 4, 2) := by decide +kernel
theorem dX6_cakeAt_56 : decode cX6_cakeAt 56 = .ok (.iload_n 2, 1) := by decide +kernel
theorem dX6_cakeAt_57 : decode cX6_cakeAt 57 = .ok (.invokevirtual 117, 3) := by decide +kernel
theorem dX6_cakeAt_60 : decode cX6_cakeAt 60 = .ok (.ifCond .eq 11, 3) := by decide +kernel
theorem dX6_cakeAt_63 : decode cX6_cakeAt 63 = .ok (.iload 5, 2) := by decide +kernel
theorem dX6_cakeAt_65 : decode cX6_cakeAt 65 = .ok (.bipush 10, 2) := by decide +kernel
theorem dX6_cakeAt_67 : decode cX6_cakeAt 67 = .ok (.isub, 1) := by decide +kernel
theorem dX6_cakeAt_68 : decode cX6_cakeAt 68 = .ok (.goto 5, 3) := by decide +kernel
theorem dX6_cakeAt_71 : decode cX6_cakeAt 71 = .ok (.iload 5, 2) := by decide +kernel
theorem dX6_cakeAt_73 : decode cX6_cakeAt 73 = .ok (.ireturn, 1) := by decide +kernel
theorem dX6_gapsBehind_0 : decode cX6_gapsBehind 0 = .ok (.aload_n 0, 1) := by decide +kernel
theorem dX6_gapsBehind_1 : decode cX6_gapsBehind 1 = .ok (.getfield 26, 3) := by decide +kernel
theorem dX6_gapsBehind_4 : decode cX6_gapsBehind 4 = .ok (.iload_n 1, 1) := by decide +kernel
theorem dX6_gapsBehind_5 : decode cX6_gapsBehind 5 = .ok (.invokevirtual 58, 3) := by decide +kernel
theorem dX6_gapsBehind_8 : decode cX6_gapsBehind 8 = .ok (.astore_n 3, 1) := by decide +kernel
theorem dX6_gapsBehind_9 : decode cX6_gapsBehind 9 = .ok (.aload_n 3, 1) := by decide +kernel
theorem dX6_gapsBehind_10 : decode cX6_gapsBehind 10 = .ok (.ifnull 16, 3) := by decide +kernel
theorem dX6_gapsBehind_13 : decode cX6_gapsBehind 13 = .ok (.iload_n 2, 1) := by decide +kernel
theorem dX6_gapsBehind_14 : decode cX6_gapsBehind 14 = .ok (.iconst 1, 1) := by decide +kernel
theorem dX6_gapsBehind_15 : decode cX6_gapsBehind 15 = .ok (.if_icmp .lt 11, 3) := by decide +kernel
theorem dX6_gapsBehind_18 : decode cX6_gapsBehind 18 = .ok (.iload_n 2, 1) := by decide +kernel
theorem dX6_gapsBehind_19 : decode cX6_gapsBehind 19 = .ok (.aload_n 3, 1) := by decide +kernel
theorem dX6_gapsBehind_20 : decode cX6_gapsBehind 20 = .ok (.getfield 82, 3) := by decide +kernel
theorem dX6_gapsBehind_23 : decode cX6_gapsBehind 23 = .ok (.if_icmp .le 6, 3) := by decide +kernel
theorem dX6_gapsBehind_26 : decode cX6_gapsBehind 26 = .ok (.ldc 45, 2) := by decide +kernel
theorem dX6_gapsBehind_28 : decode cX6_gapsBehind 28 = .ok (.ireturn, 1) := by decide +kernel
theorem dX6_gapsBehind_29 : decode cX6_gapsBehind 29 = .ok (.aload_n 3, 1) := by decide +kernel
theorem dX6_gapsBehind_30 : decode cX6_gapsBehind 30 = .ok (.getfield 62, 3) := by decide +kernel
theorem dX6_gapsBehind_33 : decode cX6_gapsBehind 33 = .ok (.aload_n 3, 1) := by decide +kernel
theorem dX6_gapsBehind_34 : decode cX6_gapsBehind 34 = .ok (.getfield 62, 3) := by decide +kernel
theorem dX6_gapsBehind_37 : decode cX6_gapsBehind 37 = .ok (.aload_n 0, 1) := by decide +kernel
theorem dX6_gapsBehind_38 : decode cX6_gapsBehind 38 = .ok (.getfield 26, 3) := by decide +kernel
theorem dX6_gapsBehind_41 : decode cX6_gapsBehind 41 = .ok (.iload_n 1, 1) := by decide +kernel
theorem dX6_gapsBehind_42 : decode cX6_gapsBehind 42 = .ok (.invokevirtual 90, 3) := by decide +kernel
theorem dX6_gapsBehind_45 : decode cX6_gapsBehind 45 = .ok (.iload_n 2, 1) := by decide +kernel
theorem dX6_gapsBehind_46 : decode cX6_gapsBehind 46 = .ok (.invokevirtual 120, 3) := by decide +kernel
theorem dX6_gapsBehind_49 : decode cX6_gapsBehind 49 = .ok (.invokevirtual 78, 3) := by decide +kernel
theorem dX6_gapsBehind_52 : decode cX6_gapsBehind 52 = .ok (.ireturn, 1) := by decide +kernel
theorem dX6_fewest_0 : decode cX6_fewest 0 = .ok (.aload_n 0, 1) := by decide +kernel
theorem dX6_fewest_1 : decode cX6_fewest 1 = .ok (.getfield 26, 3) := by decide +kernel
theorem dX6_fewest_4 : decode cX6_fewest 4 = .ok (.iload_n 1, 1) := by decide +kernel
theorem dX6_fewest_5 : decode cX6_fewest 5 = .ok (.invokevirtual 58, 3) := by decide +kernel
theorem dX6_fewest_8 : decode cX6_fewest 8 = .ok (.astore_n 3, 1) := by decide +kernel
theorem dX6_fewest_9 : decode cX6_fewest 9 = .ok (.aload_n 3, 1) := by decide +kernel
theorem dX6_fewest_10 : decode cX6_fewest 10 = .ok (.ifnull 12, 3) := by decide +kernel
theorem dX6_fewest_13 : decode cX6_fewest 13 = .ok (.iload_n 2, 1) := by decide +kernel
theorem dX6_fewest_14 : decode cX6_fewest 14 = .ok (.ifCond .lt 8, 3) := by decide +kernel
theorem dX6_fewest_17 : decode cX6_fewest 17 = .ok (.iload_n 2, 1) := by decide +kernel
theorem dX6_fewest_18 : decode cX6_fewest 18 = .ok (.iconst 1, 1) := by decide +kernel
theorem dX6_fewest_19 : decode cX6_fewest 19 = .ok (.if_icmp .le 6, 3) := by decide +kernel
theorem dX6_fewest_22 : decode cX6_fewest 22 = .ok (.ldc 45, 2) := by decide +kernel
theorem dX6_fewest_24 : decode cX6_fewest 24 = .ok (.ireturn, 1) := by decide +kernel
theorem dX6_fewest_25 : decode cX6_fewest 25 = .ok (.aload_n 3, 1) := by decide +kernel
theorem dX6_fewest_26 : decode cX6_fewest 26 = .ok (.invokevirtual 123, 3) := by decide +kernel
theorem dX6_fewest_29 : decode cX6_fewest 29 = .ok (.astore 4, 2) := by decide +kernel
theorem dX6_fewest_31 : decode cX6_fewest 31 = .ok (.aload_n 0, 1) := by decide +kernel
theorem dX6_fewest_32 : decode cX6_fewest 32 = .ok (.getfield 26, 3) := by decide +kernel
theorem dX6_fewest_35 : decode cX6_fewest 35 = .ok (.iload_n 1, 1) := by decide +kernel
theorem dX6_fewest_36 : decode cX6_fewest 36 = .ok (.invokevirtual 90, 3) := by decide +kernel
theorem dX6_fewest_39 : decode cX6_fewest 39 = .ok (.istore 5, 2) := by decide +kernel
theorem dX6_fewest_41 : decode cX6_fewest 41 = .ok (.aload 4, 2) := by decide +kernel
theorem dX6_fewest_43 : decode cX6_fewest 43 = .ok (.iload 5, 2) := by decide +kernel
theorem dX6_fewest_45 : decode cX6_fewest 45 = .ok (.invokevirtual 127, 3) := by decide +kernel
theorem dX6_fewest_48 : decode cX6_fewest 48 = .ok (.istore 6, 2) := by decide +kernel
theorem dX6_fewest_50 : decode cX6_fewest 50 = .ok (.iload 6, 2) := by decide +kernel
theorem dX6_fewest_52 : decode cX6_fewest 52 = .ok (.iconst (-1), 1) := by decide +kernel
theorem dX6_fewest_53 : decode cX6_fewest 53 = .ok (.if_icmp .eq 10, 3) := by decide +kernel
theorem dX6_fewest_56 : decode cX6_fewest 56 = .ok (.iload 6, 2) := by decide +kernel
theorem dX6_fewest_58 : decode cX6_fewest 58 = .ok (.bipush 9, 2) := by decide +kernel
theorem dX6_fewest_60 : decode cX6_fewest 60 = .ok (.if_icmp .le 6, 3) := by decide +kernel
theorem dX6_fewest_63 : decode cX6_fewest 63 = .ok (.ldc 132, 2) := by decide +kernel
theorem dX6_fewest_65 : decode cX6_fewest 65 = .ok (.ireturn, 1) := by decide +kernel
theorem dX6_fewest_66 : decode cX6_fewest 66 = .ok (.iload_n 2, 1) := by decide +kernel
theorem dX6_fewest_67 : decode cX6_fewest 67 = .ok (.ifCond .ne 8, 3) := by decide +kernel
theorem dX6_fewest_70 : decode cX6_fewest 70 = .ok (.iload 6, 2) := by decide +kernel
theorem dX6_fewest_72 : decode cX6_fewest 72 = .ok (.goto 10, 3) := by decide +kernel
theorem dX6_fewest_75 : decode cX6_fewest 75 = .ok (.aload 4, 2) := by decide +kernel
theorem dX6_fewest_77 : decode cX6_fewest 77 = .ok (.iload 5, 2) := by decide +kernel
theorem dX6_fewest_79 : decode cX6_fewest 79 = .ok (.invokevirtual 133, 3) := by decide +kernel
theorem dX6_fewest_82 : decode cX6_fewest 82 = .ok (.ireturn, 1) := by decide +kernel
theorem dX6_leastWork_0 : decode cX6_leastWork 0 = .ok (.aload_n 0, 1) := by decide +kernel
theorem dX6_leastWork_1 : decode cX6_leastWork 1 = .ok (.getfield 26, 3) := by decide +kernel
theorem dX6_leastWork_4 : decode cX6_leastWork 4 = .ok (.iload_n 1, 1) := by decide +kernel
theorem dX6_leastWork_5 : decode cX6_leastWork 5 = .ok (.invokevirtual 58, 3) := by decide +kernel
theorem dX6_leastWork_8 : decode cX6_leastWork 8 = .ok (.astore_n 2, 1) := by decide +kernel
theorem dX6_leastWork_9 : decode cX6_leastWork 9 = .ok (.aload_n 2, 1) := by decide +kernel
theorem dX6_leastWork_10 : decode cX6_leastWork 10 = .ok (.ifnonnull 6, 3) := by decide +kernel
theorem dX6_leastWork_13 : decode cX6_leastWork 13 = .ok (.ldc 45, 2) := by decide +kernel
theorem dX6_leastWork_15 : decode cX6_leastWork 15 = .ok (.ireturn, 1) := by decide +kernel
theorem dX6_leastWork_16 : decode cX6_leastWork 16 = .ok (.aload_n 2, 1) := by decide +kernel
theorem dX6_leastWork_17 : decode cX6_leastWork 17 = .ok (.invokevirtual 123, 3) := by decide +kernel
theorem dX6_leastWork_20 : decode cX6_leastWork 20 = .ok (.aload_n 0, 1) := by decide +kernel
theorem dX6_leastWork_21 : decode cX6_leastWork 21 = .ok (.getfield 26, 3) := by decide +kernel
theorem dX6_leastWork_24 : decode cX6_leastWork 24 = .ok (.iload_n 1, 1) := by decide +kernel
theorem dX6_leastWork_25 : decode cX6_leastWork 25 = .ok (.invokevirtual 90, 3) := by decide +kernel
theorem dX6_leastWork_28 : decode cX6_leastWork 28 = .ok (.invokevirtual 136, 3) := by decide +kernel
theorem dX6_leastWork_31 : decode cX6_leastWork 31 = .ok (.istore_n 3, 1) := by decide +kernel
theorem dX6_leastWork_32 : decode cX6_leastWork 32 = .ok (.iload_n 3, 1) := by decide +kernel
theorem dX6_leastWork_33 : decode cX6_leastWork 33 = .ok (.iconst (-1), 1) := by decide +kernel
theorem dX6_leastWork_34 : decode cX6_leastWork 34 = .ok (.if_icmp .ne 8, 3) := by decide +kernel
theorem dX6_leastWork_37 : decode cX6_leastWork 37 = .ok (.ldc 132, 2) := by decide +kernel
theorem dX6_leastWork_39 : decode cX6_leastWork 39 = .ok (.goto 4, 3) := by decide +kernel
theorem dX6_leastWork_42 : decode cX6_leastWork 42 = .ok (.iload_n 3, 1) := by decide +kernel
theorem dX6_leastWork_43 : decode cX6_leastWork 43 = .ok (.ireturn, 1) := by decide +kernel
theorem dX6_ways_0 : decode cX6_ways 0 = .ok (.aload_n 0, 1) := by decide +kernel
theorem dX6_ways_1 : decode cX6_ways 1 = .ok (.getfield 26, 3) := by decide +kernel
theorem dX6_ways_4 : decode cX6_ways 4 = .ok (.iload_n 1, 1) := by decide +kernel
theorem dX6_ways_5 : decode cX6_ways 5 = .ok (.invokevirtual 58, 3) := by decide +kernel
theorem dX6_ways_8 : decode cX6_ways 8 = .ok (.astore_n 3, 1) := by decide +kernel
theorem dX6_ways_9 : decode cX6_ways 9 = .ok (.aload_n 3, 1) := by decide +kernel
theorem dX6_ways_10 : decode cX6_ways 10 = .ok (.ifnull 12, 3) := by decide +kernel
theorem dX6_ways_13 : decode cX6_ways 13 = .ok (.iload_n 2, 1) := by decide +kernel
theorem dX6_ways_14 : decode cX6_ways 14 = .ok (.ifCond .lt 8, 3) := by decide +kernel
theorem dX6_ways_17 : decode cX6_ways 17 = .ok (.iload_n 2, 1) := by decide +kernel
theorem dX6_ways_18 : decode cX6_ways 18 = .ok (.iconst 5, 1) := by decide +kernel
theorem dX6_ways_19 : decode cX6_ways 19 = .ok (.if_icmp .le 6, 3) := by decide +kernel
theorem dX6_ways_22 : decode cX6_ways 22 = .ok (.ldc 45, 2) := by decide +kernel
theorem dX6_ways_24 : decode cX6_ways 24 = .ok (.ireturn, 1) := by decide +kernel
theorem dX6_ways_25 : decode cX6_ways 25 = .ok (.aload_n 3, 1) := by decide +kernel
theorem dX6_ways_26 : decode cX6_ways 26 = .ok (.invokevirtual 123, 3) := by decide +kernel
theorem dX6_ways_29 : decode cX6_ways 29 = .ok (.aload_n 0, 1) := by decide +kernel
theorem dX6_ways_30 : decode cX6_ways 30 = .ok (.getfield 26, 3) := by decide +kernel
theorem dX6_ways_33 : decode cX6_ways 33 = .ok (.iload_n 1, 1) := by decide +kernel
theorem dX6_ways_34 : decode cX6_ways 34 = .ok (.invokevirtual 90, 3) := by decide +kernel
theorem dX6_ways_37 : decode cX6_ways 37 = .ok (.iload_n 2, 1) := by decide +kernel
theorem dX6_ways_38 : decode cX6_ways 38 = .ok (.invokevirtual 139, 3) := by decide +kernel
theorem dX6_ways_41 : decode cX6_ways 41 = .ok (.ireturn, 1) := by decide +kernel
theorem dX6_lookedAt_0 : decode cX6_lookedAt 0 = .ok (.aload_n 0, 1) := by decide +kernel
theorem dX6_lookedAt_1 : decode cX6_lookedAt 1 = .ok (.getfield 26, 3) := by decide +kernel
theorem dX6_lookedAt_4 : decode cX6_lookedAt 4 = .ok (.iload_n 1, 1) := by decide +kernel
theorem dX6_lookedAt_5 : decode cX6_lookedAt 5 = .ok (.invokevirtual 58, 3) := by decide +kernel
theorem dX6_lookedAt_8 : decode cX6_lookedAt 8 = .ok (.astore_n 3, 1) := by decide +kernel
theorem dX6_lookedAt_9 : decode cX6_lookedAt 9 = .ok (.aload_n 3, 1) := by decide +kernel
theorem dX6_lookedAt_10 : decode cX6_lookedAt 10 = .ok (.ifnull 13, 3) := by decide +kernel
theorem dX6_lookedAt_13 : decode cX6_lookedAt 13 = .ok (.iload_n 2, 1) := by decide +kernel
theorem dX6_lookedAt_14 : decode cX6_lookedAt 14 = .ok (.ifCond .lt 9, 3) := by decide +kernel
theorem dX6_lookedAt_17 : decode cX6_lookedAt 17 = .ok (.iload_n 2, 1) := by decide +kernel
theorem dX6_lookedAt_18 : decode cX6_lookedAt 18 = .ok (.bipush 6, 2) := by decide +kernel
theorem dX6_lookedAt_20 : decode cX6_lookedAt 20 = .ok (.if_icmp .le 6, 3) := by decide +kernel
theorem dX6_lookedAt_23 : decode cX6_lookedAt 23 = .ok (.ldc 45, 2) := by decide +kernel
theorem dX6_lookedAt_25 : decode cX6_lookedAt 25 = .ok (.ireturn, 1) := by decide +kernel
theorem dX6_lookedAt_26 : decode cX6_lookedAt 26 = .ok (.aload_n 3, 1) := by decide +kernel
theorem dX6_lookedAt_27 : decode cX6_lookedAt 27 = .ok (.invokevirtual 123, 3) := by decide +kernel
theorem dX6_lookedAt_30 : decode cX6_lookedAt 30 = .ok (.aload_n 0, 1) := by decide +kernel
theorem dX6_lookedAt_31 : decode cX6_lookedAt 31 = .ok (.getfield 26, 3) := by decide +kernel
theorem dX6_lookedAt_34 : decode cX6_lookedAt 34 = .ok (.iload_n 1, 1) := by decide +kernel
theorem dX6_lookedAt_35 : decode cX6_lookedAt 35 = .ok (.invokevirtual 90, 3) := by decide +kernel
theorem dX6_lookedAt_38 : decode cX6_lookedAt 38 = .ok (.iload_n 2, 1) := by decide +kernel
theorem dX6_lookedAt_39 : decode cX6_lookedAt 39 = .ok (.invokevirtual 142, 3) := by decide +kernel
theorem dX6_lookedAt_42 : decode cX6_lookedAt 42 = .ok (.ireturn, 1) := by decide +kernel
theorem dX6_simple_0 : decode cX6_simple 0 = .ok (.aload_n 0, 1) := by decide +kernel
theorem dX6_simple_1 : decode cX6_simple 1 = .ok (.getfield 26, 3) := by decide +kernel
theorem dX6_simple_4 : decode cX6_simple 4 = .ok (.iload_n 1, 1) := by decide +kernel
theorem dX6_simple_5 : decode cX6_simple 5 = .ok (.invokevirtual 58, 3) := by decide +kernel
theorem dX6_simple_8 : decode cX6_simple 8 = .ok (.astore_n 3, 1) := by decide +kernel
theorem dX6_simple_9 : decode cX6_simple 9 = .ok (.aload_n 3, 1) := by decide +kernel
theorem dX6_simple_10 : decode cX6_simple 10 = .ok (.ifnull 12, 3) := by decide +kernel
theorem dX6_simple_13 : decode cX6_simple 13 = .ok (.iload_n 2, 1) := by decide +kernel
theorem dX6_simple_14 : decode cX6_simple 14 = .ok (.ifCond .lt 8, 3) := by decide +kernel
theorem dX6_simple_17 : decode cX6_simple 17 = .ok (.iload_n 2, 1) := by decide +kernel
theorem dX6_simple_18 : decode cX6_simple 18 = .ok (.iconst 2, 1) := by decide +kernel
theorem dX6_simple_19 : decode cX6_simple 19 = .ok (.if_icmp .le 6, 3) := by decide +kernel
theorem dX6_simple_22 : decode cX6_simple 22 = .ok (.ldc 45, 2) := by decide +kernel
theorem dX6_simple_24 : decode cX6_simple 24 = .ok (.ireturn, 1) := by decide +kernel
theorem dX6_simple_25 : decode cX6_simple 25 = .ok (.aload_n 3, 1) := by decide +kernel
theorem dX6_simple_26 : decode cX6_simple 26 = .ok (.invokevirtual 123, 3) := by decide +kernel
theorem dX6_simple_29 : decode cX6_simple 29 = .ok (.aload_n 0, 1) := by decide +kernel
theorem dX6_simple_30 : decode cX6_simple 30 = .ok (.getfield 26, 3) := by decide +kernel
theorem dX6_simple_33 : decode cX6_simple 33 = .ok (.iload_n 1, 1) := by decide +kernel
theorem dX6_simple_34 : decode cX6_simple 34 = .ok (.invokevirtual 90, 3) := by decide +kernel
theorem dX6_simple_37 : decode cX6_simple 37 = .ok (.iload_n 2, 1) := by decide +kernel
theorem dX6_simple_38 : decode cX6_simple 38 = .ok (.invokevirtual 145, 3) := by decide +kernel
theorem dX6_simple_41 : decode cX6_simple 41 = .ok (.ireturn, 1) := by decide +kernel
theorem dX6_bestTurn_0 : decode cX6_bestTurn 0 = .ok (.aload_n 0, 1) := by decide +kernel
theorem dX6_bestTurn_1 : decode cX6_bestTurn 1 = .ok (.getfield 26, 3) := by decide +kernel
theorem dX6_bestTurn_4 : decode cX6_bestTurn 4 = .ok (.iload_n 1, 1) := by decide +kernel
theorem dX6_bestTurn_5 : decode cX6_bestTurn 5 = .ok (.invokevirtual 58, 3) := by decide +kernel
theorem dX6_bestTurn_8 : decode cX6_bestTurn 8 = .ok (.astore_n 2, 1) := by decide +kernel
theorem dX6_bestTurn_9 : decode cX6_bestTurn 9 = .ok (.aload_n 2, 1) := by decide +kernel
theorem dX6_bestTurn_10 : decode cX6_bestTurn 10 = .ok (.ifnonnull 6, 3) := by decide +kernel
theorem dX6_bestTurn_13 : decode cX6_bestTurn 13 = .ok (.ldc 45, 2) := by decide +kernel
theorem dX6_bestTurn_15 : decode cX6_bestTurn 15 = .ok (.ireturn, 1) := by decide +kernel
theorem dX6_bestTurn_16 : decode cX6_bestTurn 16 = .ok (.aload_n 2, 1) := by decide +kernel
theorem dX6_bestTurn_17 : decode cX6_bestTurn 17 = .ok (.aload_n 0, 1) := by decide +kernel
theorem dX6_bestTurn_18 : decode cX6_bestTurn 18 = .ok (.getfield 26, 3) := by decide +kernel
theorem dX6_bestTurn_21 : decode cX6_bestTurn 21 = .ok (.iload_n 1, 1) := by decide +kernel
theorem dX6_bestTurn_22 : decode cX6_bestTurn 22 = .ok (.invokevirtual 90, 3) := by decide +kernel
theorem dX6_bestTurn_25 : decode cX6_bestTurn 25 = .ok (.invokevirtual 148, 3) := by decide +kernel
theorem dX6_bestTurn_28 : decode cX6_bestTurn 28 = .ok (.istore_n 3, 1) := by decide +kernel
theorem dX6_bestTurn_29 : decode cX6_bestTurn 29 = .ok (.iload_n 3, 1) := by decide +kernel
theorem dX6_bestTurn_30 : decode cX6_bestTurn 30 = .ok (.iconst (-1), 1) := by decide +kernel
theorem dX6_bestTurn_31 : decode cX6_bestTurn 31 = .ok (.if_icmp .ne 8, 3) := by decide +kernel
theorem dX6_bestTurn_34 : decode cX6_bestTurn 34 = .ok (.ldc 132, 2) := by decide +kernel
theorem dX6_bestTurn_36 : decode cX6_bestTurn 36 = .ok (.goto 4, 3) := by decide +kernel
theorem dX6_bestTurn_39 : decode cX6_bestTurn 39 = .ok (.iload_n 3, 1) := by decide +kernel
theorem dX6_bestTurn_40 : decode cX6_bestTurn 40 = .ok (.ireturn, 1) := by decide +kernel
theorem dX6_ranked_0 : decode cX6_ranked 0 = .ok (.aload_n 0, 1) := by decide +kernel
theorem dX6_ranked_1 : decode cX6_ranked 1 = .ok (.getfield 26, 3) := by decide +kernel
theorem dX6_ranked_4 : decode cX6_ranked 4 = .ok (.iload_n 1, 1) := by decide +kernel
theorem dX6_ranked_5 : decode cX6_ranked 5 = .ok (.invokevirtual 58, 3) := by decide +kernel
theorem dX6_ranked_8 : decode cX6_ranked 8 = .ok (.astore 4, 2) := by decide +kernel
theorem dX6_ranked_10 : decode cX6_ranked 10 = .ok (.aload 4, 2) := by decide +kernel
theorem dX6_ranked_12 : decode cX6_ranked 12 = .ok (.ifnull 16, 3) := by decide +kernel
theorem dX6_ranked_15 : decode cX6_ranked 15 = .ok (.iload_n 2, 1) := by decide +kernel
theorem dX6_ranked_16 : decode cX6_ranked 16 = .ok (.ifCond .lt 12, 3) := by decide +kernel
theorem dX6_ranked_19 : decode cX6_ranked 19 = .ok (.iload_n 3, 1) := by decide +kernel
theorem dX6_ranked_20 : decode cX6_ranked 20 = .ok (.ifCond .lt 8, 3) := by decide +kernel
theorem dX6_ranked_23 : decode cX6_ranked 23 = .ok (.iload_n 3, 1) := by decide +kernel
theorem dX6_ranked_24 : decode cX6_ranked 24 = .ok (.iconst 1, 1) := by decide +kernel
theorem dX6_ranked_25 : decode cX6_ranked 25 = .ok (.if_icmp .le 6, 3) := by decide +kernel
theorem dX6_ranked_28 : decode cX6_ranked 28 = .ok (.ldc 45, 2) := by decide +kernel
theorem dX6_ranked_30 : decode cX6_ranked 30 = .ok (.ireturn, 1) := by decide +kernel
theorem dX6_ranked_31 : decode cX6_ranked 31 = .ok (.iload_n 2, 1) := by decide +kernel
theorem dX6_ranked_32 : decode cX6_ranked 32 = .ok (.aload 4, 2) := by decide +kernel
theorem dX6_ranked_34 : decode cX6_ranked 34 = .ok (.getfield 62, 3) := by decide +kernel
theorem dX6_ranked_37 : decode cX6_ranked 37 = .ok (.getfield 151, 3) := by decide +kernel
theorem dX6_ranked_40 : decode cX6_ranked 40 = .ok (.if_icmp .lt 6, 3) := by decide +kernel
theorem dX6_ranked_43 : decode cX6_ranked 43 = .ok (.ldc 132, 2) := by decide +kernel
theorem dX6_ranked_45 : decode cX6_ranked 45 = .ok (.ireturn, 1) := by decide +kernel
theorem dX6_ranked_46 : decode cX6_ranked 46 = .ok (.iload_n 3, 1) := by decide +kernel
theorem dX6_ranked_47 : decode cX6_ranked 47 = .ok (.ifCond .ne 15, 3) := by decide +kernel
theorem dX6_ranked_50 : decode cX6_ranked 50 = .ok (.aload 4, 2) := by decide +kernel
theorem dX6_ranked_52 : decode cX6_ranked 52 = .ok (.getfield 62, 3) := by decide +kernel
theorem dX6_ranked_55 : decode cX6_ranked 55 = .ok (.iload_n 2, 1) := by decide +kernel
theorem dX6_ranked_56 : decode cX6_ranked 56 = .ok (.invokevirtual 102, 3) := by decide +kernel
theorem dX6_ranked_59 : decode cX6_ranked 59 = .ok (.goto 12, 3) := by decide +kernel
theorem dX6_ranked_62 : decode cX6_ranked 62 = .ok (.aload 4, 2) := by decide +kernel
theorem dX6_ranked_64 : decode cX6_ranked 64 = .ok (.getfield 62, 3) := by decide +kernel
theorem dX6_ranked_67 : decode cX6_ranked 67 = .ok (.iload_n 2, 1) := by decide +kernel
theorem dX6_ranked_68 : decode cX6_ranked 68 = .ok (.invokevirtual 105, 3) := by decide +kernel
theorem dX6_ranked_71 : decode cX6_ranked 71 = .ok (.ireturn, 1) := by decide +kernel
theorem dX6_ofDistance_0 : decode cX6_ofDistance 0 = .ok (.aload_n 0, 1) := by decide +kernel
theorem dX6_ofDistance_1 : decode cX6_ofDistance 1 = .ok (.getfield 26, 3) := by decide +kernel
theorem dX6_ofDistance_4 : decode cX6_ofDistance 4 = .ok (.iload_n 1, 1) := by decide +kernel
theorem dX6_ofDistance_5 : decode cX6_ofDistance 5 = .ok (.invokevirtual 58, 3) := by decide +kernel
theorem dX6_ofDistance_8 : decode cX6_ofDistance 8 = .ok (.astore_n 3, 1) := by decide +kernel
theorem dX6_ofDistance_9 : decode cX6_ofDistance 9 = .ok (.aload_n 3, 1) := by decide +kernel
theorem dX6_ofDistance_10 : decode cX6_ofDistance 10 = .ok (.ifnull 13, 3) := by decide +kernel
theorem dX6_ofDistance_13 : decode cX6_ofDistance 13 = .ok (.iload_n 2, 1) := by decide +kernel
theorem dX6_ofDistance_14 : decode cX6_ofDistance 14 = .ok (.ifCond .lt 9, 3) := by decide +kernel
theorem dX6_ofDistance_17 : decode cX6_ofDistance 17 = .ok (.iload_n 2, 1) := by decide +kernel
theorem dX6_ofDistance_18 : decode cX6_ofDistance 18 = .ok (.bipush 12, 2) := by decide +kernel
theorem dX6_ofDistance_20 : decode cX6_ofDistance 20 = .ok (.if_icmp .le 6, 3) := by decide +kernel
theorem dX6_ofDistance_23 : decode cX6_ofDistance 23 = .ok (.ldc 45, 2) := by decide +kernel
theorem dX6_ofDistance_25 : decode cX6_ofDistance 25 = .ok (.ireturn, 1) := by decide +kernel
theorem dX6_ofDistance_26 : decode cX6_ofDistance 26 = .ok (.aload_n 3, 1) := by decide +kernel
theorem dX6_ofDistance_27 : decode cX6_ofDistance 27 = .ok (.invokevirtual 123, 3) := by decide +kernel
theorem dX6_ofDistance_30 : decode cX6_ofDistance 30 = .ok (.iload_n 2, 1) := by decide +kernel
theorem dX6_ofDistance_31 : decode cX6_ofDistance 31 = .ok (.invokevirtual 154, 3) := by decide +kernel
theorem dX6_ofDistance_34 : decode cX6_ofDistance 34 = .ok (.ireturn, 1) := by decide +kernel
theorem dX6_count_0 : decode cX6_count 0 = .ok (.iload_n 1, 1) := by decide +kernel
theorem dX6_count_1 : decode cX6_count 1 = .ok (.tableswitch 149 0 12 #[67, 75, 83, 91, 99, 99, 99, 113, 113, 113, 128, 136, 141], 67) := by decide +kernel
theorem dX6_count_68 : decode cX6_count 68 = .ok (.aload_n 0, 1) := by decide +kernel
theorem dX6_count_69 : decode cX6_count 69 = .ok (.getfield 26, 3) := by decide +kernel
theorem dX6_count_72 : decode cX6_count 72 = .ok (.getfield 157, 3) := by decide +kernel
theorem dX6_count_75 : decode cX6_count 75 = .ok (.ireturn, 1) := by decide +kernel
theorem dX6_count_76 : decode cX6_count 76 = .ok (.aload_n 0, 1) := by decide +kernel
theorem dX6_count_77 : decode cX6_count 77 = .ok (.getfield 26, 3) := by decide +kernel
theorem dX6_count_80 : decode cX6_count 80 = .ok (.invokevirtual 160, 3) := by decide +kernel
theorem dX6_count_83 : decode cX6_count 83 = .ok (.ireturn, 1) := by decide +kernel
theorem dX6_count_84 : decode cX6_count 84 = .ok (.aload_n 0, 1) := by decide +kernel
theorem dX6_count_85 : decode cX6_count 85 = .ok (.getfield 26, 3) := by decide +kernel
theorem dX6_count_88 : decode cX6_count 88 = .ok (.invokevirtual 164, 3) := by decide +kernel
theorem dX6_count_91 : decode cX6_count 91 = .ok (.ireturn, 1) := by decide +kernel
theorem dX6_count_92 : decode cX6_count 92 = .ok (.aload_n 0, 1) := by decide +kernel
theorem dX6_count_93 : decode cX6_count 93 = .ok (.getfield 26, 3) := by decide +kernel
theorem dX6_count_96 : decode cX6_count 96 = .ok (.getfield 167, 3) := by decide +kernel
theorem dX6_count_99 : decode cX6_count 99 = .ok (.ireturn, 1) := by decide +kernel
theorem dX6_count_100 : decode cX6_count 100 = .ok (.aload_n 0, 1) := by decide +kernel
theorem dX6_count_101 : decode cX6_count 101 = .ok (.getfield 26, 3) := by decide +kernel
theorem dX6_count_104 : decode cX6_count 104 = .ok (.getfield 170, 3) := by decide +kernel
theorem dX6_count_107 : decode cX6_count 107 = .ok (.iload_n 1, 1) := by decide +kernel
theorem dX6_count_108 : decode cX6_count 108 = .ok (.iconst 4, 1) := by decide +kernel
theorem dX6_count_109 : decode cX6_count 109 = .ok (.isub, 1) := by decide +kernel
theorem dX6_count_110 : decode cX6_count 110 = .ok (.invokestatic 174, 3) := by decide +kernel
theorem dX6_count_113 : decode cX6_count 113 = .ok (.ireturn, 1) := by decide +kernel
theorem dX6_count_114 : decode cX6_count 114 = .ok (.aload_n 0, 1) := by decide +kernel
theorem dX6_count_115 : decode cX6_count 115 = .ok (.getfield 26, 3) := by decide +kernel
theorem dX6_count_118 : decode cX6_count 118 = .ok (.getfield 178, 3) := by decide +kernel
theorem dX6_count_121 : decode cX6_count 121 = .ok (.iload_n 1, 1) := by decide +kernel
theorem dX6_count_122 : decode cX6_count 122 = .ok (.bipush 7, 2) := by decide +kernel
theorem dX6_count_124 : decode cX6_count 124 = .ok (.isub, 1) := by decide +kernel
theorem dX6_count_125 : decode cX6_count 125 = .ok (.invokestatic 174, 3) := by decide +kernel
theorem dX6_count_128 : decode cX6_count 128 = .ok (.ireturn, 1) := by decide +kernel
theorem dX6_count_129 : decode cX6_count 129 = .ok (.aload_n 0, 1) := by decide +kernel
theorem dX6_count_130 : decode cX6_count 130 = .ok (.getfield 26, 3) := by decide +kernel
theorem dX6_count_133 : decode cX6_count 133 = .ok (.invokevirtual 181, 3) := by decide +kernel
theorem dX6_count_136 : decode cX6_count 136 = .ok (.ireturn, 1) := by decide +kernel
theorem dX6_count_137 : decode cX6_count 137 = .ok (.aload_n 0, 1) := by decide +kernel
theorem dX6_count_138 : decode cX6_count 138 = .ok (.getfield 37, 3) := by decide +kernel
theorem dX6_count_141 : decode cX6_count 141 = .ok (.ireturn, 1) := by decide +kernel
theorem dX6_count_142 : decode cX6_count 142 = .ok (.aload_n 0, 1) := by decide +kernel
theorem dX6_count_143 : decode cX6_count 143 = .ok (.getfield 19, 3) := by decide +kernel
theorem dX6_count_146 : decode cX6_count 146 = .ok (.getfield 184, 3) := by decide +kernel
theorem dX6_count_149 : decode cX6_count 149 = .ok (.ireturn, 1) := by decide +kernel
theorem dX6_count_150 : decode cX6_count 150 = .ok (.ldc 45, 2) := by decide +kernel
theorem dX6_count_152 : decode cX6_count 152 = .ok (.ireturn, 1) := by decide +kernel
theorem dX6_undo_0 : decode cX6_undo 0 = .ok (.aload_n 0, 1) := by decide +kernel
theorem dX6_undo_1 : decode cX6_undo 1 = .ok (.aload_n 0, 1) := by decide +kernel
theorem dX6_undo_2 : decode cX6_undo 2 = .ok (.getfield 37, 3) := by decide +kernel
theorem dX6_undo_5 : decode cX6_undo 5 = .ok (.iconst 1, 1) := by decide +kernel
theorem dX6_undo_6 : decode cX6_undo 6 = .ok (.isub, 1) := by decide +kernel
theorem dX6_undo_7 : decode cX6_undo 7 = .ok (.invokevirtual 187, 3) := by decide +kernel
theorem dX6_undo_10 : decode cX6_undo 10 = .ok (.astore_n 1, 1) := by decide +kernel
theorem dX6_undo_11 : decode cX6_undo 11 = .ok (.aload_n 1, 1) := by decide +kernel
theorem dX6_undo_12 : decode cX6_undo 12 = .ok (.ifnonnull 6, 3) := by decide +kernel
theorem dX6_undo_15 : decode cX6_undo 15 = .ok (.ldc 89, 2) := by decide +kernel
theorem dX6_undo_17 : decode cX6_undo 17 = .ok (.ireturn, 1) := by decide +kernel
theorem dX6_undo_18 : decode cX6_undo 18 = .ok (.aload_n 0, 1) := by decide +kernel
theorem dX6_undo_19 : decode cX6_undo 19 = .ok (.dup, 1) := by decide +kernel
theorem dX6_undo_20 : decode cX6_undo 20 = .ok (.getfield 37, 3) := by decide +kernel
theorem dX6_undo_23 : decode cX6_undo 23 = .ok (.iconst 1, 1) := by decide +kernel
theorem dX6_undo_24 : decode cX6_undo 24 = .ok (.isub, 1) := by decide +kernel
theorem dX6_undo_25 : decode cX6_undo 25 = .ok (.putfield 37, 3) := by decide +kernel
theorem dX6_undo_28 : decode cX6_undo 28 = .ok (.aload_n 0, 1) := by decide +kernel
theorem dX6_undo_29 : decode cX6_undo 29 = .ok (.getfield 26, 3) := by decide +kernel
theorem dX6_undo_32 : decode cX6_undo 32 = .ok (.aload_n 1, 1) := by decide +kernel
theorem dX6_undo_33 : decode cX6_undo 33 = .ok (.invokevirtual 46, 3) := by decide +kernel
theorem dX6_undo_36 : decode cX6_undo 36 = .ok (.aload_n 0, 1) := by decide +kernel
theorem dX6_undo_37 : decode cX6_undo 37 = .ok (.getfield 37, 3) := by decide +kernel
theorem dX6_undo_40 : decode cX6_undo 40 = .ok (.ireturn, 1) := by decide +kernel
theorem dX6_type_0 : decode cX6_type 0 = .ok (.iload_n 1, 1) := by decide +kernel
theorem dX6_type_1 : decode cX6_type 1 = .ok (.bipush 32, 2) := by decide +kernel
theorem dX6_type_3 : decode cX6_type 3 = .ok (.if_icmp .lt 9, 3) := by decide +kernel
theorem dX6_type_6 : decode cX6_type 6 = .ok (.iload_n 1, 1) := by decide +kernel
theorem dX6_type_7 : decode cX6_type 7 = .ok (.bipush 126, 2) := by decide +kernel
theorem dX6_type_9 : decode cX6_type 9 = .ok (.if_icmp .le 6, 3) := by decide +kernel
theorem dX6_type_12 : decode cX6_type 12 = .ok (.ldc 45, 2) := by decide +kernel
theorem dX6_type_14 : decode cX6_type 14 = .ok (.ireturn, 1) := by decide +kernel
theorem dX6_type_15 : decode cX6_type 15 = .ok (.aload_n 0, 1) := by decide +kernel
theorem dX6_type_16 : decode cX6_type 16 = .ok (.getfield 19, 3) := by decide +kernel
theorem dX6_type_19 : decode cX6_type 19 = .ok (.iload_n 1, 1) := by decide +kernel
theorem dX6_type_20 : decode cX6_type 20 = .ok (.invokevirtual 191, 3) := by decide +kernel
theorem dX6_type_23 : decode cX6_type 23 = .ok (.ifCond .eq 13, 3) := by decide +kernel
theorem dX6_type_26 : decode cX6_type 26 = .ok (.aload_n 0, 1) := by decide +kernel
theorem dX6_type_27 : decode cX6_type 27 = .ok (.getfield 19, 3) := by decide +kernel
theorem dX6_type_30 : decode cX6_type 30 = .ok (.getfield 184, 3) := by decide +kernel
theorem dX6_type_33 : decode cX6_type 33 = .ok (.goto 5, 3) := by decide +kernel
theorem dX6_type_36 : decode cX6_type 36 = .ok (.ldc 54, 2) := by decide +kernel
theorem dX6_type_38 : decode cX6_type 38 = .ok (.ireturn, 1) := by decide +kernel
theorem dX6_clearText_0 : decode cX6_clearText 0 = .ok (.aload_n 0, 1) := by decide +kernel
theorem dX6_clearText_1 : decode cX6_clearText 1 = .ok (.getfield 19, 3) := by decide +kernel
theorem dX6_clearText_4 : decode cX6_clearText 4 = .ok (.invokevirtual 195, 3) := by decide +kernel
theorem dX6_clearText_7 : decode cX6_clearText 7 = .ok (.ireturn, 1) := by decide +kernel
theorem dX6_fault_0 : decode cX6_fault 0 = .ok (.iload_n 1, 1) := by decide +kernel
theorem dX6_fault_1 : decode cX6_fault 1 = .ok (.ifCond .lt 8, 3) := by decide +kernel
theorem dX6_fault_4 : decode cX6_fault 4 = .ok (.iload_n 1, 1) := by decide +kernel
theorem dX6_fault_5 : decode cX6_fault 5 = .ok (.iconst 1, 1) := by decide +kernel
theorem dX6_fault_6 : decode cX6_fault 6 = .ok (.if_icmp .le 6, 3) := by decide +kernel
theorem dX6_fault_9 : decode cX6_fault 9 = .ok (.ldc 45, 2) := by decide +kernel
theorem dX6_fault_11 : decode cX6_fault 11 = .ok (.ireturn, 1) := by decide +kernel
theorem dX6_fault_12 : decode cX6_fault 12 = .ok (.aload_n 0, 1) := by decide +kernel
theorem dX6_fault_13 : decode cX6_fault 13 = .ok (.getfield 30, 3) := by decide +kernel
theorem dX6_fault_16 : decode cX6_fault 16 = .ok (.aload_n 0, 1) := by decide +kernel
theorem dX6_fault_17 : decode cX6_fault 17 = .ok (.getfield 26, 3) := by decide +kernel
theorem dX6_fault_20 : decode cX6_fault 20 = .ok (.invokevirtual 46, 3) := by decide +kernel
theorem dX6_fault_23 : decode cX6_fault 23 = .ok (.aload_n 0, 1) := by decide +kernel
theorem dX6_fault_24 : decode cX6_fault 24 = .ok (.getfield 19, 3) := by decide +kernel
theorem dX6_fault_27 : decode cX6_fault 27 = .ok (.aload_n 0, 1) := by decide +kernel
theorem dX6_fault_28 : decode cX6_fault 28 = .ok (.getfield 30, 3) := by decide +kernel
theorem dX6_fault_31 : decode cX6_fault 31 = .ok (.invokevirtual 198, 3) := by decide +kernel
theorem dX6_fault_34 : decode cX6_fault 34 = .ok (.aload_n 0, 1) := by decide +kernel
theorem dX6_fault_35 : decode cX6_fault 35 = .ok (.getfield 19, 3) := by decide +kernel
theorem dX6_fault_38 : decode cX6_fault 38 = .ok (.getfield 201, 3) := by decide +kernel
theorem dX6_fault_41 : decode cX6_fault 41 = .ok (.ifCond .ne 6, 3) := by decide +kernel
theorem dX6_fault_44 : decode cX6_fault 44 = .ok (.ldc 132, 2) := by decide +kernel
theorem dX6_fault_46 : decode cX6_fault 46 = .ok (.ireturn, 1) := by decide +kernel
theorem dX6_fault_47 : decode cX6_fault 47 = .ok (.iload_n 1, 1) := by decide +kernel
theorem dX6_fault_48 : decode cX6_fault 48 = .ok (.ifCond .ne 13, 3) := by decide +kernel
theorem dX6_fault_51 : decode cX6_fault 51 = .ok (.aload_n 0, 1) := by decide +kernel
theorem dX6_fault_52 : decode cX6_fault 52 = .ok (.getfield 19, 3) := by decide +kernel
theorem dX6_fault_55 : decode cX6_fault 55 = .ok (.getfield 204, 3) := by decide +kernel
theorem dX6_fault_58 : decode cX6_fault 58 = .ok (.goto 10, 3) := by decide +kernel
theorem dX6_fault_61 : decode cX6_fault 61 = .ok (.aload_n 0, 1) := by decide +kernel
theorem dX6_fault_62 : decode cX6_fault 62 = .ok (.getfield 19, 3) := by decide +kernel
theorem dX6_fault_65 : decode cX6_fault 65 = .ok (.getfield 201, 3) := by decide +kernel
theorem dX6_fault_68 : decode cX6_fault 68 = .ok (.ireturn, 1) := by decide +kernel
theorem dX6_play_0 : decode cX6_play 0 = .ok (.aload_n 0, 1) := by decide +kernel
theorem dX6_play_1 : decode cX6_play 1 = .ok (.getfield 30, 3) := by decide +kernel
theorem dX6_play_4 : decode cX6_play 4 = .ok (.aload_n 0, 1) := by decide +kernel
theorem dX6_play_5 : decode cX6_play 5 = .ok (.getfield 26, 3) := by decide +kernel
theorem dX6_play_8 : decode cX6_play 8 = .ok (.invokevirtual 46, 3) := by decide +kernel
theorem dX6_play_11 : decode cX6_play 11 = .ok (.aload_n 0, 1) := by decide +kernel
theorem dX6_play_12 : decode cX6_play 12 = .ok (.getfield 19, 3) := by decide +kernel
theorem dX6_play_15 : decode cX6_play 15 = .ok (.aload_n 0, 1) := by decide +kernel
theorem dX6_play_16 : decode cX6_play 16 = .ok (.getfield 30, 3) := by decide +kernel
theorem dX6_play_19 : decode cX6_play 19 = .ok (.invokevirtual 198, 3) := by decide +kernel
theorem dX6_play_22 : decode cX6_play 22 = .ok (.aload_n 0, 1) := by decide +kernel
theorem dX6_play_23 : decode cX6_play 23 = .ok (.getfield 19, 3) := by decide +kernel
theorem dX6_play_26 : decode cX6_play 26 = .ok (.getfield 201, 3) := by decide +kernel
theorem dX6_play_29 : decode cX6_play 29 = .ok (.ifCond .eq 6, 3) := by decide +kernel
theorem dX6_play_32 : decode cX6_play 32 = .ok (.ldc 89, 2) := by decide +kernel
theorem dX6_play_34 : decode cX6_play 34 = .ok (.ireturn, 1) := by decide +kernel
theorem dX6_play_35 : decode cX6_play 35 = .ok (.aload_n 0, 1) := by decide +kernel
theorem dX6_play_36 : decode cX6_play 36 = .ok (.invokevirtual 55, 3) := by decide +kernel
theorem dX6_play_39 : decode cX6_play 39 = .ok (.aload_n 0, 1) := by decide +kernel
theorem dX6_play_40 : decode cX6_play 40 = .ok (.getfield 19, 3) := by decide +kernel
theorem dX6_play_43 : decode cX6_play 43 = .ok (.getfield 207, 3) := by decide +kernel
theorem dX6_play_46 : decode cX6_play 46 = .ok (.ireturn, 1) := by decide +kernel
theorem dX6_keepTrial_0 : decode cX6_keepTrial 0 = .ok (.aload_n 0, 1) := by decide +kernel
theorem dX6_keepTrial_1 : decode cX6_keepTrial 1 = .ok (.getfield 37, 3) := by decide +kernel
theorem dX6_keepTrial_4 : decode cX6_keepTrial 4 = .ok (.aload_n 0, 1) := by decide +kernel
theorem dX6_keepTrial_5 : decode cX6_keepTrial 5 = .ok (.getfield 33, 3) := by decide +kernel
theorem dX6_keepTrial_8 : decode cX6_keepTrial 8 = .ok (.arraylength, 1) := by decide +kernel
theorem dX6_keepTrial_9 : decode cX6_keepTrial 9 = .ok (.if_icmp .lt 7, 3) := by decide +kernel
theorem dX6_keepTrial_12 : decode cX6_keepTrial 12 = .ok (.aload_n 0, 1) := by decide +kernel
theorem dX6_keepTrial_13 : decode cX6_keepTrial 13 = .ok (.invokevirtual 210, 3) := by decide +kernel
theorem dX6_keepTrial_16 : decode cX6_keepTrial 16 = .ok (.aload_n 0, 1) := by decide +kernel
theorem dX6_keepTrial_17 : decode cX6_keepTrial 17 = .ok (.aload_n 0, 1) := by decide +kernel
theorem dX6_keepTrial_18 : decode cX6_keepTrial 18 = .ok (.getfield 37, 3) := by decide +kernel
theorem dX6_keepTrial_21 : decode cX6_keepTrial 21 = .ok (.invokevirtual 187, 3) := by decide +kernel
theorem dX6_keepTrial_24 : decode cX6_keepTrial 24 = .ok (.astore_n 1, 1) := by decide +kernel
theorem dX6_keepTrial_25 : decode cX6_keepTrial 25 = .ok (.aload_n 1, 1) := by decide +kernel
theorem dX6_keepTrial_26 : decode cX6_keepTrial 26 = .ok (.ifnull 21, 3) := by decide +kernel
theorem dX6_keepTrial_29 : decode cX6_keepTrial 29 = .ok (.aload_n 1, 1) := by decide +kernel
theorem dX6_keepTrial_30 : decode cX6_keepTrial 30 = .ok (.aload_n 0, 1) := by decide +kernel
theorem dX6_keepTrial_31 : decode cX6_keepTrial 31 = .ok (.getfield 26, 3) := by decide +kernel
theorem dX6_keepTrial_34 : decode cX6_keepTrial 34 = .ok (.invokevirtual 46, 3) := by decide +kernel
theorem dX6_keepTrial_37 : decode cX6_keepTrial 37 = .ok (.aload_n 0, 1) := by decide +kernel
theorem dX6_keepTrial_38 : decode cX6_keepTrial 38 = .ok (.dup, 1) := by decide +kernel
theorem dX6_keepTrial_39 : decode cX6_keepTrial 39 = .ok (.getfield 37, 3) := by decide +kernel
theorem dX6_keepTrial_42 : decode cX6_keepTrial 42 = .ok (.iconst 1, 1) := by decide +kernel
theorem dX6_keepTrial_43 : decode cX6_keepTrial 43 = .ok (.iadd, 1) := by decide +kernel
theorem dX6_keepTrial_44 : decode cX6_keepTrial 44 = .ok (.putfield 37, 3) := by decide +kernel
theorem dX6_keepTrial_47 : decode cX6_keepTrial 47 = .ok (.aload_n 0, 1) := by decide +kernel
theorem dX6_keepTrial_48 : decode cX6_keepTrial 48 = .ok (.getfield 26, 3) := by decide +kernel
theorem dX6_keepTrial_51 : decode cX6_keepTrial 51 = .ok (.aload_n 0, 1) := by decide +kernel
theorem dX6_keepTrial_52 : decode cX6_keepTrial 52 = .ok (.getfield 30, 3) := by decide +kernel
theorem dX6_keepTrial_55 : decode cX6_keepTrial 55 = .ok (.invokevirtual 46, 3) := by decide +kernel
theorem dX6_keepTrial_58 : decode cX6_keepTrial 58 = .ok (.return_, 1) := by decide +kernel
theorem dX6_dropOldestState_0 : decode cX6_dropOldestState 0 = .ok (.iconst 1, 1) := by decide +kernel
theorem dX6_dropOldestState_1 : decode cX6_dropOldestState 1 = .ok (.istore_n 1, 1) := by decide +kernel
theorem dX6_dropOldestState_2 : decode cX6_dropOldestState 2 = .ok (.iload_n 1, 1) := by decide +kernel
theorem dX6_dropOldestState_3 : decode cX6_dropOldestState 3 = .ok (.aload_n 0, 1) := by decide +kernel
theorem dX6_dropOldestState_4 : decode cX6_dropOldestState 4 = .ok (.getfield 33, 3) := by decide +kernel
theorem dX6_dropOldestState_7 : decode cX6_dropOldestState 7 = .ok (.arraylength, 1) := by decide +kernel
theorem dX6_dropOldestState_8 : decode cX6_dropOldestState 8 = .ok (.if_icmp .ge 39, 3) := by decide +kernel
theorem dX6_dropOldestState_11 : decode cX6_dropOldestState 11 = .ok (.aload_n 0, 1) := by decide +kernel
theorem dX6_dropOldestState_12 : decode cX6_dropOldestState 12 = .ok (.getfield 33, 3) := by decide +kernel
theorem dX6_dropOldestState_15 : decode cX6_dropOldestState 15 = .ok (.iload_n 1, 1) := by decide +kernel
theorem dX6_dropOldestState_16 : decode cX6_dropOldestState 16 = .ok (.iconst 1, 1) := by decide +kernel
theorem dX6_dropOldestState_17 : decode cX6_dropOldestState 17 = .ok (.isub, 1) := by decide +kernel
theorem dX6_dropOldestState_18 : decode cX6_dropOldestState 18 = .ok (.aaload, 1) := by decide +kernel
theorem dX6_dropOldestState_19 : decode cX6_dropOldestState 19 = .ok (.astore_n 2, 1) := by decide +kernel
theorem dX6_dropOldestState_20 : decode cX6_dropOldestState 20 = .ok (.aload_n 0, 1) := by decide +kernel
theorem dX6_dropOldestState_21 : decode cX6_dropOldestState 21 = .ok (.getfield 33, 3) := by decide +kernel
theorem dX6_dropOldestState_24 : decode cX6_dropOldestState 24 = .ok (.iload_n 1, 1) := by decide +kernel
theorem dX6_dropOldestState_25 : decode cX6_dropOldestState 25 = .ok (.iconst 1, 1) := by decide +kernel
theorem dX6_dropOldestState_26 : decode cX6_dropOldestState 26 = .ok (.isub, 1) := by decide +kernel
theorem dX6_dropOldestState_27 : decode cX6_dropOldestState 27 = .ok (.aload_n 0, 1) := by decide +kernel
theorem dX6_dropOldestState_28 : decode cX6_dropOldestState 28 = .ok (.getfield 33, 3) := by decide +kernel
theorem dX6_dropOldestState_31 : decode cX6_dropOldestState 31 = .ok (.iload_n 1, 1) := by decide +kernel
theorem dX6_dropOldestState_32 : decode cX6_dropOldestState 32 = .ok (.aaload, 1) := by decide +kernel
theorem dX6_dropOldestState_33 : decode cX6_dropOldestState 33 = .ok (.aastore, 1) := by decide +kernel
theorem dX6_dropOldestState_34 : decode cX6_dropOldestState 34 = .ok (.aload_n 0, 1) := by decide +kernel
theorem dX6_dropOldestState_35 : decode cX6_dropOldestState 35 = .ok (.getfield 33, 3) := by decide +kernel
theorem dX6_dropOldestState_38 : decode cX6_dropOldestState 38 = .ok (.iload_n 1, 1) := by decide +kernel
theorem dX6_dropOldestState_39 : decode cX6_dropOldestState 39 = .ok (.aload_n 2, 1) := by decide +kernel
theorem dX6_dropOldestState_40 : decode cX6_dropOldestState 40 = .ok (.aastore, 1) := by decide +kernel
theorem dX6_dropOldestState_41 : decode cX6_dropOldestState 41 = .ok (.iinc 1 1, 3) := by decide +kernel
theorem dX6_dropOldestState_44 : decode cX6_dropOldestState 44 = .ok (.goto (-42), 3) := by decide +kernel
theorem dX6_dropOldestState_47 : decode cX6_dropOldestState 47 = .ok (.aload_n 0, 1) := by decide +kernel
theorem dX6_dropOldestState_48 : decode cX6_dropOldestState 48 = .ok (.aload_n 0, 1) := by decide +kernel
theorem dX6_dropOldestState_49 : decode cX6_dropOldestState 49 = .ok (.getfield 33, 3) := by decide +kernel
theorem dX6_dropOldestState_52 : decode cX6_dropOldestState 52 = .ok (.arraylength, 1) := by decide +kernel
theorem dX6_dropOldestState_53 : decode cX6_dropOldestState 53 = .ok (.iconst 1, 1) := by decide +kernel
theorem dX6_dropOldestState_54 : decode cX6_dropOldestState 54 = .ok (.isub, 1) := by decide +kernel
theorem dX6_dropOldestState_55 : decode cX6_dropOldestState 55 = .ok (.putfield 37, 3) := by decide +kernel
theorem dX6_dropOldestState_58 : decode cX6_dropOldestState 58 = .ok (.return_, 1) := by decide +kernel
theorem dX6_stateAt_0 : decode cX6_stateAt 0 = .ok (.iload_n 1, 1) := by decide +kernel
theorem dX6_stateAt_1 : decode cX6_stateAt 1 = .ok (.ifCond .lt 21, 3) := by decide +kernel
theorem dX6_stateAt_4 : decode cX6_stateAt 4 = .ok (.iload_n 1, 1) := by decide +kernel
theorem dX6_stateAt_5 : decode cX6_stateAt 5 = .ok (.aload_n 0, 1) := by decide +kernel
theorem dX6_stateAt_6 : decode cX6_stateAt 6 = .ok (.getfield 33, 3) := by decide +kernel
theorem dX6_stateAt_9 : decode cX6_stateAt 9 = .ok (.arraylength, 1) := by decide +kernel
theorem dX6_stateAt_10 : decode cX6_stateAt 10 = .ok (.if_icmp .ge 12, 3) := by decide +kernel
theorem dX6_stateAt_13 : decode cX6_stateAt 13 = .ok (.aload_n 0, 1) := by decide +kernel
theorem dX6_stateAt_14 : decode cX6_stateAt 14 = .ok (.getfield 33, 3) := by decide +kernel
theorem dX6_stateAt_17 : decode cX6_stateAt 17 = .ok (.iload_n 1, 1) := by decide +kernel
theorem dX6_stateAt_18 : decode cX6_stateAt 18 = .ok (.aaload, 1) := by decide +kernel
theorem dX6_stateAt_19 : decode cX6_stateAt 19 = .ok (.goto 4, 3) := by decide +kernel
theorem dX6_stateAt_22 : decode cX6_stateAt 22 = .ok (.aconst_null, 1) := by decide +kernel
theorem dX6_stateAt_23 : decode cX6_stateAt 23 = .ok (.areturn, 1) := by decide +kernel
theorem dX6_at_0 : decode cX6_at 0 = .ok (.iload_n 1, 1) := by decide +kernel
theorem dX6_at_1 : decode cX6_at 1 = .ok (.ifCond .lt 15, 3) := by decide +kernel
theorem dX6_at_4 : decode cX6_at 4 = .ok (.iload_n 1, 1) := by decide +kernel
theorem dX6_at_5 : decode cX6_at 5 = .ok (.aload_n 0, 1) := by decide +kernel
theorem dX6_at_6 : decode cX6_at 6 = .ok (.arraylength, 1) := by decide +kernel
theorem dX6_at_7 : decode cX6_at 7 = .ok (.if_icmp .ge 9, 3) := by decide +kernel
theorem dX6_at_10 : decode cX6_at 10 = .ok (.aload_n 0, 1) := by decide +kernel
theorem dX6_at_11 : decode cX6_at 11 = .ok (.iload_n 1, 1) := by decide +kernel
theorem dX6_at_12 : decode cX6_at 12 = .ok (.iaload, 1) := by decide +kernel
theorem dX6_at_13 : decode cX6_at 13 = .ok (.goto 4, 3) := by decide +kernel
theorem dX6_at_16 : decode cX6_at 16 = .ok (.iconst 0, 1) := by decide +kernel
theorem dX6_at_17 : decode cX6_at 17 = .ok (.ireturn, 1) := by decide +kernel
theorem dX6_put_0 : decode cX6_put 0 = .ok (.iload_n 1, 1) := by decide +kernel
theorem dX6_put_1 : decode cX6_put 1 = .ok (.ifCond .lt 13, 3) := by decide +kernel
theorem dX6_put_4 : decode cX6_put 4 = .ok (.iload_n 1, 1) := by decide +kernel
theorem dX6_put_5 : decode cX6_put 5 = .ok (.aload_n 0, 1) := by decide +kernel
theorem dX6_put_6 : decode cX6_put 6 = .ok (.arraylength, 1) := by decide +kernel
theorem dX6_put_7 : decode cX6_put 7 = .ok (.if_icmp .ge 7, 3) := by decide +kernel
theorem dX6_put_10 : decode cX6_put 10 = .ok (.aload_n 0, 1) := by decide +kernel
theorem dX6_put_11 : decode cX6_put 11 = .ok (.iload_n 1, 1) := by decide +kernel
theorem dX6_put_12 : decode cX6_put 12 = .ok (.iload_n 2, 1) := by decide +kernel
theorem dX6_put_13 : decode cX6_put 13 = .ok (.iastore, 1) := by decide +kernel
theorem dX6_put_14 : decode cX6_put 14 = .ok (.return_, 1) := by decide +kernel
theorem dX6_newRow_0 : decode cX6_newRow 0 = .ok (.iload_n 0, 1) := by decide +kernel
theorem dX6_newRow_1 : decode cX6_newRow 1 = .ok (.iconst 0, 1) := by decide +kernel
theorem dX6_newRow_2 : decode cX6_newRow 2 = .ok (.invokestatic 213, 3) := by decide +kernel
theorem dX6_newRow_5 : decode cX6_newRow 5 = .ok (.newarray .int, 2) := by decide +kernel
theorem dX6_newRow_7 : decode cX6_newRow 7 = .ok (.areturn, 1) := by decide +kernel
theorem dX6_copy_0 : decode cX6_copy 0 = .ok (.iconst 0, 1) := by decide +kernel
theorem dX6_copy_1 : decode cX6_copy 1 = .ok (.istore_n 2, 1) := by decide +kernel
theorem dX6_copy_2 : decode cX6_copy 2 = .ok (.iload_n 2, 1) := by decide +kernel
theorem dX6_copy_3 : decode cX6_copy 3 = .ok (.aload_n 0, 1) := by decide +kernel
theorem dX6_copy_4 : decode cX6_copy 4 = .ok (.arraylength, 1) := by decide +kernel
theorem dX6_copy_5 : decode cX6_copy 5 = .ok (.if_icmp .ge 21, 3) := by decide +kernel
theorem dX6_copy_8 : decode cX6_copy 8 = .ok (.iload_n 2, 1) := by decide +kernel
theorem dX6_copy_9 : decode cX6_copy 9 = .ok (.aload_n 1, 1) := by decide +kernel
theorem dX6_copy_10 : decode cX6_copy 10 = .ok (.arraylength, 1) := by decide +kernel
theorem dX6_copy_11 : decode cX6_copy 11 = .ok (.if_icmp .ge 15, 3) := by decide +kernel
theorem dX6_copy_14 : decode cX6_copy 14 = .ok (.aload_n 1, 1) := by decide +kernel
theorem dX6_copy_15 : decode cX6_copy 15 = .ok (.iload_n 2, 1) := by decide +kernel
theorem dX6_copy_16 : decode cX6_copy 16 = .ok (.aload_n 0, 1) := by decide +kernel
theorem dX6_copy_17 : decode cX6_copy 17 = .ok (.iload_n 2, 1) := by decide +kernel
theorem dX6_copy_18 : decode cX6_copy 18 = .ok (.iaload, 1) := by decide +kernel
theorem dX6_copy_19 : decode cX6_copy 19 = .ok (.iastore, 1) := by decide +kernel
theorem dX6_copy_20 : decode cX6_copy 20 = .ok (.iinc 2 1, 3) := by decide +kernel
theorem dX6_copy_23 : decode cX6_copy 23 = .ok (.goto (-21), 3) := by decide +kernel
theorem dX6_copy_26 : decode cX6_copy 26 = .ok (.return_, 1) := by decide +kernel
theorem dX7_init_0 : decode cX7_init 0 = .ok (.aload_n 0, 1) := by decide +kernel
theorem dX7_init_1 : decode cX7_init 1 = .ok (.invokespecial 1, 3) := by decide +kernel
theorem dX7_init_4 : decode cX7_init 4 = .ok (.aload_n 0, 1) := by decide +kernel
theorem dX7_init_5 : decode cX7_init 5 = .ok (.bipush 38, 2) := by decide +kernel
theorem dX7_init_7 : decode cX7_init 7 = .ok (.newarray .int, 2) := by decide +kernel
theorem dX7_init_9 : decode cX7_init 9 = .ok (.putfield 7, 3) := by decide +kernel
theorem dX7_init_12 : decode cX7_init 12 = .ok (.aload_n 0, 1) := by decide +kernel
theorem dX7_init_13 : decode cX7_init 13 = .ok (.sipush 152, 3) := by decide +kernel
theorem dX7_init_16 : decode cX7_init 16 = .ok (.newarray .int, 2) := by decide +kernel
theorem dX7_init_18 : decode cX7_init 18 = .ok (.putfield 13, 3) := by decide +kernel
theorem dX7_init_21 : decode cX7_init 21 = .ok (.aload_n 0, 1) := by decide +kernel
theorem dX7_init_22 : decode cX7_init 22 = .ok (.bipush 38, 2) := by decide +kernel
theorem dX7_init_24 : decode cX7_init 24 = .ok (.newarray .int, 2) := by decide +kernel
theorem dX7_init_26 : decode cX7_init 26 = .ok (.putfield 16, 3) := by decide +kernel
theorem dX7_init_29 : decode cX7_init 29 = .ok (.aload_n 0, 1) := by decide +kernel
theorem dX7_init_30 : decode cX7_init 30 = .ok (.bipush 38, 2) := by decide +kernel
theorem dX7_init_32 : decode cX7_init 32 = .ok (.newarray .int, 2) := by decide +kernel
theorem dX7_init_34 : decode cX7_init 34 = .ok (.putfield 19, 3) := by decide +kernel
theorem dX7_init_37 : decode cX7_init 37 = .ok (.aload_n 0, 1) := by decide +kernel
theorem dX7_init_38 : decode cX7_init 38 = .ok (.bipush 50, 2) := by decide +kernel
theorem dX7_init_40 : decode cX7_init 40 = .ok (.newarray .char, 2) := by decide +kernel
theorem dX7_init_42 : decode cX7_init 42 = .ok (.putfield 22, 3) := by decide +kernel
theorem dX7_init_45 : decode cX7_init 45 = .ok (.aload_n 0, 1) := by decide +kernel
theorem dX7_init_46 : decode cX7_init 46 = .ok (.bipush 6, 2) := by decide +kernel
theorem dX7_init_48 : decode cX7_init 48 = .ok (.newarray .int, 2) := by decide +kernel
theorem dX7_init_50 : decode cX7_init 50 = .ok (.putfield 26, 3) := by decide +kernel
theorem dX7_init_53 : decode cX7_init 53 = .ok (.aload_n 0, 1) := by decide +kernel
theorem dX7_init_54 : decode cX7_init 54 = .ok (.bipush 6, 2) := by decide +kernel
theorem dX7_init_56 : decode cX7_init 56 = .ok (.newarray .int, 2) := by decide +kernel
theorem dX7_init_58 : decode cX7_init 58 = .ok (.putfield 29, 3) := by decide +kernel
theorem dX7_init_61 : decode cX7_init 61 = .ok (.aload_n 0, 1) := by decide +kernel
theorem dX7_init_62 : decode cX7_init 62 = .ok (.sipush 23040, 3) := by decide +kernel
theorem dX7_init_65 : decode cX7_init 65 = .ok (.newarray .int, 2) := by decide +kernel
theorem dX7_init_67 : decode cX7_init 67 = .ok (.putfield 32, 3) := by decide +kernel
theorem dX7_init_70 : decode cX7_init 70 = .ok (.aload_n 0, 1) := by decide +kernel
theorem dX7_init_71 : decode cX7_init 71 = .ok (.sipush 3840, 3) := by decide +kernel
theorem dX7_init_74 : decode cX7_init 74 = .ok (.newarray .int, 2) := by decide +kernel
theorem dX7_init_76 : decode cX7_init 76 = .ok (.putfield 35, 3) := by decide +kernel
theorem dX7_init_79 : decode cX7_init 79 = .ok (.aload_n 0, 1) := by decide +kernel
theorem dX7_init_80 : decode cX7_init 80 = .ok (.sipush 3840, 3) := by decide +kernel
theorem dX7_init_83 : decode cX7_init 83 = .ok (.newarray .int, 2) := by decide +kernel
theorem dX7_init_85 : decode cX7_init 85 = .ok (.putfield 38, 3) := by decide +kernel
theorem dX7_init_88 : decode cX7_init 88 = .ok (.aload_n 0, 1) := by decide +kernel
theorem dX7_init_89 : decode cX7_init 89 = .ok (.sipush 3840, 3) := by decide +kernel
theorem dX7_init_92 : decode cX7_init 92 = .ok (.newarray .int, 2) := by decide +kernel
theorem dX7_init_94 : decode cX7_init 94 = .ok (.putfield 41, 3) := by decide +kernel
theorem dX7_init_97 : decode cX7_init 97 = .ok (.aload_n 0, 1) := by decide +kernel
theorem dX7_init_98 : decode cX7_init 98 = .ok (.bipush 8, 2) := by decide +kernel
theorem dX7_init_100 : decode cX7_init 100 = .ok (.newarray .int, 2) := by decide +kernel
theorem dX7_init_102 : decode cX7_init 102 = .ok (.putfield 44, 3) := by decide +kernel
theorem dX7_init_105 : decode cX7_init 105 = .ok (.aload_n 0, 1) := by decide +kernel
theorem dX7_init_106 : decode cX7_init 106 = .ok (.bipush 8, 2) := by decide +kernel
theorem dX7_init_108 : decode cX7_init 108 = .ok (.newarray .int, 2) := by decide +kernel
theorem dX7_init_110 : decode cX7_init 110 = .ok (.putfield 47, 3) := by decide +kernel
theorem dX7_init_113 : decode cX7_init 113 = .ok (.return_, 1) := by decide +kernel
theorem dX7_in_0 : decode cX7_in 0 = .ok (.iload_n 0, 1) := by decide +kernel
theorem dX7_in_1 : decode cX7_in 1 = .ok (.iload_n 1, 1) := by decide +kernel
theorem dX7_in_2 : decode cX7_in 2 = .ok (.if_icmp .lt 12, 3) := by decide +kernel
theorem dX7_in_5 : decode cX7_in 5 = .ok (.iload_n 0, 1) := by decide +kernel
theorem dX7_in_6 : decode cX7_in 6 = .ok (.iload_n 2, 1) := by decide +kernel
theorem dX7_in_7 : decode cX7_in 7 = .ok (.if_icmp .gt 7, 3) := by decide +kernel
theorem dX7_in_10 : decode cX7_in 10 = .ok (.iconst 1, 1) := by decide +kernel
theorem dX7_in_11 : decode cX7_in 11 = .ok (.goto 4, 3) := by decide +kernel
theorem dX7_in_14 : decode cX7_in 14 = .ok (.iconst 0, 1) := by decide +kernel
theorem dX7_in_15 : decode cX7_in 15 = .ok (.ireturn, 1) := by decide +kernel
theorem dX7_st_0 : decode cX7_st 0 = .ok (.aload_n 0, 1) := by decide +kernel
theorem dX7_st_1 : decode cX7_st 1 = .ok (.getfield 7, 3) := by decide +kernel
theorem dX7_st_4 : decode cX7_st 4 = .ok (.bipush 8, 2) := by decide +kernel
theorem dX7_st_6 : decode cX7_st 6 = .ok (.bipush 6, 2) := by decide +kernel
theorem dX7_st_8 : decode cX7_st 8 = .ok (.iload_n 1, 1) := by decide +kernel
theorem dX7_st_9 : decode cX7_st 9 = .ok (.imul, 1) := by decide +kernel
theorem dX7_st_10 : decode cX7_st 10 = .ok (.iadd, 1) := by decide +kernel
theorem dX7_st_11 : decode cX7_st 11 = .ok (.iload_n 2, 1) := by decide +kernel
theorem dX7_st_12 : decode cX7_st 12 = .ok (.iadd, 1) := by decide +kernel
theorem dX7_st_13 : decode cX7_st 13 = .ok (.iaload, 1) := by decide +kernel
theorem dX7_st_14 : decode cX7_st 14 = .ok (.ireturn, 1) := by decide +kernel
theorem dX7_isStack_0 : decode cX7_isStack 0 = .ok (.iload_n 1, 1) := by decide +kernel
theorem dX7_isStack_1 : decode cX7_isStack 1 = .ok (.iconst 0, 1) := by decide +kernel
theorem dX7_isStack_2 : decode cX7_isStack 2 = .ok (.aload_n 0, 1) := by decide +kernel
theorem dX7_isStack_3 : decode cX7_isStack 3 = .ok (.getfield 7, 3) := by decide +kernel
theorem dX7_isStack_6 : decode cX7_isStack 6 = .ok (.iconst 0, 1) := by decide +kernel
theorem dX7_isStack_7 : decode cX7_isStack 7 = .ok (.iaload, 1) := by decide +kernel
theorem dX7_isStack_8 : decode cX7_isStack 8 = .ok (.iconst 1, 1) := by decide +kernel
theorem dX7_isStack_9 : decode cX7_isStack 9 = .ok (.isub, 1) := by decide +kernel
theorem dX7_isStack_10 : decode cX7_isStack 10 = .ok (.invokestatic 50, 3) := by decide +kernel
theorem dX7_isStack_13 : decode cX7_isStack 13 = .ok (.ireturn, 1) := by decide +kernel
theorem dX7_hasSides_0 : decode cX7_hasSides 0 = .ok (.iload_n 0, 1) := by decide +kernel
theorem dX7_hasSides_1 : decode cX7_hasSides 1 = .ok (.iconst 1, 1) := by decide +kernel
theorem dX7_hasSides_2 : decode cX7_hasSides 2 = .ok (.if_icmp .eq 8, 3) := by decide +kernel
theorem dX7_hasSides_5 : decode cX7_hasSides 5 = .ok (.iload_n 0, 1) := by decide +kernel
theorem dX7_hasSides_6 : decode cX7_hasSides 6 = .ok (.iconst 3, 1) := by decide +kernel
theorem dX7_hasSides_7 : decode cX7_hasSides 7 = .ok (.if_icmp .ne 7, 3) := by decide +kernel
theorem dX7_hasSides_10 : decode cX7_hasSides 10 = .ok (.iconst 1, 1) := by decide +kernel
theorem dX7_hasSides_11 : decode cX7_hasSides 11 = .ok (.goto 4, 3) := by decide +kernel
theorem dX7_hasSides_14 : decode cX7_hasSides 14 = .ok (.iconst 0, 1) := by decide +kernel
theorem dX7_hasSides_15 : decode cX7_hasSides 15 = .ok (.ireturn, 1) := by decide +kernel
theorem dX7_keeps_0 : decode cX7_keeps 0 = .ok (.iconst 0, 1) := by decide +kernel
theorem dX7_keeps_1 : decode cX7_keeps 1 = .ok (.istore_n 1, 1) := by decide +kernel
theorem dX7_keeps_2 : decode cX7_keeps 2 = .ok (.iload_n 1, 1) := by decide +kernel
theorem dX7_keeps_3 : decode cX7_keeps 3 = .ok (.bipush 38, 2) := by decide +kernel
theorem dX7_keeps_5 : decode cX7_keeps 5 = .ok (.if_icmp .ge 21, 3) := by decide +kernel
theorem dX7_keeps_8 : decode cX7_keeps 8 = .ok (.aload_n 0, 1) := by decide +kernel
theorem dX7_keeps_9 : decode cX7_keeps 9 = .ok (.getfield 16, 3) := by decide +kernel
theorem dX7_keeps_12 : decode cX7_keeps 12 = .ok (.iload_n 1, 1) := by decide +kernel
theorem dX7_keeps_13 : decode cX7_keeps 13 = .ok (.aload_n 0, 1) := by decide +kernel
theorem dX7_keeps_14 : decode cX7_keeps 14 = .ok (.getfield 7, 3) := by decide +kernel
theorem dX7_keeps_17 : decode cX7_keeps 17 = .ok (.iload_n 1, 1) := by decide +kernel
theorem dX7_keeps_18 : decode cX7_keeps 18 = .ok (.iaload, 1) := by decide +kernel
theorem dX7_keeps_19 : decode cX7_keeps 19 = .ok (.iastore, 1) := by decide +kernel
theorem dX7_keeps_20 : decode cX7_keeps 20 = .ok (.iinc 1 1, 3) := by decide +kernel
theorem dX7_keeps_23 : decode cX7_keeps 23 = .ok (.goto (-21), 3) := by decide +kernel
theorem dX7_keeps_26 : decode cX7_keeps 26 = .ok (.return_, 1) := by decide +kernel
theorem dX7_acted_0 : decode cX7_acted 0 = .ok (.iload_n 1, 1) := by decide +kernel
theorem dX7_acted_1 : decode cX7_acted 1 = .ok (.ldc 54, 2) := by decide +kernel
theorem dX7_acted_3 : decode cX7_acted 3 = .ok (.if_icmp .le 94, 3) := by decide +kernel
theorem dX7_acted_6 : decode cX7_acted 6 = .ok (.aload_n 0, 1) := by decide +kernel
theorem dX7_acted_7 : decode cX7_acted 7 = .ok (.getfield 55, 3) := by decide +kernel
theorem dX7_acted_10 : decode cX7_acted 10 = .ok (.iconst 4, 1) := by decide +kernel
theorem dX7_acted_11 : decode cX7_acted 11 = .ok (.if_icmp .ne 42, 3) := by decide +kernel
theorem dX7_acted_14 : decode cX7_acted 14 = .ok (.iconst 0, 1) := by decide +kernel
theorem dX7_acted_15 : decode cX7_acted 15 = .ok (.istore_n 2, 1) := by decide +kernel
theorem dX7_acted_16 : decode cX7_acted 16 = .ok (.iload_n 2, 1) := by decide +kernel
theorem dX7_acted_17 : decode cX7_acted 17 = .ok (.bipush 114, 2) := by decide +kernel
theorem dX7_acted_19 : decode cX7_acted 19 = .ok (.if_icmp .ge 24, 3) := by decide +kernel
theorem dX7_acted_22 : decode cX7_acted 22 = .ok (.aload_n 0, 1) := by decide +kernel
theorem dX7_acted_23 : decode cX7_acted 23 = .ok (.getfield 13, 3) := by decide +kernel
theorem dX7_acted_26 : decode cX7_acted 26 = .ok (.iload_n 2, 1) := by decide +kernel
theorem dX7_acted_27 : decode cX7_acted 27 = .ok (.aload_n 0, 1) := by decide +kernel
theorem dX7_acted_28 : decode cX7_acted 28 = .ok (.getfield 13, 3) := by decide +kernel
theorem dX7_acted_31 : decode cX7_acted 31 = .ok (.iload_n 2, 1) := by decide +kernel
theorem dX7_acted_32 : decode cX7_acted 32 = .ok (.bipush 38, 2) := by decide +kernel
theorem dX7_acted_34 : decode cX7_acted 34 = .ok (.iadd, 1) := by decide +kernel
theorem dX7_acted_35 : decode cX7_acted 35 = .ok (.iaload, 1) := by decide +kernel
theorem dX7_acted_36 : decode cX7_acted 36 = .ok (.iastore, 1) := by decide +kernel
theorem dX7_acted_37 : decode cX7_acted 37 = .ok (.iinc 2 1, 3) := by decide +kernel
theorem dX7_acted_40 : decode cX7_acted 40 = .ok (.goto (-24), 3) := by decide +kernel
theorem dX7_acted_43 : decode cX7_acted 43 = .ok (.aload_n 0, 1) := by decide +kernel
theorem dX7_acted_44 : decode cX7_acted 44 = .ok (.dup, 1) := by decide +kernel
theorem dX7_acted_45 : decode cX7_acted 45 = .ok (.getfield 55, 3) := by decide +kernel
theorem dX7_acted_48 : decode cX7_acted 48 = .ok (.iconst 1, 1) := by decide +kernel
theorem dX7_acted_49 : decode cX7_acted 49 = .ok (.isub, 1) := by decide +kernel
theorem dX7_acted_50 : decode cX7_acted 50 = .ok (.putfield 55, 3) := by decide +kernel
theorem dX7_acted_53 : decode cX7_acted 53 = .ok (.iconst 0, 1) := by decide +kernel
theorem dX7_acted_54 : decode cX7_acted 54 = .ok (.istore_n 2, 1) := by decide +kernel
theorem dX7_acted_55 : decode cX7_acted 55 = .ok (.iload_n 2, 1) := by decide +kernel
theorem dX7_acted_56 : decode cX7_acted 56 = .ok (.bipush 38, 2) := by decide +kernel
theorem dX7_acted_58 : decode cX7_acted 58 = .ok (.if_icmp .ge 29, 3) := by decide +kernel
theorem dX7_acted_61 : decode cX7_acted 61 = .ok (.aload_n 0, 1) := by decide +kernel
theorem dX7_acted_62 : decode cX7_acted 62 = .ok (.getfield 13, 3) := by decide +kernel
theorem dX7_acted_65 : decode cX7_acted 65 = .ok (.bipush 38, 2) := by decide +kernel
theorem dX7_acted_67 : decode cX7_acted 67 = .ok (.aload_n 0, 1) := by decide +kernel
theorem dX7_acted_68 : decode cX7_acted 68 = .ok (.getfield 55, 3) := by decide +kernel
theorem dX7_acted_71 : decode cX7_acted 71 = .ok (.imul, 1) := by decide +kernel
theorem dX7_acted_72 : decode cX7_acted 72 = .ok (.iload_n 2, 1) := by decide +kernel
theorem dX7_acted_73 : decode cX7_acted 73 = .ok (.iadd, 1) := by decide +kernel
theorem dX7_acted_74 : decode cX7_acted 74 = .ok (.aload_n 0, 1) := by decide +kernel
theorem dX7_acted_75 : decode cX7_acted 75 = .ok (.getfield 16, 3) := by decide +kernel
theorem dX7_acted_78 : decode cX7_acted 78 = .ok (.iload_n 2, 1) := by decide +kernel
theorem dX7_acted_79 : decode cX7_acted 79 = .ok (.iaload, 1) := by decide +kernel
theorem dX7_acted_80 : decode cX7_acted 80 = .ok (.iastore, 1) := by decide +kernel
theorem dX7_acted_81 : decode cX7_acted 81 = .ok (.iinc 2 1, 3) := by decide +kernel
theorem dX7_acted_84 : decode cX7_acted 84 = .ok (.goto (-29), 3) := by decide +kernel
theorem dX7_acted_87 : decode cX7_acted 87 = .ok (.aload_n 0, 1) := by decide +kernel
theorem dX7_acted_88 : decode cX7_acted 88 = .ok (.dup, 1) := by decide +kernel
theorem dX7_acted_89 : decode cX7_acted 89 = .ok (.getfield 55, 3) := by decide +kernel
theorem dX7_acted_92 : decode cX7_acted 92 = .ok (.iconst 1, 1) := by decide +kernel
theorem dX7_acted_93 : decode cX7_acted 93 = .ok (.iadd, 1) := by decide +kernel
theorem dX7_acted_94 : decode cX7_acted 94 = .ok (.putfield 55, 3) := by decide +kernel
theorem dX7_acted_97 : decode cX7_acted 97 = .ok (.iload_n 1, 1) := by decide +kernel
theorem dX7_acted_98 : decode cX7_acted 98 = .ok (.ireturn, 1) := by decide +kernel
theorem dX7_lays_0 : decode cX7_lays 0 = .ok (.iload_n 1, 1) := by decide +kernel
theorem dX7_lays_1 : decode cX7_lays 1 = .ok (.istore_n 3, 1) := by decide +kernel
theorem dX7_lays_2 : decode cX7_lays 2 = .ok (.aload_n 0, 1) := by decide +kernel
theorem dX7_lays_3 : decode cX7_lays 3 = .ok (.getfield 59, 3) := by decide +kernel
theorem dX7_lays_6 : decode cX7_lays 6 = .ok (.iconst 1, 1) := by decide +kernel
