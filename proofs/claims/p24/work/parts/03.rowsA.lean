theorem dX0_init_0 : decode cX0_init 0 = .ok (.aload_n 0, 1) := by decide +kernel
theorem dX0_init_1 : decode cX0_init 1 = .ok (.invokespecial 3, 3) := by decide +kernel
theorem dX0_init_4 : decode cX0_init 4 = .ok (.aload_n 0, 1) := by decide +kernel
theorem dX0_init_5 : decode cX0_init 5 = .ok (.iconst 0, 1) := by decide +kernel
theorem dX0_init_6 : decode cX0_init 6 = .ok (.putfield 9, 3) := by decide +kernel
theorem dX0_init_9 : decode cX0_init 9 = .ok (.aload_n 0, 1) := by decide +kernel
theorem dX0_init_10 : decode cX0_init 10 = .ok (.iconst 0, 1) := by decide +kernel
theorem dX0_init_11 : decode cX0_init 11 = .ok (.putfield 15, 3) := by decide +kernel
theorem dX0_init_14 : decode cX0_init 14 = .ok (.aload_n 0, 1) := by decide +kernel
theorem dX0_init_15 : decode cX0_init 15 = .ok (.iconst 3, 1) := by decide +kernel
theorem dX0_init_16 : decode cX0_init 16 = .ok (.newarray .int, 2) := by decide +kernel
theorem dX0_init_18 : decode cX0_init 18 = .ok (.putfield 18, 3) := by decide +kernel
theorem dX0_init_21 : decode cX0_init 21 = .ok (.aload_n 0, 1) := by decide +kernel
theorem dX0_init_22 : decode cX0_init 22 = .ok (.iconst 3, 1) := by decide +kernel
theorem dX0_init_23 : decode cX0_init 23 = .ok (.newarray .int, 2) := by decide +kernel
theorem dX0_init_25 : decode cX0_init 25 = .ok (.putfield 22, 3) := by decide +kernel
theorem dX0_init_28 : decode cX0_init 28 = .ok (.aload_n 0, 1) := by decide +kernel
theorem dX0_init_29 : decode cX0_init 29 = .ok (.iconst 5, 1) := by decide +kernel
theorem dX0_init_30 : decode cX0_init 30 = .ok (.anewarray 25, 3) := by decide +kernel
theorem dX0_init_33 : decode cX0_init 33 = .ok (.putfield 27, 3) := by decide +kernel
theorem dX0_init_36 : decode cX0_init 36 = .ok (.aload_n 0, 1) := by decide +kernel
theorem dX0_init_37 : decode cX0_init 37 = .ok (.iconst 5, 1) := by decide +kernel
theorem dX0_init_38 : decode cX0_init 38 = .ok (.newarray .int, 2) := by decide +kernel
theorem dX0_init_40 : decode cX0_init 40 = .ok (.putfield 31, 3) := by decide +kernel
theorem dX0_init_43 : decode cX0_init 43 = .ok (.aload_n 0, 1) := by decide +kernel
theorem dX0_init_44 : decode cX0_init 44 = .ok (.iconst 5, 1) := by decide +kernel
theorem dX0_init_45 : decode cX0_init 45 = .ok (.newarray .int, 2) := by decide +kernel
theorem dX0_init_47 : decode cX0_init 47 = .ok (.putfield 34, 3) := by decide +kernel
theorem dX0_init_50 : decode cX0_init 50 = .ok (.return_, 1) := by decide +kernel
theorem dX0_copyFrom_0 : decode cX0_copyFrom 0 = .ok (.aload_n 0, 1) := by decide +kernel
theorem dX0_copyFrom_1 : decode cX0_copyFrom 1 = .ok (.aload_n 1, 1) := by decide +kernel
theorem dX0_copyFrom_2 : decode cX0_copyFrom 2 = .ok (.getfield 9, 3) := by decide +kernel
theorem dX0_copyFrom_5 : decode cX0_copyFrom 5 = .ok (.putfield 9, 3) := by decide +kernel
theorem dX0_copyFrom_8 : decode cX0_copyFrom 8 = .ok (.aload_n 0, 1) := by decide +kernel
theorem dX0_copyFrom_9 : decode cX0_copyFrom 9 = .ok (.aload_n 1, 1) := by decide +kernel
theorem dX0_copyFrom_10 : decode cX0_copyFrom 10 = .ok (.getfield 15, 3) := by decide +kernel
theorem dX0_copyFrom_13 : decode cX0_copyFrom 13 = .ok (.putfield 15, 3) := by decide +kernel
theorem dX0_copyFrom_16 : decode cX0_copyFrom 16 = .ok (.iconst 0, 1) := by decide +kernel
theorem dX0_copyFrom_17 : decode cX0_copyFrom 17 = .ok (.istore_n 2, 1) := by decide +kernel
theorem dX0_copyFrom_18 : decode cX0_copyFrom 18 = .ok (.iload_n 2, 1) := by decide +kernel
theorem dX0_copyFrom_19 : decode cX0_copyFrom 19 = .ok (.aload_n 0, 1) := by decide +kernel
theorem dX0_copyFrom_20 : decode cX0_copyFrom 20 = .ok (.getfield 27, 3) := by decide +kernel
theorem dX0_copyFrom_23 : decode cX0_copyFrom 23 = .ok (.arraylength, 1) := by decide +kernel
theorem dX0_copyFrom_24 : decode cX0_copyFrom 24 = .ok (.if_icmp .ge 30, 3) := by decide +kernel
theorem dX0_copyFrom_27 : decode cX0_copyFrom 27 = .ok (.iload_n 2, 1) := by decide +kernel
theorem dX0_copyFrom_28 : decode cX0_copyFrom 28 = .ok (.aload_n 1, 1) := by decide +kernel
theorem dX0_copyFrom_29 : decode cX0_copyFrom 29 = .ok (.getfield 27, 3) := by decide +kernel
theorem dX0_copyFrom_32 : decode cX0_copyFrom 32 = .ok (.arraylength, 1) := by decide +kernel
theorem dX0_copyFrom_33 : decode cX0_copyFrom 33 = .ok (.if_icmp .ge 21, 3) := by decide +kernel
theorem dX0_copyFrom_36 : decode cX0_copyFrom 36 = .ok (.aload_n 0, 1) := by decide +kernel
theorem dX0_copyFrom_37 : decode cX0_copyFrom 37 = .ok (.getfield 27, 3) := by decide +kernel
theorem dX0_copyFrom_40 : decode cX0_copyFrom 40 = .ok (.iload_n 2, 1) := by decide +kernel
theorem dX0_copyFrom_41 : decode cX0_copyFrom 41 = .ok (.aload_n 1, 1) := by decide +kernel
theorem dX0_copyFrom_42 : decode cX0_copyFrom 42 = .ok (.getfield 27, 3) := by decide +kernel
theorem dX0_copyFrom_45 : decode cX0_copyFrom 45 = .ok (.iload_n 2, 1) := by decide +kernel
theorem dX0_copyFrom_46 : decode cX0_copyFrom 46 = .ok (.aaload, 1) := by decide +kernel
theorem dX0_copyFrom_47 : decode cX0_copyFrom 47 = .ok (.aastore, 1) := by decide +kernel
theorem dX0_copyFrom_48 : decode cX0_copyFrom 48 = .ok (.iinc 2 1, 3) := by decide +kernel
theorem dX0_copyFrom_51 : decode cX0_copyFrom 51 = .ok (.goto (-33), 3) := by decide +kernel
theorem dX0_copyFrom_54 : decode cX0_copyFrom 54 = .ok (.aload_n 1, 1) := by decide +kernel
theorem dX0_copyFrom_55 : decode cX0_copyFrom 55 = .ok (.getfield 31, 3) := by decide +kernel
theorem dX0_copyFrom_58 : decode cX0_copyFrom 58 = .ok (.aload_n 0, 1) := by decide +kernel
theorem dX0_copyFrom_59 : decode cX0_copyFrom 59 = .ok (.getfield 31, 3) := by decide +kernel
theorem dX0_copyFrom_62 : decode cX0_copyFrom 62 = .ok (.invokestatic 37, 3) := by decide +kernel
theorem dX0_copyFrom_65 : decode cX0_copyFrom 65 = .ok (.aload_n 1, 1) := by decide +kernel
theorem dX0_copyFrom_66 : decode cX0_copyFrom 66 = .ok (.getfield 34, 3) := by decide +kernel
theorem dX0_copyFrom_69 : decode cX0_copyFrom 69 = .ok (.aload_n 0, 1) := by decide +kernel
theorem dX0_copyFrom_70 : decode cX0_copyFrom 70 = .ok (.getfield 34, 3) := by decide +kernel
theorem dX0_copyFrom_73 : decode cX0_copyFrom 73 = .ok (.invokestatic 37, 3) := by decide +kernel
theorem dX0_copyFrom_76 : decode cX0_copyFrom 76 = .ok (.aload_n 1, 1) := by decide +kernel
theorem dX0_copyFrom_77 : decode cX0_copyFrom 77 = .ok (.getfield 18, 3) := by decide +kernel
theorem dX0_copyFrom_80 : decode cX0_copyFrom 80 = .ok (.aload_n 0, 1) := by decide +kernel
theorem dX0_copyFrom_81 : decode cX0_copyFrom 81 = .ok (.getfield 18, 3) := by decide +kernel
theorem dX0_copyFrom_84 : decode cX0_copyFrom 84 = .ok (.invokestatic 37, 3) := by decide +kernel
theorem dX0_copyFrom_87 : decode cX0_copyFrom 87 = .ok (.aload_n 1, 1) := by decide +kernel
theorem dX0_copyFrom_88 : decode cX0_copyFrom 88 = .ok (.getfield 22, 3) := by decide +kernel
theorem dX0_copyFrom_91 : decode cX0_copyFrom 91 = .ok (.aload_n 0, 1) := by decide +kernel
theorem dX0_copyFrom_92 : decode cX0_copyFrom 92 = .ok (.getfield 22, 3) := by decide +kernel
theorem dX0_copyFrom_95 : decode cX0_copyFrom 95 = .ok (.invokestatic 37, 3) := by decide +kernel
theorem dX0_copyFrom_98 : decode cX0_copyFrom 98 = .ok (.return_, 1) := by decide +kernel
theorem dX0_shapeOf_0 : decode cX0_shapeOf 0 = .ok (.iload_n 1, 1) := by decide +kernel
theorem dX0_shapeOf_1 : decode cX0_shapeOf 1 = .ok (.ifCond .lt 29, 3) := by decide +kernel
theorem dX0_shapeOf_4 : decode cX0_shapeOf 4 = .ok (.iload_n 1, 1) := by decide +kernel
theorem dX0_shapeOf_5 : decode cX0_shapeOf 5 = .ok (.aload_n 0, 1) := by decide +kernel
theorem dX0_shapeOf_6 : decode cX0_shapeOf 6 = .ok (.getfield 9, 3) := by decide +kernel
theorem dX0_shapeOf_9 : decode cX0_shapeOf 9 = .ok (.if_icmp .ge 21, 3) := by decide +kernel
theorem dX0_shapeOf_12 : decode cX0_shapeOf 12 = .ok (.iload_n 1, 1) := by decide +kernel
theorem dX0_shapeOf_13 : decode cX0_shapeOf 13 = .ok (.aload_n 0, 1) := by decide +kernel
theorem dX0_shapeOf_14 : decode cX0_shapeOf 14 = .ok (.getfield 27, 3) := by decide +kernel
theorem dX0_shapeOf_17 : decode cX0_shapeOf 17 = .ok (.arraylength, 1) := by decide +kernel
theorem dX0_shapeOf_18 : decode cX0_shapeOf 18 = .ok (.if_icmp .ge 12, 3) := by decide +kernel
theorem dX0_shapeOf_21 : decode cX0_shapeOf 21 = .ok (.aload_n 0, 1) := by decide +kernel
theorem dX0_shapeOf_22 : decode cX0_shapeOf 22 = .ok (.getfield 27, 3) := by decide +kernel
theorem dX0_shapeOf_25 : decode cX0_shapeOf 25 = .ok (.iload_n 1, 1) := by decide +kernel
theorem dX0_shapeOf_26 : decode cX0_shapeOf 26 = .ok (.aaload, 1) := by decide +kernel
theorem dX0_shapeOf_27 : decode cX0_shapeOf 27 = .ok (.goto 4, 3) := by decide +kernel
theorem dX0_shapeOf_30 : decode cX0_shapeOf 30 = .ok (.aconst_null, 1) := by decide +kernel
theorem dX0_shapeOf_31 : decode cX0_shapeOf 31 = .ok (.areturn, 1) := by decide +kernel
theorem dX0_rankOf_0 : decode cX0_rankOf 0 = .ok (.aload_n 0, 1) := by decide +kernel
theorem dX0_rankOf_1 : decode cX0_rankOf 1 = .ok (.getfield 31, 3) := by decide +kernel
theorem dX0_rankOf_4 : decode cX0_rankOf 4 = .ok (.iload_n 1, 1) := by decide +kernel
theorem dX0_rankOf_5 : decode cX0_rankOf 5 = .ok (.invokestatic 41, 3) := by decide +kernel
theorem dX0_rankOf_8 : decode cX0_rankOf 8 = .ok (.ireturn, 1) := by decide +kernel
theorem dX0_madeOf_0 : decode cX0_madeOf 0 = .ok (.aload_n 0, 1) := by decide +kernel
theorem dX0_madeOf_1 : decode cX0_madeOf 1 = .ok (.getfield 34, 3) := by decide +kernel
theorem dX0_madeOf_4 : decode cX0_madeOf 4 = .ok (.iload_n 1, 1) := by decide +kernel
theorem dX0_madeOf_5 : decode cX0_madeOf 5 = .ok (.invokestatic 41, 3) := by decide +kernel
theorem dX0_madeOf_8 : decode cX0_madeOf 8 = .ok (.ireturn, 1) := by decide +kernel
theorem dX0_putRank_0 : decode cX0_putRank 0 = .ok (.aload_n 0, 1) := by decide +kernel
theorem dX0_putRank_1 : decode cX0_putRank 1 = .ok (.getfield 31, 3) := by decide +kernel
theorem dX0_putRank_4 : decode cX0_putRank 4 = .ok (.iload_n 1, 1) := by decide +kernel
theorem dX0_putRank_5 : decode cX0_putRank 5 = .ok (.iload_n 2, 1) := by decide +kernel
theorem dX0_putRank_6 : decode cX0_putRank 6 = .ok (.invokestatic 45, 3) := by decide +kernel
theorem dX0_putRank_9 : decode cX0_putRank 9 = .ok (.return_, 1) := by decide +kernel
theorem dX0_add_0 : decode cX0_add 0 = .ok (.aload_n 0, 1) := by decide +kernel
theorem dX0_add_1 : decode cX0_add 1 = .ok (.getfield 9, 3) := by decide +kernel
theorem dX0_add_4 : decode cX0_add 4 = .ok (.ifCond .lt 15, 3) := by decide +kernel
theorem dX0_add_7 : decode cX0_add 7 = .ok (.aload_n 0, 1) := by decide +kernel
theorem dX0_add_8 : decode cX0_add 8 = .ok (.getfield 9, 3) := by decide +kernel
theorem dX0_add_11 : decode cX0_add 11 = .ok (.aload_n 0, 1) := by decide +kernel
theorem dX0_add_12 : decode cX0_add 12 = .ok (.getfield 27, 3) := by decide +kernel
theorem dX0_add_15 : decode cX0_add 15 = .ok (.arraylength, 1) := by decide +kernel
theorem dX0_add_16 : decode cX0_add 16 = .ok (.if_icmp .lt 5, 3) := by decide +kernel
theorem dX0_add_19 : decode cX0_add 19 = .ok (.iconst (-1), 1) := by decide +kernel
theorem dX0_add_20 : decode cX0_add 20 = .ok (.ireturn, 1) := by decide +kernel
theorem dX0_add_21 : decode cX0_add 21 = .ok (.aload_n 0, 1) := by decide +kernel
theorem dX0_add_22 : decode cX0_add 22 = .ok (.getfield 9, 3) := by decide +kernel
theorem dX0_add_25 : decode cX0_add 25 = .ok (.istore_n 2, 1) := by decide +kernel
theorem dX0_add_26 : decode cX0_add 26 = .ok (.aload_n 0, 1) := by decide +kernel
theorem dX0_add_27 : decode cX0_add 27 = .ok (.getfield 27, 3) := by decide +kernel
theorem dX0_add_30 : decode cX0_add 30 = .ok (.iload_n 2, 1) := by decide +kernel
theorem dX0_add_31 : decode cX0_add 31 = .ok (.aload_n 1, 1) := by decide +kernel
theorem dX0_add_32 : decode cX0_add 32 = .ok (.aastore, 1) := by decide +kernel
theorem dX0_add_33 : decode cX0_add 33 = .ok (.aload_n 0, 1) := by decide +kernel
theorem dX0_add_34 : decode cX0_add 34 = .ok (.getfield 31, 3) := by decide +kernel
theorem dX0_add_37 : decode cX0_add 37 = .ok (.iload_n 2, 1) := by decide +kernel
theorem dX0_add_38 : decode cX0_add 38 = .ok (.iconst 0, 1) := by decide +kernel
theorem dX0_add_39 : decode cX0_add 39 = .ok (.invokestatic 45, 3) := by decide +kernel
theorem dX0_add_42 : decode cX0_add 42 = .ok (.aload_n 0, 1) := by decide +kernel
theorem dX0_add_43 : decode cX0_add 43 = .ok (.getfield 34, 3) := by decide +kernel
theorem dX0_add_46 : decode cX0_add 46 = .ok (.iload_n 2, 1) := by decide +kernel
theorem dX0_add_47 : decode cX0_add 47 = .ok (.iconst 0, 1) := by decide +kernel
theorem dX0_add_48 : decode cX0_add 48 = .ok (.invokestatic 45, 3) := by decide +kernel
theorem dX0_add_51 : decode cX0_add 51 = .ok (.aload_n 0, 1) := by decide +kernel
theorem dX0_add_52 : decode cX0_add 52 = .ok (.dup, 1) := by decide +kernel
theorem dX0_add_53 : decode cX0_add 53 = .ok (.getfield 9, 3) := by decide +kernel
theorem dX0_add_56 : decode cX0_add 56 = .ok (.iconst 1, 1) := by decide +kernel
theorem dX0_add_57 : decode cX0_add 57 = .ok (.iadd, 1) := by decide +kernel
theorem dX0_add_58 : decode cX0_add 58 = .ok (.putfield 9, 3) := by decide +kernel
theorem dX0_add_61 : decode cX0_add 61 = .ok (.iload_n 2, 1) := by decide +kernel
theorem dX0_add_62 : decode cX0_add 62 = .ok (.ireturn, 1) := by decide +kernel
theorem dX0_makeTurn_0 : decode cX0_makeTurn 0 = .ok (.aload_n 0, 1) := by decide +kernel
theorem dX0_makeTurn_1 : decode cX0_makeTurn 1 = .ok (.iload_n 1, 1) := by decide +kernel
theorem dX0_makeTurn_2 : decode cX0_makeTurn 2 = .ok (.invokevirtual 49, 3) := by decide +kernel
theorem dX0_makeTurn_5 : decode cX0_makeTurn 5 = .ok (.astore_n 3, 1) := by decide +kernel
theorem dX0_makeTurn_6 : decode cX0_makeTurn 6 = .ok (.aload_n 3, 1) := by decide +kernel
theorem dX0_makeTurn_7 : decode cX0_makeTurn 7 = .ok (.ifnull 16, 3) := by decide +kernel
theorem dX0_makeTurn_10 : decode cX0_makeTurn 10 = .ok (.aload_n 3, 1) := by decide +kernel
theorem dX0_makeTurn_11 : decode cX0_makeTurn 11 = .ok (.aload_n 0, 1) := by decide +kernel
theorem dX0_makeTurn_12 : decode cX0_makeTurn 12 = .ok (.iload_n 1, 1) := by decide +kernel
theorem dX0_makeTurn_13 : decode cX0_makeTurn 13 = .ok (.invokevirtual 53, 3) := by decide +kernel
theorem dX0_makeTurn_16 : decode cX0_makeTurn 16 = .ok (.iload_n 2, 1) := by decide +kernel
theorem dX0_makeTurn_17 : decode cX0_makeTurn 17 = .ok (.invokevirtual 57, 3) := by decide +kernel
theorem dX0_makeTurn_20 : decode cX0_makeTurn 20 = .ok (.ifCond .ne 5, 3) := by decide +kernel
theorem dX0_makeTurn_23 : decode cX0_makeTurn 23 = .ok (.iconst 0, 1) := by decide +kernel
theorem dX0_makeTurn_24 : decode cX0_makeTurn 24 = .ok (.ireturn, 1) := by decide +kernel
theorem dX0_makeTurn_25 : decode cX0_makeTurn 25 = .ok (.aload_n 0, 1) := by decide +kernel
theorem dX0_makeTurn_26 : decode cX0_makeTurn 26 = .ok (.iload_n 1, 1) := by decide +kernel
theorem dX0_makeTurn_27 : decode cX0_makeTurn 27 = .ok (.aload_n 3, 1) := by decide +kernel
theorem dX0_makeTurn_28 : decode cX0_makeTurn 28 = .ok (.getfield 61, 3) := by decide +kernel
theorem dX0_makeTurn_31 : decode cX0_makeTurn 31 = .ok (.aload_n 0, 1) := by decide +kernel
theorem dX0_makeTurn_32 : decode cX0_makeTurn 32 = .ok (.iload_n 1, 1) := by decide +kernel
theorem dX0_makeTurn_33 : decode cX0_makeTurn 33 = .ok (.invokevirtual 53, 3) := by decide +kernel
theorem dX0_makeTurn_36 : decode cX0_makeTurn 36 = .ok (.iload_n 2, 1) := by decide +kernel
theorem dX0_makeTurn_37 : decode cX0_makeTurn 37 = .ok (.invokevirtual 65, 3) := by decide +kernel
theorem dX0_makeTurn_40 : decode cX0_makeTurn 40 = .ok (.invokevirtual 71, 3) := by decide +kernel
theorem dX0_makeTurn_43 : decode cX0_makeTurn 43 = .ok (.aload_n 0, 1) := by decide +kernel
theorem dX0_makeTurn_44 : decode cX0_makeTurn 44 = .ok (.getfield 34, 3) := by decide +kernel
theorem dX0_makeTurn_47 : decode cX0_makeTurn 47 = .ok (.iload_n 1, 1) := by decide +kernel
theorem dX0_makeTurn_48 : decode cX0_makeTurn 48 = .ok (.aload_n 0, 1) := by decide +kernel
theorem dX0_makeTurn_49 : decode cX0_makeTurn 49 = .ok (.iload_n 1, 1) := by decide +kernel
theorem dX0_makeTurn_50 : decode cX0_makeTurn 50 = .ok (.invokevirtual 75, 3) := by decide +kernel
theorem dX0_makeTurn_53 : decode cX0_makeTurn 53 = .ok (.iconst 1, 1) := by decide +kernel
theorem dX0_makeTurn_54 : decode cX0_makeTurn 54 = .ok (.iadd, 1) := by decide +kernel
theorem dX0_makeTurn_55 : decode cX0_makeTurn 55 = .ok (.invokestatic 45, 3) := by decide +kernel
theorem dX0_makeTurn_58 : decode cX0_makeTurn 58 = .ok (.aload_n 0, 1) := by decide +kernel
theorem dX0_makeTurn_59 : decode cX0_makeTurn 59 = .ok (.getfield 18, 3) := by decide +kernel
theorem dX0_makeTurn_62 : decode cX0_makeTurn 62 = .ok (.aload_n 0, 1) := by decide +kernel
theorem dX0_makeTurn_63 : decode cX0_makeTurn 63 = .ok (.getfield 15, 3) := by decide +kernel
theorem dX0_makeTurn_66 : decode cX0_makeTurn 66 = .ok (.aload_n 0, 1) := by decide +kernel
theorem dX0_makeTurn_67 : decode cX0_makeTurn 67 = .ok (.getfield 18, 3) := by decide +kernel
theorem dX0_makeTurn_70 : decode cX0_makeTurn 70 = .ok (.aload_n 0, 1) := by decide +kernel
theorem dX0_makeTurn_71 : decode cX0_makeTurn 71 = .ok (.getfield 15, 3) := by decide +kernel
theorem dX0_makeTurn_74 : decode cX0_makeTurn 74 = .ok (.invokestatic 41, 3) := by decide +kernel
theorem dX0_makeTurn_77 : decode cX0_makeTurn 77 = .ok (.iconst 1, 1) := by decide +kernel
theorem dX0_makeTurn_78 : decode cX0_makeTurn 78 = .ok (.iadd, 1) := by decide +kernel
theorem dX0_makeTurn_79 : decode cX0_makeTurn 79 = .ok (.invokestatic 45, 3) := by decide +kernel
theorem dX0_makeTurn_82 : decode cX0_makeTurn 82 = .ok (.aload_n 0, 1) := by decide +kernel
theorem dX0_makeTurn_83 : decode cX0_makeTurn 83 = .ok (.getfield 22, 3) := by decide +kernel
theorem dX0_makeTurn_86 : decode cX0_makeTurn 86 = .ok (.aload_n 0, 1) := by decide +kernel
theorem dX0_makeTurn_87 : decode cX0_makeTurn 87 = .ok (.getfield 15, 3) := by decide +kernel
theorem dX0_makeTurn_90 : decode cX0_makeTurn 90 = .ok (.aload_n 0, 1) := by decide +kernel
theorem dX0_makeTurn_91 : decode cX0_makeTurn 91 = .ok (.getfield 22, 3) := by decide +kernel
theorem dX0_makeTurn_94 : decode cX0_makeTurn 94 = .ok (.aload_n 0, 1) := by decide +kernel
theorem dX0_makeTurn_95 : decode cX0_makeTurn 95 = .ok (.getfield 15, 3) := by decide +kernel
theorem dX0_makeTurn_98 : decode cX0_makeTurn 98 = .ok (.invokestatic 41, 3) := by decide +kernel
theorem dX0_makeTurn_101 : decode cX0_makeTurn 101 = .ok (.iload_n 2, 1) := by decide +kernel
theorem dX0_makeTurn_102 : decode cX0_makeTurn 102 = .ok (.iadd, 1) := by decide +kernel
theorem dX0_makeTurn_103 : decode cX0_makeTurn 103 = .ok (.invokestatic 45, 3) := by decide +kernel
theorem dX0_makeTurn_106 : decode cX0_makeTurn 106 = .ok (.aload_n 0, 1) := by decide +kernel
theorem dX0_makeTurn_107 : decode cX0_makeTurn 107 = .ok (.aload_n 0, 1) := by decide +kernel
theorem dX0_makeTurn_108 : decode cX0_makeTurn 108 = .ok (.getfield 15, 3) := by decide +kernel
theorem dX0_makeTurn_111 : decode cX0_makeTurn 111 = .ok (.iconst 1, 1) := by decide +kernel
theorem dX0_makeTurn_112 : decode cX0_makeTurn 112 = .ok (.iadd, 1) := by decide +kernel
theorem dX0_makeTurn_113 : decode cX0_makeTurn 113 = .ok (.iconst 3, 1) := by decide +kernel
theorem dX0_makeTurn_114 : decode cX0_makeTurn 114 = .ok (.if_icmp .ge 12, 3) := by decide +kernel
theorem dX0_makeTurn_117 : decode cX0_makeTurn 117 = .ok (.aload_n 0, 1) := by decide +kernel
theorem dX0_makeTurn_118 : decode cX0_makeTurn 118 = .ok (.getfield 15, 3) := by decide +kernel
theorem dX0_makeTurn_121 : decode cX0_makeTurn 121 = .ok (.iconst 1, 1) := by decide +kernel
theorem dX0_makeTurn_122 : decode cX0_makeTurn 122 = .ok (.iadd, 1) := by decide +kernel
theorem dX0_makeTurn_123 : decode cX0_makeTurn 123 = .ok (.goto 4, 3) := by decide +kernel
theorem dX0_makeTurn_126 : decode cX0_makeTurn 126 = .ok (.iconst 0, 1) := by decide +kernel
theorem dX0_makeTurn_127 : decode cX0_makeTurn 127 = .ok (.putfield 15, 3) := by decide +kernel
theorem dX0_makeTurn_130 : decode cX0_makeTurn 130 = .ok (.iconst 1, 1) := by decide +kernel
theorem dX0_makeTurn_131 : decode cX0_makeTurn 131 = .ok (.ireturn, 1) := by decide +kernel
theorem dX0_makeRow_0 : decode cX0_makeRow 0 = .ok (.ldc 78, 2) := by decide +kernel
theorem dX0_makeRow_2 : decode cX0_makeRow 2 = .ok (.istore_n 3, 1) := by decide +kernel
theorem dX0_makeRow_3 : decode cX0_makeRow 3 = .ok (.iload_n 3, 1) := by decide +kernel
theorem dX0_makeRow_4 : decode cX0_makeRow 4 = .ok (.iconst 1, 1) := by decide +kernel
theorem dX0_makeRow_5 : decode cX0_makeRow 5 = .ok (.if_icmp .lt 32, 3) := by decide +kernel
theorem dX0_makeRow_8 : decode cX0_makeRow 8 = .ok (.iload_n 3, 1) := by decide +kernel
theorem dX0_makeRow_9 : decode cX0_makeRow 9 = .ok (.iload_n 2, 1) := by decide +kernel
theorem dX0_makeRow_10 : decode cX0_makeRow 10 = .ok (.if_icmp .gt 19, 3) := by decide +kernel
theorem dX0_makeRow_13 : decode cX0_makeRow 13 = .ok (.aload_n 0, 1) := by decide +kernel
theorem dX0_makeRow_14 : decode cX0_makeRow 14 = .ok (.iload_n 1, 1) := by decide +kernel
theorem dX0_makeRow_15 : decode cX0_makeRow 15 = .ok (.iload_n 2, 1) := by decide +kernel
theorem dX0_makeRow_16 : decode cX0_makeRow 16 = .ok (.iload_n 3, 1) := by decide +kernel
theorem dX0_makeRow_17 : decode cX0_makeRow 17 = .ok (.idiv, 1) := by decide +kernel
theorem dX0_makeRow_18 : decode cX0_makeRow 18 = .ok (.bipush 10, 2) := by decide +kernel
theorem dX0_makeRow_20 : decode cX0_makeRow 20 = .ok (.irem, 1) := by decide +kernel
theorem dX0_makeRow_21 : decode cX0_makeRow 21 = .ok (.invokevirtual 79, 3) := by decide +kernel
theorem dX0_makeRow_24 : decode cX0_makeRow 24 = .ok (.ifCond .ne 5, 3) := by decide +kernel
theorem dX0_makeRow_27 : decode cX0_makeRow 27 = .ok (.iconst 0, 1) := by decide +kernel
theorem dX0_makeRow_28 : decode cX0_makeRow 28 = .ok (.ireturn, 1) := by decide +kernel
theorem dX0_makeRow_29 : decode cX0_makeRow 29 = .ok (.iload_n 3, 1) := by decide +kernel
theorem dX0_makeRow_30 : decode cX0_makeRow 30 = .ok (.bipush 10, 2) := by decide +kernel
theorem dX0_makeRow_32 : decode cX0_makeRow 32 = .ok (.idiv, 1) := by decide +kernel
theorem dX0_makeRow_33 : decode cX0_makeRow 33 = .ok (.istore_n 3, 1) := by decide +kernel
theorem dX0_makeRow_34 : decode cX0_makeRow 34 = .ok (.goto (-31), 3) := by decide +kernel
theorem dX0_makeRow_37 : decode cX0_makeRow 37 = .ok (.iconst 1, 1) := by decide +kernel
theorem dX0_makeRow_38 : decode cX0_makeRow 38 = .ok (.ireturn, 1) := by decide +kernel
theorem dX0_sortedStacks_0 : decode cX0_sortedStacks 0 = .ok (.iconst 0, 1) := by decide +kernel
theorem dX0_sortedStacks_1 : decode cX0_sortedStacks 1 = .ok (.istore_n 1, 1) := by decide +kernel
theorem dX0_sortedStacks_2 : decode cX0_sortedStacks 2 = .ok (.iconst 0, 1) := by decide +kernel
theorem dX0_sortedStacks_3 : decode cX0_sortedStacks 3 = .ok (.istore_n 2, 1) := by decide +kernel
theorem dX0_sortedStacks_4 : decode cX0_sortedStacks 4 = .ok (.iload_n 2, 1) := by decide +kernel
theorem dX0_sortedStacks_5 : decode cX0_sortedStacks 5 = .ok (.aload_n 0, 1) := by decide +kernel
theorem dX0_sortedStacks_6 : decode cX0_sortedStacks 6 = .ok (.getfield 9, 3) := by decide +kernel
theorem dX0_sortedStacks_9 : decode cX0_sortedStacks 9 = .ok (.if_icmp .ge 20, 3) := by decide +kernel
theorem dX0_sortedStacks_12 : decode cX0_sortedStacks 12 = .ok (.aload_n 0, 1) := by decide +kernel
theorem dX0_sortedStacks_13 : decode cX0_sortedStacks 13 = .ok (.iload_n 2, 1) := by decide +kernel
theorem dX0_sortedStacks_14 : decode cX0_sortedStacks 14 = .ok (.invokevirtual 53, 3) := by decide +kernel
theorem dX0_sortedStacks_17 : decode cX0_sortedStacks 17 = .ok (.ifCond .ne 6, 3) := by decide +kernel
theorem dX0_sortedStacks_20 : decode cX0_sortedStacks 20 = .ok (.iinc 1 1, 3) := by decide +kernel
theorem dX0_sortedStacks_23 : decode cX0_sortedStacks 23 = .ok (.iinc 2 1, 3) := by decide +kernel
theorem dX0_sortedStacks_26 : decode cX0_sortedStacks 26 = .ok (.goto (-22), 3) := by decide +kernel
theorem dX0_sortedStacks_29 : decode cX0_sortedStacks 29 = .ok (.iload_n 1, 1) := by decide +kernel
theorem dX0_sortedStacks_30 : decode cX0_sortedStacks 30 = .ok (.ireturn, 1) := by decide +kernel
theorem dX0_allGaps_0 : decode cX0_allGaps 0 = .ok (.iconst 0, 1) := by decide +kernel
theorem dX0_allGaps_1 : decode cX0_allGaps 1 = .ok (.istore_n 1, 1) := by decide +kernel
theorem dX0_allGaps_2 : decode cX0_allGaps 2 = .ok (.iconst 0, 1) := by decide +kernel
theorem dX0_allGaps_3 : decode cX0_allGaps 3 = .ok (.istore_n 2, 1) := by decide +kernel
theorem dX0_allGaps_4 : decode cX0_allGaps 4 = .ok (.iload_n 2, 1) := by decide +kernel
theorem dX0_allGaps_5 : decode cX0_allGaps 5 = .ok (.aload_n 0, 1) := by decide +kernel
theorem dX0_allGaps_6 : decode cX0_allGaps 6 = .ok (.getfield 9, 3) := by decide +kernel
theorem dX0_allGaps_9 : decode cX0_allGaps 9 = .ok (.if_icmp .ge 34, 3) := by decide +kernel
theorem dX0_allGaps_12 : decode cX0_allGaps 12 = .ok (.aload_n 0, 1) := by decide +kernel
theorem dX0_allGaps_13 : decode cX0_allGaps 13 = .ok (.iload_n 2, 1) := by decide +kernel
theorem dX0_allGaps_14 : decode cX0_allGaps 14 = .ok (.invokevirtual 49, 3) := by decide +kernel
theorem dX0_allGaps_17 : decode cX0_allGaps 17 = .ok (.astore_n 3, 1) := by decide +kernel
theorem dX0_allGaps_18 : decode cX0_allGaps 18 = .ok (.aload_n 3, 1) := by decide +kernel
theorem dX0_allGaps_19 : decode cX0_allGaps 19 = .ok (.ifnull 18, 3) := by decide +kernel
theorem dX0_allGaps_22 : decode cX0_allGaps 22 = .ok (.iload_n 1, 1) := by decide +kernel
theorem dX0_allGaps_23 : decode cX0_allGaps 23 = .ok (.aload_n 3, 1) := by decide +kernel
theorem dX0_allGaps_24 : decode cX0_allGaps 24 = .ok (.getfield 61, 3) := by decide +kernel
theorem dX0_allGaps_27 : decode cX0_allGaps 27 = .ok (.aload_n 0, 1) := by decide +kernel
theorem dX0_allGaps_28 : decode cX0_allGaps 28 = .ok (.iload_n 2, 1) := by decide +kernel
theorem dX0_allGaps_29 : decode cX0_allGaps 29 = .ok (.invokevirtual 53, 3) := by decide +kernel
theorem dX0_allGaps_32 : decode cX0_allGaps 32 = .ok (.invokevirtual 82, 3) := by decide +kernel
theorem dX0_allGaps_35 : decode cX0_allGaps 35 = .ok (.iadd, 1) := by decide +kernel
theorem dX0_allGaps_36 : decode cX0_allGaps 36 = .ok (.istore_n 1, 1) := by decide +kernel
theorem dX0_allGaps_37 : decode cX0_allGaps 37 = .ok (.iinc 2 1, 3) := by decide +kernel
theorem dX0_allGaps_40 : decode cX0_allGaps 40 = .ok (.goto (-36), 3) := by decide +kernel
theorem dX0_allGaps_43 : decode cX0_allGaps 43 = .ok (.iload_n 1, 1) := by decide +kernel
theorem dX0_allGaps_44 : decode cX0_allGaps 44 = .ok (.ireturn, 1) := by decide +kernel
theorem dX0_allTurns_0 : decode cX0_allTurns 0 = .ok (.iconst 0, 1) := by decide +kernel
theorem dX0_allTurns_1 : decode cX0_allTurns 1 = .ok (.istore_n 1, 1) := by decide +kernel
theorem dX0_allTurns_2 : decode cX0_allTurns 2 = .ok (.iconst 0, 1) := by decide +kernel
theorem dX0_allTurns_3 : decode cX0_allTurns 3 = .ok (.istore_n 2, 1) := by decide +kernel
theorem dX0_allTurns_4 : decode cX0_allTurns 4 = .ok (.iload_n 2, 1) := by decide +kernel
theorem dX0_allTurns_5 : decode cX0_allTurns 5 = .ok (.aload_n 0, 1) := by decide +kernel
theorem dX0_allTurns_6 : decode cX0_allTurns 6 = .ok (.getfield 18, 3) := by decide +kernel
theorem dX0_allTurns_9 : decode cX0_allTurns 9 = .ok (.arraylength, 1) := by decide +kernel
theorem dX0_allTurns_10 : decode cX0_allTurns 10 = .ok (.if_icmp .ge 18, 3) := by decide +kernel
theorem dX0_allTurns_13 : decode cX0_allTurns 13 = .ok (.iload_n 1, 1) := by decide +kernel
theorem dX0_allTurns_14 : decode cX0_allTurns 14 = .ok (.aload_n 0, 1) := by decide +kernel
theorem dX0_allTurns_15 : decode cX0_allTurns 15 = .ok (.getfield 18, 3) := by decide +kernel
theorem dX0_allTurns_18 : decode cX0_allTurns 18 = .ok (.iload_n 2, 1) := by decide +kernel
theorem dX0_allTurns_19 : decode cX0_allTurns 19 = .ok (.iaload, 1) := by decide +kernel
theorem dX0_allTurns_20 : decode cX0_allTurns 20 = .ok (.iadd, 1) := by decide +kernel
theorem dX0_allTurns_21 : decode cX0_allTurns 21 = .ok (.istore_n 1, 1) := by decide +kernel
theorem dX0_allTurns_22 : decode cX0_allTurns 22 = .ok (.iinc 2 1, 3) := by decide +kernel
theorem dX0_allTurns_25 : decode cX0_allTurns 25 = .ok (.goto (-21), 3) := by decide +kernel
theorem dX0_allTurns_28 : decode cX0_allTurns 28 = .ok (.iload_n 1, 1) := by decide +kernel
theorem dX0_allTurns_29 : decode cX0_allTurns 29 = .ok (.ireturn, 1) := by decide +kernel
theorem dX1_init_0 : decode cX1_init 0 = .ok (.aload_n 0, 1) := by decide +kernel
theorem dX1_init_1 : decode cX1_init 1 = .ok (.invokespecial 3, 3) := by decide +kernel
theorem dX1_init_4 : decode cX1_init 4 = .ok (.aload_n 0, 1) := by decide +kernel
theorem dX1_init_5 : decode cX1_init 5 = .ok (.iload_n 1, 1) := by decide +kernel
theorem dX1_init_6 : decode cX1_init 6 = .ok (.putfield 9, 3) := by decide +kernel
theorem dX1_init_9 : decode cX1_init 9 = .ok (.aload_n 0, 1) := by decide +kernel
theorem dX1_init_10 : decode cX1_init 10 = .ok (.iload_n 2, 1) := by decide +kernel
theorem dX1_init_11 : decode cX1_init 11 = .ok (.ifCond .eq 7, 3) := by decide +kernel
theorem dX1_init_14 : decode cX1_init 14 = .ok (.iload_n 1, 1) := by decide +kernel
theorem dX1_init_15 : decode cX1_init 15 = .ok (.goto 4, 3) := by decide +kernel
theorem dX1_init_18 : decode cX1_init 18 = .ok (.iconst 0, 1) := by decide +kernel
theorem dX1_init_19 : decode cX1_init 19 = .ok (.putfield 15, 3) := by decide +kernel
theorem dX1_init_22 : decode cX1_init 22 = .ok (.aload_n 0, 1) := by decide +kernel
theorem dX1_init_23 : decode cX1_init 23 = .ok (.iconst 1, 1) := by decide +kernel
theorem dX1_init_24 : decode cX1_init 24 = .ok (.aload_n 0, 1) := by decide +kernel
theorem dX1_init_25 : decode cX1_init 25 = .ok (.getfield 15, 3) := by decide +kernel
theorem dX1_init_28 : decode cX1_init 28 = .ok (.ishl, 1) := by decide +kernel
theorem dX1_init_29 : decode cX1_init 29 = .ok (.iconst 1, 1) := by decide +kernel
theorem dX1_init_30 : decode cX1_init 30 = .ok (.isub, 1) := by decide +kernel
theorem dX1_init_31 : decode cX1_init 31 = .ok (.putfield 18, 3) := by decide +kernel
theorem dX1_init_34 : decode cX1_init 34 = .ok (.iconst 1, 1) := by decide +kernel
theorem dX1_init_35 : decode cX1_init 35 = .ok (.istore_n 3, 1) := by decide +kernel
theorem dX1_init_36 : decode cX1_init 36 = .ok (.iconst 2, 1) := by decide +kernel
theorem dX1_init_37 : decode cX1_init 37 = .ok (.istore 4, 2) := by decide +kernel
theorem dX1_init_39 : decode cX1_init 39 = .ok (.iload 4, 2) := by decide +kernel
theorem dX1_init_41 : decode cX1_init 41 = .ok (.iload_n 1, 1) := by decide +kernel
theorem dX1_init_42 : decode cX1_init 42 = .ok (.if_icmp .gt 14, 3) := by decide +kernel
theorem dX1_init_45 : decode cX1_init 45 = .ok (.iload_n 3, 1) := by decide +kernel
theorem dX1_init_46 : decode cX1_init 46 = .ok (.iload 4, 2) := by decide +kernel
theorem dX1_init_48 : decode cX1_init 48 = .ok (.imul, 1) := by decide +kernel
theorem dX1_init_49 : decode cX1_init 49 = .ok (.istore_n 3, 1) := by decide +kernel
theorem dX1_init_50 : decode cX1_init 50 = .ok (.iinc 4 1, 3) := by decide +kernel
theorem dX1_init_53 : decode cX1_init 53 = .ok (.goto (-14), 3) := by decide +kernel
theorem dX1_init_56 : decode cX1_init 56 = .ok (.aload_n 0, 1) := by decide +kernel
theorem dX1_init_57 : decode cX1_init 57 = .ok (.iload_n 3, 1) := by decide +kernel
theorem dX1_init_58 : decode cX1_init 58 = .ok (.aload_n 0, 1) := by decide +kernel
theorem dX1_init_59 : decode cX1_init 59 = .ok (.getfield 15, 3) := by decide +kernel
theorem dX1_init_62 : decode cX1_init 62 = .ok (.ishl, 1) := by decide +kernel
theorem dX1_init_63 : decode cX1_init 63 = .ok (.putfield 21, 3) := by decide +kernel
theorem dX1_init_66 : decode cX1_init 66 = .ok (.aload_n 0, 1) := by decide +kernel
theorem dX1_init_67 : decode cX1_init 67 = .ok (.iload_n 3, 1) := by decide +kernel
theorem dX1_init_68 : decode cX1_init 68 = .ok (.invokestatic 24, 3) := by decide +kernel
theorem dX1_init_71 : decode cX1_init 71 = .ok (.putfield 28, 3) := by decide +kernel
theorem dX1_init_74 : decode cX1_init 74 = .ok (.aload_n 0, 1) := by decide +kernel
theorem dX1_init_75 : decode cX1_init 75 = .ok (.iload_n 3, 1) := by decide +kernel
theorem dX1_init_76 : decode cX1_init 76 = .ok (.iload_n 1, 1) := by decide +kernel
theorem dX1_init_77 : decode cX1_init 77 = .ok (.imul, 1) := by decide +kernel
theorem dX1_init_78 : decode cX1_init 78 = .ok (.invokestatic 24, 3) := by decide +kernel
theorem dX1_init_81 : decode cX1_init 81 = .ok (.putfield 32, 3) := by decide +kernel
theorem dX1_init_84 : decode cX1_init 84 = .ok (.aload_n 0, 1) := by decide +kernel
theorem dX1_init_85 : decode cX1_init 85 = .ok (.aload_n 0, 1) := by decide +kernel
theorem dX1_init_86 : decode cX1_init 86 = .ok (.getfield 21, 3) := by decide +kernel
theorem dX1_init_89 : decode cX1_init 89 = .ok (.iload_n 1, 1) := by decide +kernel
theorem dX1_init_90 : decode cX1_init 90 = .ok (.imul, 1) := by decide +kernel
theorem dX1_init_91 : decode cX1_init 91 = .ok (.invokestatic 24, 3) := by decide +kernel
theorem dX1_init_94 : decode cX1_init 94 = .ok (.putfield 35, 3) := by decide +kernel
theorem dX1_init_97 : decode cX1_init 97 = .ok (.aload_n 0, 1) := by decide +kernel
theorem dX1_init_98 : decode cX1_init 98 = .ok (.aload_n 0, 1) := by decide +kernel
theorem dX1_init_99 : decode cX1_init 99 = .ok (.getfield 21, 3) := by decide +kernel
theorem dX1_init_102 : decode cX1_init 102 = .ok (.invokestatic 24, 3) := by decide +kernel
theorem dX1_init_105 : decode cX1_init 105 = .ok (.putfield 38, 3) := by decide +kernel
theorem dX1_init_108 : decode cX1_init 108 = .ok (.aload_n 0, 1) := by decide +kernel
theorem dX1_init_109 : decode cX1_init 109 = .ok (.getfield 28, 3) := by decide +kernel
theorem dX1_init_112 : decode cX1_init 112 = .ok (.iconst 0, 1) := by decide +kernel
theorem dX1_init_113 : decode cX1_init 113 = .ok (.iload_n 1, 1) := by decide +kernel
theorem dX1_init_114 : decode cX1_init 114 = .ok (.iconst 0, 1) := by decide +kernel
theorem dX1_init_115 : decode cX1_init 115 = .ok (.iconst 0, 1) := by decide +kernel
theorem dX1_init_116 : decode cX1_init 116 = .ok (.iconst 0, 1) := by decide +kernel
theorem dX1_init_117 : decode cX1_init 117 = .ok (.invokestatic 41, 3) := by decide +kernel
theorem dX1_init_120 : decode cX1_init 120 = .ok (.pop, 1) := by decide +kernel
theorem dX1_init_121 : decode cX1_init 121 = .ok (.iconst 0, 1) := by decide +kernel
theorem dX1_init_122 : decode cX1_init 122 = .ok (.istore 4, 2) := by decide +kernel
theorem dX1_init_124 : decode cX1_init 124 = .ok (.iload 4, 2) := by decide +kernel
theorem dX1_init_126 : decode cX1_init 126 = .ok (.aload_n 0, 1) := by decide +kernel
theorem dX1_init_127 : decode cX1_init 127 = .ok (.getfield 28, 3) := by decide +kernel
theorem dX1_init_130 : decode cX1_init 130 = .ok (.arraylength, 1) := by decide +kernel
theorem dX1_init_131 : decode cX1_init 131 = .ok (.if_icmp .ge 21, 3) := by decide +kernel
theorem dX1_init_134 : decode cX1_init 134 = .ok (.aload_n 0, 1) := by decide +kernel
theorem dX1_init_135 : decode cX1_init 135 = .ok (.iload 4, 2) := by decide +kernel
theorem dX1_init_137 : decode cX1_init 137 = .ok (.invokevirtual 45, 3) := by decide +kernel
theorem dX1_init_140 : decode cX1_init 140 = .ok (.aload_n 0, 1) := by decide +kernel
theorem dX1_init_141 : decode cX1_init 141 = .ok (.iload 4, 2) := by decide +kernel
theorem dX1_init_143 : decode cX1_init 143 = .ok (.invokevirtual 49, 3) := by decide +kernel
theorem dX1_init_146 : decode cX1_init 146 = .ok (.iinc 4 1, 3) := by decide +kernel
theorem dX1_init_149 : decode cX1_init 149 = .ok (.goto (-25), 3) := by decide +kernel
theorem dX1_init_152 : decode cX1_init 152 = .ok (.iconst 0, 1) := by decide +kernel
theorem dX1_init_153 : decode cX1_init 153 = .ok (.istore 4, 2) := by decide +kernel
theorem dX1_init_155 : decode cX1_init 155 = .ok (.iload 4, 2) := by decide +kernel
theorem dX1_init_157 : decode cX1_init 157 = .ok (.aload_n 0, 1) := by decide +kernel
theorem dX1_init_158 : decode cX1_init 158 = .ok (.getfield 38, 3) := by decide +kernel
theorem dX1_init_161 : decode cX1_init 161 = .ok (.arraylength, 1) := by decide +kernel
theorem dX1_init_162 : decode cX1_init 162 = .ok (.if_icmp .ge 53, 3) := by decide +kernel
theorem dX1_init_165 : decode cX1_init 165 = .ok (.iconst 0, 1) := by decide +kernel
theorem dX1_init_166 : decode cX1_init 166 = .ok (.istore 5, 2) := by decide +kernel
theorem dX1_init_168 : decode cX1_init 168 = .ok (.iload 5, 2) := by decide +kernel
theorem dX1_init_170 : decode cX1_init 170 = .ok (.iload_n 1, 1) := by decide +kernel
theorem dX1_init_171 : decode cX1_init 171 = .ok (.if_icmp .ge 38, 3) := by decide +kernel
theorem dX1_init_174 : decode cX1_init 174 = .ok (.aload_n 0, 1) := by decide +kernel
theorem dX1_init_175 : decode cX1_init 175 = .ok (.getfield 38, 3) := by decide +kernel
theorem dX1_init_178 : decode cX1_init 178 = .ok (.iload 4, 2) := by decide +kernel
theorem dX1_init_180 : decode cX1_init 180 = .ok (.dup2, 1) := by decide +kernel
theorem dX1_init_181 : decode cX1_init 181 = .ok (.iaload, 1) := by decide +kernel
theorem dX1_init_182 : decode cX1_init 182 = .ok (.aload_n 0, 1) := by decide +kernel
theorem dX1_init_183 : decode cX1_init 183 = .ok (.iload 4, 2) := by decide +kernel
theorem dX1_init_185 : decode cX1_init 185 = .ok (.iload 5, 2) := by decide +kernel
theorem dX1_init_187 : decode cX1_init 187 = .ok (.invokevirtual 52, 3) := by decide +kernel
theorem dX1_init_190 : decode cX1_init 190 = .ok (.ifCond .eq 10, 3) := by decide +kernel
theorem dX1_init_193 : decode cX1_init 193 = .ok (.iconst 1, 1) := by decide +kernel
theorem dX1_init_194 : decode cX1_init 194 = .ok (.iload 5, 2) := by decide +kernel
theorem dX1_init_196 : decode cX1_init 196 = .ok (.ishl, 1) := by decide +kernel
theorem dX1_init_197 : decode cX1_init 197 = .ok (.goto 4, 3) := by decide +kernel
theorem dX1_init_200 : decode cX1_init 200 = .ok (.iconst 0, 1) := by decide +kernel
theorem dX1_init_201 : decode cX1_init 201 = .ok (.ior, 1) := by decide +kernel
theorem dX1_init_202 : decode cX1_init 202 = .ok (.iastore, 1) := by decide +kernel
theorem dX1_init_203 : decode cX1_init 203 = .ok (.iinc 5 1, 3) := by decide +kernel
theorem dX1_init_206 : decode cX1_init 206 = .ok (.goto (-38), 3) := by decide +kernel
theorem dX1_init_209 : decode cX1_init 209 = .ok (.iinc 4 1, 3) := by decide +kernel
theorem dX1_init_212 : decode cX1_init 212 = .ok (.goto (-57), 3) := by decide +kernel
theorem dX1_init_215 : decode cX1_init 215 = .ok (.return_, 1) := by decide +kernel
theorem dX1_fillCodes_0 : decode cX1_fillCodes 0 = .ok (.iload 5, 2) := by decide +kernel
theorem dX1_fillCodes_2 : decode cX1_fillCodes 2 = .ok (.iload_n 2, 1) := by decide +kernel
theorem dX1_fillCodes_3 : decode cX1_fillCodes 3 = .ok (.if_icmp .lt 13, 3) := by decide +kernel
theorem dX1_fillCodes_6 : decode cX1_fillCodes 6 = .ok (.aload_n 0, 1) := by decide +kernel
theorem dX1_fillCodes_7 : decode cX1_fillCodes 7 = .ok (.iload_n 1, 1) := by decide +kernel
theorem dX1_fillCodes_8 : decode cX1_fillCodes 8 = .ok (.iload_n 3, 1) := by decide +kernel
theorem dX1_fillCodes_9 : decode cX1_fillCodes 9 = .ok (.invokestatic 56, 3) := by decide +kernel
theorem dX1_fillCodes_12 : decode cX1_fillCodes 12 = .ok (.iload_n 1, 1) := by decide +kernel
theorem dX1_fillCodes_13 : decode cX1_fillCodes 13 = .ok (.iconst 1, 1) := by decide +kernel
theorem dX1_fillCodes_14 : decode cX1_fillCodes 14 = .ok (.iadd, 1) := by decide +kernel
theorem dX1_fillCodes_15 : decode cX1_fillCodes 15 = .ok (.ireturn, 1) := by decide +kernel
theorem dX1_fillCodes_16 : decode cX1_fillCodes 16 = .ok (.iload_n 1, 1) := by decide +kernel
theorem dX1_fillCodes_17 : decode cX1_fillCodes 17 = .ok (.istore 6, 2) := by decide +kernel
theorem dX1_fillCodes_19 : decode cX1_fillCodes 19 = .ok (.iconst 1, 1) := by decide +kernel
theorem dX1_fillCodes_20 : decode cX1_fillCodes 20 = .ok (.istore 7, 2) := by decide +kernel
theorem dX1_fillCodes_22 : decode cX1_fillCodes 22 = .ok (.iload 7, 2) := by decide +kernel
theorem dX1_fillCodes_24 : decode cX1_fillCodes 24 = .ok (.iload_n 2, 1) := by decide +kernel
theorem dX1_fillCodes_25 : decode cX1_fillCodes 25 = .ok (.if_icmp .gt 46, 3) := by decide +kernel
theorem dX1_fillCodes_28 : decode cX1_fillCodes 28 = .ok (.iload 4, 2) := by decide +kernel
theorem dX1_fillCodes_30 : decode cX1_fillCodes 30 = .ok (.iconst 1, 1) := by decide +kernel
theorem dX1_fillCodes_31 : decode cX1_fillCodes 31 = .ok (.iload 7, 2) := by decide +kernel
theorem dX1_fillCodes_33 : decode cX1_fillCodes 33 = .ok (.ishl, 1) := by decide +kernel
theorem dX1_fillCodes_34 : decode cX1_fillCodes 34 = .ok (.iand, 1) := by decide +kernel
theorem dX1_fillCodes_35 : decode cX1_fillCodes 35 = .ok (.ifCond .ne 30, 3) := by decide +kernel
theorem dX1_fillCodes_38 : decode cX1_fillCodes 38 = .ok (.aload_n 0, 1) := by decide +kernel
theorem dX1_fillCodes_39 : decode cX1_fillCodes 39 = .ok (.iload 6, 2) := by decide +kernel
theorem dX1_fillCodes_41 : decode cX1_fillCodes 41 = .ok (.iload_n 2, 1) := by decide +kernel
theorem dX1_fillCodes_42 : decode cX1_fillCodes 42 = .ok (.iload_n 3, 1) := by decide +kernel
theorem dX1_fillCodes_43 : decode cX1_fillCodes 43 = .ok (.bipush 10, 2) := by decide +kernel
theorem dX1_fillCodes_45 : decode cX1_fillCodes 45 = .ok (.imul, 1) := by decide +kernel
theorem dX1_fillCodes_46 : decode cX1_fillCodes 46 = .ok (.iload 7, 2) := by decide +kernel
theorem dX1_fillCodes_48 : decode cX1_fillCodes 48 = .ok (.iadd, 1) := by decide +kernel
theorem dX1_fillCodes_49 : decode cX1_fillCodes 49 = .ok (.iload 4, 2) := by decide +kernel
theorem dX1_fillCodes_51 : decode cX1_fillCodes 51 = .ok (.iconst 1, 1) := by decide +kernel
theorem dX1_fillCodes_52 : decode cX1_fillCodes 52 = .ok (.iload 7, 2) := by decide +kernel
theorem dX1_fillCodes_54 : decode cX1_fillCodes 54 = .ok (.ishl, 1) := by decide +kernel
theorem dX1_fillCodes_55 : decode cX1_fillCodes 55 = .ok (.ior, 1) := by decide +kernel
theorem dX1_fillCodes_56 : decode cX1_fillCodes 56 = .ok (.iload 5, 2) := by decide +kernel
theorem dX1_fillCodes_58 : decode cX1_fillCodes 58 = .ok (.iconst 1, 1) := by decide +kernel
theorem dX1_fillCodes_59 : decode cX1_fillCodes 59 = .ok (.iadd, 1) := by decide +kernel
theorem dX1_fillCodes_60 : decode cX1_fillCodes 60 = .ok (.invokestatic 41, 3) := by decide +kernel
theorem dX1_fillCodes_63 : decode cX1_fillCodes 63 = .ok (.istore 6, 2) := by decide +kernel
theorem dX1_fillCodes_65 : decode cX1_fillCodes 65 = .ok (.iinc 7 1, 3) := by decide +kernel
theorem dX1_fillCodes_68 : decode cX1_fillCodes 68 = .ok (.goto (-46), 3) := by decide +kernel
theorem dX1_fillCodes_71 : decode cX1_fillCodes 71 = .ok (.iload 6, 2) := by decide +kernel
theorem dX1_fillCodes_73 : decode cX1_fillCodes 73 = .ok (.ireturn, 1) := by decide +kernel
theorem dX1_fillSizes_0 : decode cX1_fillSizes 0 = .ok (.aload_n 0, 1) := by decide +kernel
theorem dX1_fillSizes_1 : decode cX1_fillSizes 1 = .ok (.getfield 28, 3) := by decide +kernel
theorem dX1_fillSizes_4 : decode cX1_fillSizes 4 = .ok (.iload_n 1, 1) := by decide +kernel
theorem dX1_fillSizes_5 : decode cX1_fillSizes 5 = .ok (.invokestatic 60, 3) := by decide +kernel
theorem dX1_fillSizes_8 : decode cX1_fillSizes 8 = .ok (.istore_n 2, 1) := by decide +kernel
theorem dX1_fillSizes_9 : decode cX1_fillSizes 9 = .ok (.aload_n 0, 1) := by decide +kernel
theorem dX1_fillSizes_10 : decode cX1_fillSizes 10 = .ok (.getfield 9, 3) := by decide +kernel
theorem dX1_fillSizes_13 : decode cX1_fillSizes 13 = .ok (.iconst 1, 1) := by decide +kernel
theorem dX1_fillSizes_14 : decode cX1_fillSizes 14 = .ok (.isub, 1) := by decide +kernel
theorem dX1_fillSizes_15 : decode cX1_fillSizes 15 = .ok (.istore_n 3, 1) := by decide +kernel
theorem dX1_fillSizes_16 : decode cX1_fillSizes 16 = .ok (.iload_n 3, 1) := by decide +kernel
theorem dX1_fillSizes_17 : decode cX1_fillSizes 17 = .ok (.ifCond .lt 33, 3) := by decide +kernel
theorem dX1_fillSizes_20 : decode cX1_fillSizes 20 = .ok (.aload_n 0, 1) := by decide +kernel
theorem dX1_fillSizes_21 : decode cX1_fillSizes 21 = .ok (.getfield 32, 3) := by decide +kernel
theorem dX1_fillSizes_24 : decode cX1_fillSizes 24 = .ok (.iload_n 1, 1) := by decide +kernel
theorem dX1_fillSizes_25 : decode cX1_fillSizes 25 = .ok (.aload_n 0, 1) := by decide +kernel
theorem dX1_fillSizes_26 : decode cX1_fillSizes 26 = .ok (.getfield 9, 3) := by decide +kernel
theorem dX1_fillSizes_29 : decode cX1_fillSizes 29 = .ok (.imul, 1) := by decide +kernel
theorem dX1_fillSizes_30 : decode cX1_fillSizes 30 = .ok (.iload_n 3, 1) := by decide +kernel
theorem dX1_fillSizes_31 : decode cX1_fillSizes 31 = .ok (.iadd, 1) := by decide +kernel
theorem dX1_fillSizes_32 : decode cX1_fillSizes 32 = .ok (.iload_n 2, 1) := by decide +kernel
theorem dX1_fillSizes_33 : decode cX1_fillSizes 33 = .ok (.bipush 10, 2) := by decide +kernel
theorem dX1_fillSizes_35 : decode cX1_fillSizes 35 = .ok (.irem, 1) := by decide +kernel
theorem dX1_fillSizes_36 : decode cX1_fillSizes 36 = .ok (.invokestatic 56, 3) := by decide +kernel
theorem dX1_fillSizes_39 : decode cX1_fillSizes 39 = .ok (.iload_n 2, 1) := by decide +kernel
theorem dX1_fillSizes_40 : decode cX1_fillSizes 40 = .ok (.bipush 10, 2) := by decide +kernel
theorem dX1_fillSizes_42 : decode cX1_fillSizes 42 = .ok (.idiv, 1) := by decide +kernel
theorem dX1_fillSizes_43 : decode cX1_fillSizes 43 = .ok (.istore_n 2, 1) := by decide +kernel
theorem dX1_fillSizes_44 : decode cX1_fillSizes 44 = .ok (.iinc 3 (-1), 3) := by decide +kernel
theorem dX1_fillSizes_47 : decode cX1_fillSizes 47 = .ok (.goto (-31), 3) := by decide +kernel
theorem dX1_fillSizes_50 : decode cX1_fillSizes 50 = .ok (.return_, 1) := by decide +kernel
theorem dX1_fillTurned_0 : decode cX1_fillTurned 0 = .ok (.iconst 1, 1) := by decide +kernel
theorem dX1_fillTurned_1 : decode cX1_fillTurned 1 = .ok (.istore_n 2, 1) := by decide +kernel
theorem dX1_fillTurned_2 : decode cX1_fillTurned 2 = .ok (.iload_n 2, 1) := by decide +kernel
theorem dX1_fillTurned_3 : decode cX1_fillTurned 3 = .ok (.aload_n 0, 1) := by decide +kernel
theorem dX1_fillTurned_4 : decode cX1_fillTurned 4 = .ok (.getfield 9, 3) := by decide +kernel
theorem dX1_fillTurned_7 : decode cX1_fillTurned 7 = .ok (.if_icmp .gt 81, 3) := by decide +kernel
theorem dX1_fillTurned_10 : decode cX1_fillTurned 10 = .ok (.aload_n 0, 1) := by decide +kernel
theorem dX1_fillTurned_11 : decode cX1_fillTurned 11 = .ok (.aload_n 0, 1) := by decide +kernel
theorem dX1_fillTurned_12 : decode cX1_fillTurned 12 = .ok (.iload_n 1, 1) := by decide +kernel
theorem dX1_fillTurned_13 : decode cX1_fillTurned 13 = .ok (.iload_n 2, 1) := by decide +kernel
theorem dX1_fillTurned_14 : decode cX1_fillTurned 14 = .ok (.invokevirtual 64, 3) := by decide +kernel
theorem dX1_fillTurned_17 : decode cX1_fillTurned 17 = .ok (.invokevirtual 68, 3) := by decide +kernel
theorem dX1_fillTurned_20 : decode cX1_fillTurned 20 = .ok (.aload_n 0, 1) := by decide +kernel
theorem dX1_fillTurned_21 : decode cX1_fillTurned 21 = .ok (.getfield 15, 3) := by decide +kernel
theorem dX1_fillTurned_24 : decode cX1_fillTurned 24 = .ok (.ishl, 1) := by decide +kernel
theorem dX1_fillTurned_25 : decode cX1_fillTurned 25 = .ok (.istore_n 3, 1) := by decide +kernel
theorem dX1_fillTurned_26 : decode cX1_fillTurned 26 = .ok (.iconst 0, 1) := by decide +kernel
theorem dX1_fillTurned_27 : decode cX1_fillTurned 27 = .ok (.istore 4, 2) := by decide +kernel
theorem dX1_fillTurned_29 : decode cX1_fillTurned 29 = .ok (.iload 4, 2) := by decide +kernel
theorem dX1_fillTurned_31 : decode cX1_fillTurned 31 = .ok (.aload_n 0, 1) := by decide +kernel
theorem dX1_fillTurned_32 : decode cX1_fillTurned 32 = .ok (.getfield 18, 3) := by decide +kernel
theorem dX1_fillTurned_35 : decode cX1_fillTurned 35 = .ok (.if_icmp .gt 47, 3) := by decide +kernel
theorem dX1_fillTurned_38 : decode cX1_fillTurned 38 = .ok (.iload_n 1, 1) := by decide +kernel
theorem dX1_fillTurned_39 : decode cX1_fillTurned 39 = .ok (.aload_n 0, 1) := by decide +kernel
theorem dX1_fillTurned_40 : decode cX1_fillTurned 40 = .ok (.getfield 15, 3) := by decide +kernel
theorem dX1_fillTurned_43 : decode cX1_fillTurned 43 = .ok (.ishl, 1) := by decide +kernel
theorem dX1_fillTurned_44 : decode cX1_fillTurned 44 = .ok (.iload 4, 2) := by decide +kernel
theorem dX1_fillTurned_46 : decode cX1_fillTurned 46 = .ok (.ior, 1) := by decide +kernel
theorem dX1_fillTurned_47 : decode cX1_fillTurned 47 = .ok (.istore 5, 2) := by decide +kernel
theorem dX1_fillTurned_49 : decode cX1_fillTurned 49 = .ok (.aload_n 0, 1) := by decide +kernel
theorem dX1_fillTurned_50 : decode cX1_fillTurned 50 = .ok (.getfield 35, 3) := by decide +kernel
theorem dX1_fillTurned_53 : decode cX1_fillTurned 53 = .ok (.iload 5, 2) := by decide +kernel
theorem dX1_fillTurned_55 : decode cX1_fillTurned 55 = .ok (.aload_n 0, 1) := by decide +kernel
theorem dX1_fillTurned_56 : decode cX1_fillTurned 56 = .ok (.getfield 9, 3) := by decide +kernel
theorem dX1_fillTurned_59 : decode cX1_fillTurned 59 = .ok (.imul, 1) := by decide +kernel
theorem dX1_fillTurned_60 : decode cX1_fillTurned 60 = .ok (.iload_n 2, 1) := by decide +kernel
theorem dX1_fillTurned_61 : decode cX1_fillTurned 61 = .ok (.iadd, 1) := by decide +kernel
theorem dX1_fillTurned_62 : decode cX1_fillTurned 62 = .ok (.iconst 1, 1) := by decide +kernel
theorem dX1_fillTurned_63 : decode cX1_fillTurned 63 = .ok (.isub, 1) := by decide +kernel
theorem dX1_fillTurned_64 : decode cX1_fillTurned 64 = .ok (.iload_n 3, 1) := by decide +kernel
theorem dX1_fillTurned_65 : decode cX1_fillTurned 65 = .ok (.aload_n 0, 1) := by decide +kernel
theorem dX1_fillTurned_66 : decode cX1_fillTurned 66 = .ok (.iload 4, 2) := by decide +kernel
theorem dX1_fillTurned_68 : decode cX1_fillTurned 68 = .ok (.iload_n 2, 1) := by decide +kernel
theorem dX1_fillTurned_69 : decode cX1_fillTurned 69 = .ok (.invokevirtual 72, 3) := by decide +kernel
theorem dX1_fillTurned_72 : decode cX1_fillTurned 72 = .ok (.ior, 1) := by decide +kernel
theorem dX1_fillTurned_73 : decode cX1_fillTurned 73 = .ok (.invokestatic 56, 3) := by decide +kernel
theorem dX1_fillTurned_76 : decode cX1_fillTurned 76 = .ok (.iinc 4 1, 3) := by decide +kernel
theorem dX1_fillTurned_79 : decode cX1_fillTurned 79 = .ok (.goto (-50), 3) := by decide +kernel
theorem dX1_fillTurned_82 : decode cX1_fillTurned 82 = .ok (.iinc 2 1, 3) := by decide +kernel
theorem dX1_fillTurned_85 : decode cX1_fillTurned 85 = .ok (.goto (-83), 3) := by decide +kernel
theorem dX1_fillTurned_88 : decode cX1_fillTurned 88 = .ok (.return_, 1) := by decide +kernel
theorem dX1_codeBehind_0 : decode cX1_codeBehind 0 = .ok (.iconst 0, 1) := by decide +kernel
theorem dX1_codeBehind_1 : decode cX1_codeBehind 1 = .ok (.istore_n 3, 1) := by decide +kernel
theorem dX1_codeBehind_2 : decode cX1_codeBehind 2 = .ok (.iconst 0, 1) := by decide +kernel
theorem dX1_codeBehind_3 : decode cX1_codeBehind 3 = .ok (.istore 4, 2) := by decide +kernel
theorem dX1_codeBehind_5 : decode cX1_codeBehind 5 = .ok (.iload 4, 2) := by decide +kernel
theorem dX1_codeBehind_7 : decode cX1_codeBehind 7 = .ok (.aload_n 0, 1) := by decide +kernel
theorem dX1_codeBehind_8 : decode cX1_codeBehind 8 = .ok (.getfield 9, 3) := by decide +kernel
theorem dX1_codeBehind_11 : decode cX1_codeBehind 11 = .ok (.if_icmp .ge 50, 3) := by decide +kernel
theorem dX1_codeBehind_14 : decode cX1_codeBehind 14 = .ok (.iload 4, 2) := by decide +kernel
theorem dX1_codeBehind_16 : decode cX1_codeBehind 16 = .ok (.iload_n 2, 1) := by decide +kernel
theorem dX1_codeBehind_17 : decode cX1_codeBehind 17 = .ok (.if_icmp .ge 12, 3) := by decide +kernel
theorem dX1_codeBehind_20 : decode cX1_codeBehind 20 = .ok (.iload_n 2, 1) := by decide +kernel
theorem dX1_codeBehind_21 : decode cX1_codeBehind 21 = .ok (.iconst 1, 1) := by decide +kernel
theorem dX1_codeBehind_22 : decode cX1_codeBehind 22 = .ok (.isub, 1) := by decide +kernel
theorem dX1_codeBehind_23 : decode cX1_codeBehind 23 = .ok (.iload 4, 2) := by decide +kernel
theorem dX1_codeBehind_25 : decode cX1_codeBehind 25 = .ok (.isub, 1) := by decide +kernel
theorem dX1_codeBehind_26 : decode cX1_codeBehind 26 = .ok (.goto 5, 3) := by decide +kernel
theorem dX1_codeBehind_29 : decode cX1_codeBehind 29 = .ok (.iload 4, 2) := by decide +kernel
theorem dX1_codeBehind_31 : decode cX1_codeBehind 31 = .ok (.istore 5, 2) := by decide +kernel
theorem dX1_codeBehind_33 : decode cX1_codeBehind 33 = .ok (.iload_n 3, 1) := by decide +kernel
theorem dX1_codeBehind_34 : decode cX1_codeBehind 34 = .ok (.bipush 10, 2) := by decide +kernel
theorem dX1_codeBehind_36 : decode cX1_codeBehind 36 = .ok (.imul, 1) := by decide +kernel
theorem dX1_codeBehind_37 : decode cX1_codeBehind 37 = .ok (.aload_n 0, 1) := by decide +kernel
theorem dX1_codeBehind_38 : decode cX1_codeBehind 38 = .ok (.getfield 32, 3) := by decide +kernel
theorem dX1_codeBehind_41 : decode cX1_codeBehind 41 = .ok (.iload_n 1, 1) := by decide +kernel
theorem dX1_codeBehind_42 : decode cX1_codeBehind 42 = .ok (.aload_n 0, 1) := by decide +kernel
theorem dX1_codeBehind_43 : decode cX1_codeBehind 43 = .ok (.getfield 9, 3) := by decide +kernel
theorem dX1_codeBehind_46 : decode cX1_codeBehind 46 = .ok (.imul, 1) := by decide +kernel
theorem dX1_codeBehind_47 : decode cX1_codeBehind 47 = .ok (.iload 5, 2) := by decide +kernel
theorem dX1_codeBehind_49 : decode cX1_codeBehind 49 = .ok (.iadd, 1) := by decide +kernel
theorem dX1_codeBehind_50 : decode cX1_codeBehind 50 = .ok (.invokestatic 60, 3) := by decide +kernel
theorem dX1_codeBehind_53 : decode cX1_codeBehind 53 = .ok (.iadd, 1) := by decide +kernel
theorem dX1_codeBehind_54 : decode cX1_codeBehind 54 = .ok (.istore_n 3, 1) := by decide +kernel
theorem dX1_codeBehind_55 : decode cX1_codeBehind 55 = .ok (.iinc 4 1, 3) := by decide +kernel
theorem dX1_codeBehind_58 : decode cX1_codeBehind 58 = .ok (.goto (-53), 3) := by decide +kernel
theorem dX1_codeBehind_61 : decode cX1_codeBehind 61 = .ok (.iload_n 3, 1) := by decide +kernel
theorem dX1_codeBehind_62 : decode cX1_codeBehind 62 = .ok (.ireturn, 1) := by decide +kernel
theorem dX1_sidesBehind_0 : decode cX1_sidesBehind 0 = .ok (.aload_n 0, 1) := by decide +kernel
theorem dX1_sidesBehind_1 : decode cX1_sidesBehind 1 = .ok (.getfield 15, 3) := by decide +kernel
theorem dX1_sidesBehind_4 : decode cX1_sidesBehind 4 = .ok (.ifCond .ne 5, 3) := by decide +kernel
theorem dX1_sidesBehind_7 : decode cX1_sidesBehind 7 = .ok (.iconst 0, 1) := by decide +kernel
theorem dX1_sidesBehind_8 : decode cX1_sidesBehind 8 = .ok (.ireturn, 1) := by decide +kernel
theorem dX1_sidesBehind_9 : decode cX1_sidesBehind 9 = .ok (.iload_n 1, 1) := by decide +kernel
theorem dX1_sidesBehind_10 : decode cX1_sidesBehind 10 = .ok (.iload_n 2, 1) := by decide +kernel
theorem dX1_sidesBehind_11 : decode cX1_sidesBehind 11 = .ok (.ishr, 1) := by decide +kernel
theorem dX1_sidesBehind_12 : decode cX1_sidesBehind 12 = .ok (.iload_n 2, 1) := by decide +kernel
theorem dX1_sidesBehind_13 : decode cX1_sidesBehind 13 = .ok (.ishl, 1) := by decide +kernel
theorem dX1_sidesBehind_14 : decode cX1_sidesBehind 14 = .ok (.istore_n 3, 1) := by decide +kernel
theorem dX1_sidesBehind_15 : decode cX1_sidesBehind 15 = .ok (.iconst 0, 1) := by decide +kernel
theorem dX1_sidesBehind_16 : decode cX1_sidesBehind 16 = .ok (.istore 4, 2) := by decide +kernel
theorem dX1_sidesBehind_18 : decode cX1_sidesBehind 18 = .ok (.iload 4, 2) := by decide +kernel
theorem dX1_sidesBehind_20 : decode cX1_sidesBehind 20 = .ok (.iload_n 2, 1) := by decide +kernel
theorem dX1_sidesBehind_21 : decode cX1_sidesBehind 21 = .ok (.if_icmp .ge 31, 3) := by decide +kernel
theorem dX1_sidesBehind_24 : decode cX1_sidesBehind 24 = .ok (.iload_n 1, 1) := by decide +kernel
theorem dX1_sidesBehind_25 : decode cX1_sidesBehind 25 = .ok (.iload 4, 2) := by decide +kernel
theorem dX1_sidesBehind_27 : decode cX1_sidesBehind 27 = .ok (.ishr, 1) := by decide +kernel
theorem dX1_sidesBehind_28 : decode cX1_sidesBehind 28 = .ok (.iconst 1, 1) := by decide +kernel
theorem dX1_sidesBehind_29 : decode cX1_sidesBehind 29 = .ok (.iand, 1) := by decide +kernel
theorem dX1_sidesBehind_30 : decode cX1_sidesBehind 30 = .ok (.istore 5, 2) := by decide +kernel
theorem dX1_sidesBehind_32 : decode cX1_sidesBehind 32 = .ok (.iload_n 3, 1) := by decide +kernel
theorem dX1_sidesBehind_33 : decode cX1_sidesBehind 33 = .ok (.iconst 1, 1) := by decide +kernel
theorem dX1_sidesBehind_34 : decode cX1_sidesBehind 34 = .ok (.iload 5, 2) := by decide +kernel
theorem dX1_sidesBehind_36 : decode cX1_sidesBehind 36 = .ok (.isub, 1) := by decide +kernel
theorem dX1_sidesBehind_37 : decode cX1_sidesBehind 37 = .ok (.iload_n 2, 1) := by decide +kernel
theorem dX1_sidesBehind_38 : decode cX1_sidesBehind 38 = .ok (.iconst 1, 1) := by decide +kernel
theorem dX1_sidesBehind_39 : decode cX1_sidesBehind 39 = .ok (.isub, 1) := by decide +kernel
theorem dX1_sidesBehind_40 : decode cX1_sidesBehind 40 = .ok (.iload 4, 2) := by decide +kernel
theorem dX1_sidesBehind_42 : decode cX1_sidesBehind 42 = .ok (.isub, 1) := by decide +kernel
theorem dX1_sidesBehind_43 : decode cX1_sidesBehind 43 = .ok (.ishl, 1) := by decide +kernel
theorem dX1_sidesBehind_44 : decode cX1_sidesBehind 44 = .ok (.ior, 1) := by decide +kernel
theorem dX1_sidesBehind_45 : decode cX1_sidesBehind 45 = .ok (.istore_n 3, 1) := by decide +kernel
theorem dX1_sidesBehind_46 : decode cX1_sidesBehind 46 = .ok (.iinc 4 1, 3) := by decide +kernel
theorem dX1_sidesBehind_49 : decode cX1_sidesBehind 49 = .ok (.goto (-31), 3) := by decide +kernel
theorem dX1_sidesBehind_52 : decode cX1_sidesBehind 52 = .ok (.iload_n 3, 1) := by decide +kernel
theorem dX1_sidesBehind_53 : decode cX1_sidesBehind 53 = .ok (.ireturn, 1) := by decide +kernel
theorem dX1_findJoined_0 : decode cX1_findJoined 0 = .ok (.aload_n 0, 1) := by decide +kernel
theorem dX1_findJoined_1 : decode cX1_findJoined 1 = .ok (.iload_n 1, 1) := by decide +kernel
theorem dX1_findJoined_2 : decode cX1_findJoined 2 = .ok (.iload_n 2, 1) := by decide +kernel
theorem dX1_findJoined_3 : decode cX1_findJoined 3 = .ok (.invokevirtual 75, 3) := by decide +kernel
theorem dX1_findJoined_6 : decode cX1_findJoined 6 = .ok (.istore_n 3, 1) := by decide +kernel
theorem dX1_findJoined_7 : decode cX1_findJoined 7 = .ok (.aload_n 0, 1) := by decide +kernel
theorem dX1_findJoined_8 : decode cX1_findJoined 8 = .ok (.iload_n 1, 1) := by decide +kernel
theorem dX1_findJoined_9 : decode cX1_findJoined 9 = .ok (.iload_n 2, 1) := by decide +kernel
theorem dX1_findJoined_10 : decode cX1_findJoined 10 = .ok (.invokevirtual 78, 3) := by decide +kernel
theorem dX1_findJoined_13 : decode cX1_findJoined 13 = .ok (.istore 4, 2) := by decide +kernel
theorem dX1_findJoined_15 : decode cX1_findJoined 15 = .ok (.iload_n 2, 1) := by decide +kernel
theorem dX1_findJoined_16 : decode cX1_findJoined 16 = .ok (.aload_n 0, 1) := by decide +kernel
theorem dX1_findJoined_17 : decode cX1_findJoined 17 = .ok (.getfield 9, 3) := by decide +kernel
theorem dX1_findJoined_20 : decode cX1_findJoined 20 = .ok (.iconst 1, 1) := by decide +kernel
theorem dX1_findJoined_21 : decode cX1_findJoined 21 = .ok (.isub, 1) := by decide +kernel
theorem dX1_findJoined_22 : decode cX1_findJoined 22 = .ok (.if_icmp .ne 22, 3) := by decide +kernel
theorem dX1_findJoined_25 : decode cX1_findJoined 25 = .ok (.iload_n 3, 1) := by decide +kernel
theorem dX1_findJoined_26 : decode cX1_findJoined 26 = .ok (.aload_n 0, 1) := by decide +kernel
theorem dX1_findJoined_27 : decode cX1_findJoined 27 = .ok (.getfield 9, 3) := by decide +kernel
theorem dX1_findJoined_30 : decode cX1_findJoined 30 = .ok (.if_icmp .ne 12, 3) := by decide +kernel
theorem dX1_findJoined_33 : decode cX1_findJoined 33 = .ok (.iload 4, 2) := by decide +kernel
theorem dX1_findJoined_35 : decode cX1_findJoined 35 = .ok (.ifCond .ne 7, 3) := by decide +kernel
theorem dX1_findJoined_38 : decode cX1_findJoined 38 = .ok (.iconst 1, 1) := by decide +kernel
theorem dX1_findJoined_39 : decode cX1_findJoined 39 = .ok (.goto 4, 3) := by decide +kernel
theorem dX1_findJoined_42 : decode cX1_findJoined 42 = .ok (.iconst 0, 1) := by decide +kernel
theorem dX1_findJoined_43 : decode cX1_findJoined 43 = .ok (.ireturn, 1) := by decide +kernel
theorem dX1_findJoined_44 : decode cX1_findJoined 44 = .ok (.aload_n 0, 1) := by decide +kernel
theorem dX1_findJoined_45 : decode cX1_findJoined 45 = .ok (.iload_n 1, 1) := by decide +kernel
theorem dX1_findJoined_46 : decode cX1_findJoined 46 = .ok (.iload_n 2, 1) := by decide +kernel
theorem dX1_findJoined_47 : decode cX1_findJoined 47 = .ok (.iconst 1, 1) := by decide +kernel
theorem dX1_findJoined_48 : decode cX1_findJoined 48 = .ok (.iadd, 1) := by decide +kernel
theorem dX1_findJoined_49 : decode cX1_findJoined 49 = .ok (.invokevirtual 75, 3) := by decide +kernel
theorem dX1_findJoined_52 : decode cX1_findJoined 52 = .ok (.iload_n 3, 1) := by decide +kernel
theorem dX1_findJoined_53 : decode cX1_findJoined 53 = .ok (.isub, 1) := by decide +kernel
theorem dX1_findJoined_54 : decode cX1_findJoined 54 = .ok (.istore 5, 2) := by decide +kernel
theorem dX1_findJoined_56 : decode cX1_findJoined 56 = .ok (.aload_n 0, 1) := by decide +kernel
theorem dX1_findJoined_57 : decode cX1_findJoined 57 = .ok (.getfield 15, 3) := by decide +kernel
theorem dX1_findJoined_60 : decode cX1_findJoined 60 = .ok (.ifCond .ne 21, 3) := by decide +kernel
theorem dX1_findJoined_63 : decode cX1_findJoined 63 = .ok (.iload 5, 2) := by decide +kernel
theorem dX1_findJoined_65 : decode cX1_findJoined 65 = .ok (.iconst 1, 1) := by decide +kernel
theorem dX1_findJoined_66 : decode cX1_findJoined 66 = .ok (.if_icmp .eq 9, 3) := by decide +kernel
theorem dX1_findJoined_69 : decode cX1_findJoined 69 = .ok (.iload 5, 2) := by decide +kernel
theorem dX1_findJoined_71 : decode cX1_findJoined 71 = .ok (.iconst (-1), 1) := by decide +kernel
theorem dX1_findJoined_72 : decode cX1_findJoined 72 = .ok (.if_icmp .ne 7, 3) := by decide +kernel
theorem dX1_findJoined_75 : decode cX1_findJoined 75 = .ok (.iconst 1, 1) := by decide +kernel
theorem dX1_findJoined_76 : decode cX1_findJoined 76 = .ok (.goto 4, 3) := by decide +kernel
theorem dX1_findJoined_79 : decode cX1_findJoined 79 = .ok (.iconst 0, 1) := by decide +kernel
theorem dX1_findJoined_80 : decode cX1_findJoined 80 = .ok (.ireturn, 1) := by decide +kernel
theorem dX1_findJoined_81 : decode cX1_findJoined 81 = .ok (.iload 4, 2) := by decide +kernel
theorem dX1_findJoined_83 : decode cX1_findJoined 83 = .ok (.aload_n 0, 1) := by decide +kernel
theorem dX1_findJoined_84 : decode cX1_findJoined 84 = .ok (.iload_n 1, 1) := by decide +kernel
theorem dX1_findJoined_85 : decode cX1_findJoined 85 = .ok (.iload_n 2, 1) := by decide +kernel
theorem dX1_findJoined_86 : decode cX1_findJoined 86 = .ok (.iconst 1, 1) := by decide +kernel
theorem dX1_findJoined_87 : decode cX1_findJoined 87 = .ok (.iadd, 1) := by decide +kernel
theorem dX1_findJoined_88 : decode cX1_findJoined 88 = .ok (.invokevirtual 78, 3) := by decide +kernel
theorem dX1_findJoined_91 : decode cX1_findJoined 91 = .ok (.if_icmp .ne 22, 3) := by decide +kernel
theorem dX1_findJoined_94 : decode cX1_findJoined 94 = .ok (.iload 5, 2) := by decide +kernel
theorem dX1_findJoined_96 : decode cX1_findJoined 96 = .ok (.iload 4, 2) := by decide +kernel
theorem dX1_findJoined_98 : decode cX1_findJoined 98 = .ok (.ifCond .eq 7, 3) := by decide +kernel
theorem dX1_findJoined_101 : decode cX1_findJoined 101 = .ok (.iconst (-1), 1) := by decide +kernel
theorem dX1_findJoined_102 : decode cX1_findJoined 102 = .ok (.goto 4, 3) := by decide +kernel
theorem dX1_findJoined_105 : decode cX1_findJoined 105 = .ok (.iconst 1, 1) := by decide +kernel
theorem dX1_findJoined_106 : decode cX1_findJoined 106 = .ok (.if_icmp .ne 7, 3) := by decide +kernel
theorem dX1_findJoined_109 : decode cX1_findJoined 109 = .ok (.iconst 1, 1) := by decide +kernel
theorem dX1_findJoined_110 : decode cX1_findJoined 110 = .ok (.goto 4, 3) := by decide +kernel
theorem dX1_findJoined_113 : decode cX1_findJoined 113 = .ok (.iconst 0, 1) := by decide +kernel
theorem dX1_findJoined_114 : decode cX1_findJoined 114 = .ok (.ireturn, 1) := by decide +kernel
theorem dX1_orderOf_0 : decode cX1_orderOf 0 = .ok (.iconst 0, 1) := by decide +kernel
theorem dX1_orderOf_1 : decode cX1_orderOf 1 = .ok (.istore_n 2, 1) := by decide +kernel
theorem dX1_orderOf_2 : decode cX1_orderOf 2 = .ok (.aload_n 0, 1) := by decide +kernel
theorem dX1_orderOf_3 : decode cX1_orderOf 3 = .ok (.getfield 28, 3) := by decide +kernel
theorem dX1_orderOf_6 : decode cX1_orderOf 6 = .ok (.arraylength, 1) := by decide +kernel
theorem dX1_orderOf_7 : decode cX1_orderOf 7 = .ok (.iconst 1, 1) := by decide +kernel
theorem dX1_orderOf_8 : decode cX1_orderOf 8 = .ok (.isub, 1) := by decide +kernel
theorem dX1_orderOf_9 : decode cX1_orderOf 9 = .ok (.istore_n 3, 1) := by decide +kernel
theorem dX1_orderOf_10 : decode cX1_orderOf 10 = .ok (.iconst 0, 1) := by decide +kernel
theorem dX1_orderOf_11 : decode cX1_orderOf 11 = .ok (.istore 4, 2) := by decide +kernel
