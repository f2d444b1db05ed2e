theorem dX0_init_0 : decode cX0_init 0 = .ok (.aload_n 0, 1) := by decide +kernel
theorem dX0_init_1 : decode cX0_init 1 = .ok (.invokespecial 3, 3) := by decide +kernel
theorem dX0_init_4 : decode cX0_init 4 = .ok (.aload_n 0, 1) := by decide +kernel
theorem dX0_init_5 : decode cX0_init 5 = .ok (.iconst 0, 1) := by decide +kernel
theorem dX0_init_6 : decode cX0_init 6 = .ok (.putfield 9, 3) := by decide +kernel
theorem dX0_init_9 : decode cX0_init 9 = .ok (.aload_n 0, 1) := by decide +kernel
theorem dX0_init_10 : decode cX0_init 10 = .ok (.iconst 0, 1) := by decide +kernel
theorem dX0_init_11 : decode cX0_init 11 = .ok (.putfield 15, 3) := by decide +kernel
theorem dX0_init_14 : decode cX0_init 14 = .ok (.aload_n 0, 1) := by decide +kernel
theorem dX0_init_15 : decode cX0_init 15 = .ok (.iconst 3, 1) := by decide +kernel
theorem dX0_init_16 : decode cX0_init 16 = .ok (.newarray .int, 2) := by decide +kernel
theorem dX0_init_18 : decode cX0_init 18 = .ok (.putfield 18, 3) := by decide +kernel
theorem dX0_init_21 : decode cX0_init 21 = .ok (.aload_n 0, 1) := by decide +kernel
theorem dX0_init_22 : decode cX0_init 22 = .ok (.iconst 3, 1) := by decide +kernel
theorem dX0_init_23 : decode cX0_init 23 = .ok (.newarray .int, 2) := by decide +kernel
theorem dX0_init_25 : decode cX0_init 25 = .ok (.putfield 22, 3) := by decide +kernel
theorem dX0_init_28 : decode cX0_init 28 = .ok (.aload_n 0, 1) := by decide +kernel
theorem dX0_init_29 : decode cX0_init 29 = .ok (.iconst 5, 1) := by decide +kernel
theorem dX0_init_30 : decode cX0_init 30 = .ok (.anewarray 25, 3) := by decide +kernel
theorem dX0_init_33 : decode cX0_init 33 = .ok (.putfield 27, 3) := by decide +kernel
theorem dX0_init_36 : decode cX0_init 36 = .ok (.aload_n 0, 1) := by decide +kernel
theorem dX0_init_37 : decode cX0_init 37 = .ok (.iconst 5, 1) := by decide +kernel
theorem dX0_init_38 : decode cX0_init 38 = .ok (.newarray .int, 2) := by decide +kernel
theorem dX0_init_40 : decode cX0_init 40 = .ok (.putfield 31, 3) := by decide +kernel
theorem dX0_init_43 : decode cX0_init 43 = .ok (.aload_n 0, 1) := by decide +kernel
theorem dX0_init_44 : decode cX0_init 44 = .ok (.iconst 5, 1) := by decide +kernel
theorem dX0_init_45 : decode cX0_init 45 = .ok (.newarray .int, 2) := by decide +kernel
theorem dX0_init_47 : decode cX0_init 47 = .ok (.putfield 34, 3) := by decide +kernel
theorem dX0_init_50 : decode cX0_init 50 = .ok (.return_, 1) := by decide +kernel
theorem dX0_copyFrom_0 : decode cX0_copyFrom 0 = .ok (.aload_n 0, 1) := by decide +kernel
theorem dX0_copyFrom_1 : decode cX0_copyFrom 1 = .ok (.aload_n 1, 1) := by decide +kernel
theorem dX0_copyFrom_2 : decode cX0_copyFrom 2 = .ok (.getfield 9, 3) := by decide +kernel
theorem dX0_copyFrom_5 : decode cX0_copyFrom 5 = .ok (.putfield 9, 3) := by decide +kernel
theorem dX0_copyFrom_8 : decode cX0_copyFrom 8 = .ok (.aload_n 0, 1) := by decide +kernel
theorem dX0_copyFrom_9 : decode cX0_copyFrom 9 = .ok (.aload_n 1, 1) := by decide +kernel
theorem dX0_copyFrom_10 : decode cX0_copyFrom 10 = .ok (.getfield 15, 3) := by decide +kernel
theorem dX0_copyFrom_13 : decode cX0_copyFrom 13 = .ok (.putfield 15, 3) := by decide +kernel
theorem dX0_copyFrom_16 : decode cX0_copyFrom 16 = .ok (.iconst 0, 1) := by decide +kernel
theorem dX0_copyFrom_17 : decode cX0_copyFrom 17 = .ok (.istore_n 2, 1) := by decide +kernel
theorem dX0_copyFrom_18 : decode cX0_copyFrom 18 = .ok (.iload_n 2, 1) := by decide +kernel
theorem dX0_copyFrom_19 : decode cX0_copyFrom 19 = .ok (.aload_n 0, 1) := by decide +kernel
theorem dX0_copyFrom_20 : decode cX0_copyFrom 20 = .ok (.getfield 27, 3) := by decide +kernel
theorem dX0_copyFrom_23 : decode cX0_copyFrom 23 = .ok (.arraylength, 1) := by decide +kernel
theorem dX0_copyFrom_24 : decode cX0_copyFrom 24 = .ok (.if_icmp .ge 30, 3) := by decide +kernel
theorem dX0_copyFrom_27 : decode cX0_copyFrom 27 = .ok (.iload_n 2, 1) := by decide +kernel
theorem dX0_copyFrom_28 : decode cX0_copyFrom 28 = .ok (.aload_n 1, 1) := by decide +kernel
theorem dX0_copyFrom_29 : decode cX0_copyFrom 29 = .ok (.getfield 27, 3) := by decide +kernel
theorem dX0_copyFrom_32 : decode cX0_copyFrom 32 = .ok (.arraylength, 1) := by decide +kernel
theorem dX0_copyFrom_33 : decode cX0_copyFrom 33 = .ok (.if_icmp .ge 21, 3) := by decide +kernel
theorem dX0_copyFrom_36 : decode cX0_copyFrom 36 = .ok (.aload_n 0, 1) := by decide +kernel
theorem dX0_copyFrom_37 : decode cX0_copyFrom 37 = .ok (.getfield 27, 3) := by decide +kernel
theorem dX0_copyFrom_40 : decode cX0_copyFrom 40 = .ok (.iload_n 2, 1) := by decide +kernel
theorem dX0_copyFrom_41 : decode cX0_copyFrom 41 = .ok (.aload_n 1, 1) := by decide +kernel
theorem dX0_copyFrom_42 : decode cX0_copyFrom 42 = .ok (.getfield 27, 3) := by decide +kernel
theorem dX0_copyFrom_45 : decode cX0_copyFrom 45 = .ok (.iload_n 2, 1) := by decide +kernel
theorem dX0_copyFrom_46 : decode cX0_copyFrom 46 = .ok (.aaload, 1) := by decide +kernel
theorem dX0_copyFrom_47 : decode cX0_copyFrom 47 = .ok (.aastore, 1) := by decide +kernel
theorem dX0_copyFrom_48 : decode cX0_copyFrom 48 = .ok (.iinc 2 1, 3) := by decide +kernel
theorem dX0_copyFrom_51 : decode cX0_copyFrom 51 = .ok (.goto (-33), 3) := by decide +kernel
theorem dX0_copyFrom_54 : decode cX0_copyFrom 54 = .ok (.aload_n 1, 1) := by decide +kernel
theorem dX0_copyFrom_55 : decode cX0_copyFrom 55 = .ok (.getfield 31, 3) := by decide +kernel
theorem dX0_copyFrom_58 : decode cX0_copyFrom 58 = .ok (.aload_n 0, 1) := by decide +kernel
theorem dX0_copyFrom_59 : decode cX0_copyFrom 59 = .ok (.getfield 31, 3) := by decide +kernel
theorem dX0_copyFrom_62 : decode cX0_copyFrom 62 = .ok (.invokestatic 37, 3) := by decide +kernel
theorem dX0_copyFrom_65 : decode cX0_copyFrom 65 = .ok (.aload_n 1, 1) := by decide +kernel
theorem dX0_copyFrom_66 : decode cX0_copyFrom 66 = .ok (.getfield 34, 3) := by decide +kernel
theorem dX0_copyFrom_69 : decode cX0_copyFrom 69 = .ok (.aload_n 0, 1) := by decide +kernel
theorem dX0_copyFrom_70 : decode cX0_copyFrom 70 = .ok (.getfield 34, 3) := by decide +kernel
theorem dX0_copyFrom_73 : decode cX0_copyFrom 73 = .ok (.invokestatic 37, 3) := by decide +kernel
theorem dX0_copyFrom_76 : decode cX0_copyFrom 76 = .ok (.aload_n 1, 1) := by decide +kernel
theorem dX0_copyFrom_77 : decode cX0_copyFrom 77 = .ok (.getfield 18, 3) := by decide +kernel
theorem dX0_copyFrom_80 : decode cX0_copyFrom 80 = .ok (.aload_n 0, 1) := by decide +kernel
theorem dX0_copyFrom_81 : decode cX0_copyFrom 81 = .ok (.getfield 18, 3) := by decide +kernel
theorem dX0_copyFrom_84 : decode cX0_copyFrom 84 = .ok (.invokestatic 37, 3) := by decide +kernel
theorem dX0_copyFrom_87 : decode cX0_copyFrom 87 = .ok (.aload_n 1, 1) := by decide +kernel
theorem dX0_copyFrom_88 : decode cX0_copyFrom 88 = .ok (.getfield 22, 3) := by decide +kernel
theorem dX0_copyFrom_91 : decode cX0_copyFrom 91 = .ok (.aload_n 0, 1) := by decide +kernel
theorem dX0_copyFrom_92 : decode cX0_copyFrom 92 = .ok (.getfield 22, 3) := by decide +kernel
theorem dX0_copyFrom_95 : decode cX0_copyFrom 95 = .ok (.invokestatic 37, 3) := by decide +kernel
theorem dX0_copyFrom_98 : decode cX0_copyFrom 98 = .ok (.return_, 1) := by decide +kernel
theorem dX0_shapeOf_0 : decode cX0_shapeOf 0 = .ok (.iload_n 1, 1) := by decide +kernel
theorem dX0_shapeOf_1 : decode cX0_shapeOf 1 = .ok (.ifCond .lt 29, 3) := by decide +kernel
theorem dX0_shapeOf_4 : decode cX0_shapeOf 4 = .ok (.iload_n 1, 1) := by decide +kernel
theorem dX0_shapeOf_5 : decode cX0_shapeOf 5 = .ok (.aload_n 0, 1) := by decide +kernel
theorem dX0_shapeOf_6 : decode cX0_shapeOf 6 = .ok (.getfield 9, 3) := by decide +kernel
theorem dX0_shapeOf_9 : decode cX0_shapeOf 9 = .ok (.if_icmp .ge 21, 3) := by decide +kernel
theorem dX0_shapeOf_12 : decode cX0_shapeOf 12 = .ok (.iload_n 1, 1) := by decide +kernel
theorem dX0_shapeOf_13 : decode cX0_shapeOf 13 = .ok (.aload_n 0, 1) := by decide +kernel
theorem dX0_shapeOf_14 : decode cX0_shapeOf 14 = .ok (.getfield 27, 3) := by decide +kernel
theorem dX0_shapeOf_17 : decode cX0_shapeOf 17 = .ok (.arraylength, 1) := by decide +kernel
theorem dX0_shapeOf_18 : decode cX0_shapeOf 18 = .ok (.if_icmp .ge 12, 3) := by decide +kernel
theorem dX0_shapeOf_21 : decode cX0_shapeOf 21 = .ok (.aload_n 0, 1) := by decide +kernel
theorem dX0_shapeOf_22 : decode cX0_shapeOf 22 = .ok (.getfield 27, 3) := by decide +kernel
theorem dX0_shapeOf_25 : decode cX0_shapeOf 25 = .ok (.iload_n 1, 1) := by decide +kernel
theorem dX0_shapeOf_26 : decode cX0_shapeOf 26 = .ok (.aaload, 1) := by decide +kernel
theorem dX0_shapeOf_27 : decode cX0_shapeOf 27 = .ok (.goto 4, 3) := by decide +kernel
theorem dX0_shapeOf_30 : decode cX0_shapeOf 30 = .ok (.aconst_null, 1) := by decide +kernel
theorem dX0_shapeOf_31 : decode cX0_shapeOf 31 = .ok (.areturn, 1) := by decide +kernel
theorem dX0_rankOf_0 : decode cX0_rankOf 0 = .ok (.aload_n 0, 1) := by decide +kernel
theorem dX0_rankOf_1 : decode cX0_rankOf 1 = .ok (.getfield 31, 3) := by decide +kernel
theorem dX0_rankOf_4 : decode cX0_rankOf 4 = .ok (.iload_n 1, 1) := by decide +kernel
theorem dX0_rankOf_5 : decode cX0_rankOf 5 = .ok (.invokestatic 41, 3) := by decide +kernel
theorem dX0_rankOf_8 : decode cX0_rankOf 8 = .ok (.ireturn, 1) := by decide +kernel
theorem dX0_madeOf_0 : decode cX0_madeOf 0 = .ok (.aload_n 0, 1) := by decide +kernel
theorem dX0_madeOf_1 : decode cX0_madeOf 1 = .ok (.getfield 34, 3) := by decide +kernel
theorem dX0_madeOf_4 : decode cX0_madeOf 4 = .ok (.iload_n 1, 1) := by decide +kernel
theorem dX0_madeOf_5 : decode cX0_madeOf 5 = .ok (.invokestatic 41, 3) := by decide +kernel
theorem dX0_madeOf_8 : decode cX0_madeOf 8 = .ok (.ireturn, 1) := by decide +kernel
theorem dX0_putRank_0 : decode cX0_putRank 0 = .ok (.aload_n 0, 1) := by decide +kernel
theorem dX0_putRank_1 : decode cX0_putRank 1 = .ok (.getfield 31, 3) := by decide +kernel
theorem dX0_putRank_4 : decode cX0_putRank 4 = .ok (.iload_n 1, 1) := by decide +kernel
theorem dX0_putRank_5 : decode cX0_putRank 5 = .ok (.iload_n 2, 1) := by decide +kernel
theorem dX0_putRank_6 : decode cX0_putRank 6 = .ok (.invokestatic 45, 3) := by decide +kernel
theorem dX0_putRank_9 : decode cX0_putRank 9 = .ok (.return_, 1) := by decide +kernel
theorem dX0_add_0 : decode cX0_add 0 = .ok (.aload_n 0, 1) := by decide +kernel
theorem dX0_add_1 : decode cX0_add 1 = .ok (.getfield 9, 3) := by decide +kernel
theorem dX0_add_4 : decode cX0_add 4 = .ok (.ifCond .lt 15, 3) := by decide +kernel
theorem dX0_add_7 : decode cX0_add 7 = .ok (.aload_n 0, 1) := by decide +kernel
theorem dX0_add_8 : decode cX0_add 8 = .ok (.getfield 9, 3) := by decide +kernel
theorem dX0_add_11 : decode cX0_add 11 = .ok (.aload_n 0, 1) := by decide +kernel
theorem dX0_add_12 : decode cX0_add 12 = .ok (.getfield 27, 3) := by decide +kernel
theorem dX0_add_15 : decode cX0_add 15 = .ok (.arraylength, 1) := by decide +kernel
theorem dX0_add_16 : decode cX0_add 16 = .ok (.if_icmp .lt 5, 3) := by decide +kernel
theorem dX0_add_19 : decode cX0_add 19 = .ok (.iconst (-1), 1) := by decide +kernel
theorem dX0_add_20 : decode cX0_add 20 = .ok (.ireturn, 1) := by decide +kernel
theorem dX0_add_21 : decode cX0_add 21 = .ok (.aload_n 0, 1) := by decide +kernel
theorem dX0_add_22 : decode cX0_add 22 = .ok (.getfield 9, 3) := by decide +kernel
theorem dX0_add_25 : decode cX0_add 25 = .ok (.istore_n 2, 1) := by decide +kernel
theorem dX0_add_26 : decode cX0_add 26 = .ok (.aload_n 0, 1) := by decide +kernel
theorem dX0_add_27 : decode cX0_add 27 = .ok (.getfield 27, 3) := by decide +kernel
theorem dX0_add_30 : decode cX0_add 30 = .ok (.iload_n 2, 1) := by decide +kernel
theorem dX0_add_31 : decode cX0_add 31 = .ok (.aload_n 1, 1) := by decide +kernel
theorem dX0_add_32 : decode cX0_add 32 = .ok (.aastore, 1) := by decide +kernel
theorem dX0_add_33 : decode cX0_add 33 = .ok (.aload_n 0, 1) := by decide +kernel
theorem dX0_add_34 : decode cX0_add 34 = .ok (.getfield 31, 3) := by decide +kernel
theorem dX0_add_37 : decode cX0_add 37 = .ok (.iload_n 2, 1) := by decide +kernel
theorem dX0_add_38 : decode cX0_add 38 = .ok (.iconst 0, 1) := by decide +kernel
theorem dX0_add_39 : decode cX0_add 39 = .ok (.invokestatic 45, 3) := by decide +kernel
theorem dX0_add_42 : decode cX0_add 42 = .ok (.aload_n 0, 1) := by decide +kernel
theorem dX0_add_43 : decode cX0_add 43 = .ok (.getfield 34, 3) := by decide +kernel
theorem dX0_add_46 : decode cX0_add 46 = .ok (.iload_n 2, 1) := by decide +kernel
theorem dX0_add_47 : decode cX0_add 47 = .ok (.iconst 0, 1) := by decide +kernel
theorem dX0_add_48 : decode cX0_add 48 = .ok (.invokestatic 45, 3) := by decide +kernel
theorem dX0_add_51 : decode cX0_add 51 = .ok (.aload_n 0, 1) := by decide +kernel
theorem dX0_add_52 : decode cX0_add 52 = .ok (.dup, 1) := by decide +kernel
theorem dX0_add_53 : decode cX0_add 53 = .ok (.getfield 9, 3) := by decide +kernel
theorem dX0_add_56 : decode cX0_add 56 = .ok (.iconst 1, 1) := by decide +kernel
theorem dX0_add_57 : decode cX0_add 57 = .ok (.iadd, 1) := by decide +kernel
theorem dX0_add_58 : decode cX0_add 58 = .ok (.putfield 9, 3) := by decide +kernel
theorem dX0_add_61 : decode cX0_add 61 = .ok (.iload_n 2, 1) := by decide +kernel
theorem dX0_add_62 : decode cX0_add 62 = .ok (.ireturn, 1) := by decide +kernel
theorem dX0_makeTurn_0 : decode cX0_makeTurn 0 = .ok (.aload_n 0, 1) := by decide +kernel
theorem dX0_makeTurn_1 : decode cX0_makeTurn 1 = .ok (.iload_n 1, 1) := by decide +kernel
theorem dX0_makeTurn_2 : decode cX0_makeTurn 2 = .ok (.invokevirtual 49, 3) := by decide +kernel
theorem dX0_makeTurn_5 : decode cX0_makeTurn 5 = .ok (.astore_n 3, 1) := by decide +kernel
theorem dX0_makeTurn_6 : decode cX0_makeTurn 6 = .ok (.aload_n 3, 1) := by decide +kernel
theorem dX0_makeTurn_7 : decode cX0_makeTurn 7 = .ok (.ifnull 16, 3) := by decide +kernel
theorem dX0_makeTurn_10 : decode cX0_makeTurn 10 = .ok (.aload_n 3, 1) := by decide +kernel
theorem dX0_makeTurn_11 : decode cX0_makeTurn 11 = .ok (.aload_n 0, 1) := by decide +kernel
theorem dX0_makeTurn_12 : decode cX0_makeTurn 12 = .ok (.iload_n 1, 1) := by decide +kernel
theorem dX0_makeTurn_13 : decode cX0_makeTurn 13 = .ok (.invokevirtual 53, 3) := by decide +kernel
theorem dX0_makeTurn_16 : decode cX0_makeTurn 16 = .ok (.iload_n 2, 1) := by decide +kernel
theorem dX0_makeTurn_17 : decode cX0_makeTurn 17 = .ok (.invokevirtual 57, 3) := by decide +kernel
theorem dX0_makeTurn_20 : decode cX0_makeTurn 20 = .ok (.ifCond .ne 5, 3) := by decide +kernel
theorem dX0_makeTurn_23 : decode cX0_makeTurn 23 = .ok (.iconst 0, 1) := by decide +kernel
theorem dX0_makeTurn_24 : decode cX0_makeTurn 24 = .ok (.ireturn, 1) := by decide +kernel
theorem dX0_makeTurn_25 : decode cX0_makeTurn 25 = .ok (.aload_n 0, 1) := by decide +kernel
theorem dX0_makeTurn_26 : decode cX0_makeTurn 26 = .ok (.iload_n 1, 1) := by decide +kernel
theorem dX0_makeTurn_27 : decode cX0_makeTurn 27 = .ok (.aload_n 3, 1) := by decide +kernel
theorem dX0_makeTurn_28 : decode cX0_makeTurn 28 = .ok (.getfield 61, 3) := by decide +kernel
theorem dX0_makeTurn_31 : decode cX0_makeTurn 31 = .ok (.aload_n 0, 1) := by decide +kernel
theorem dX0_makeTurn_32 : decode cX0_makeTurn 32 = .ok (.iload_n 1, 1) := by decide +kernel
theorem dX0_makeTurn_33 : decode cX0_makeTurn 33 = .ok (.invokevirtual 53, 3) := by decide +kernel
theorem dX0_makeTurn_36 : decode cX0_makeTurn 36 = .ok (.iload_n 2, 1) := by decide +kernel
theorem dX0_makeTurn_37 : decode cX0_makeTurn 37 = .ok (.invokevirtual 65, 3) := by decide +kernel
theorem dX0_makeTurn_40 : decode cX0_makeTurn 40 = .ok (.invokevirtual 71, 3) := by decide +kernel
theorem dX0_makeTurn_43 : decode cX0_makeTurn 43 = .ok (.aload_n 0, 1) := by decide +kernel
theorem dX0_makeTurn_44 : decode cX0_makeTurn 44 = .ok (.getfield 34, 3) := by decide +kernel
theorem dX0_makeTurn_47 : decode cX0_makeTurn 47 = .ok (.iload_n 1, 1) := by decide +kernel
theorem dX0_makeTurn_48 : decode cX0_makeTurn 48 = .ok (.aload_n 0, 1) := by decide +kernel
theorem dX0_makeTurn_49 : decode cX0_makeTurn 49 = .ok (.iload_n 1, 1) := by decide +kernel
theorem dX0_makeTurn_50 : decode cX0_makeTurn 50 = .ok (.invokevirtual 75, 3) := by decide +kernel
theorem dX0_makeTurn_53 : decode cX0_makeTurn 53 = .ok (.iconst 1, 1) := by decide +kernel
theorem dX0_makeTurn_54 : decode cX0_makeTurn 54 = .ok (.iadd, 1) := by decide +kernel
theorem dX0_makeTurn_55 : decode cX0_makeTurn 55 = .ok (.invokestatic 45, 3) := by decide +kernel
theorem dX0_makeTurn_58 : decode cX0_makeTurn 58 = .ok (.aload_n 0, 1) := by decide +kernel
theorem dX0_makeTurn_59 : decode cX0_makeTurn 59 = .ok (.getfield 18, 3) := by decide +kernel
theorem dX0_makeTurn_62 : decode cX0_makeTurn 62 = .ok (.aload_n 0, 1) := by decide +kernel
theorem dX0_makeTurn_63 : decode cX0_makeTurn 63 = .ok (.getfield 15, 3) := by decide +kernel
theorem dX0_makeTurn_66 : decode cX0_makeTurn 66 = .ok (.aload_n 0, 1) := by decide +kernel
theorem dX0_makeTurn_67 : decode cX0_makeTurn 67 = .ok (.getfield 18, 3) := by decide +kernel
theorem dX0_makeTurn_70 : decode cX0_makeTurn 70 = .ok (.aload_n 0, 1) := by decide +kernel
theorem dX0_makeTurn_71 : decode cX0_makeTurn 71 = .ok (.getfield 15, 3) := by decide +kernel
theorem dX0_makeTurn_74 : decode cX0_makeTurn 74 = .ok (.invokestatic 41, 3) := by decide +kernel
theorem dX0_makeTurn_77 : decode cX0_makeTurn 77 = .ok (.iconst 1, 1) := by decide +kernel
theorem dX0_makeTurn_78 : decode cX0_makeTurn 78 = .ok (.iadd, 1) := by decide +kernel
theorem dX0_makeTurn_79 : decode cX0_makeTurn 79 = .ok (.invokestatic 45, 3) := by decide +kernel
theorem dX0_makeTurn_82 : decode cX0_makeTurn 82 = .ok (.aload_n 0, 1) := by decide +kernel
theorem dX0_makeTurn_83 : decode cX0_makeTurn 83 = .ok (.getfield 22, 3) := by decide +kernel
theorem dX0_makeTurn_86 : decode cX0_makeTurn 86 = .ok (.aload_n 0, 1) := by decide +kernel
theorem dX0_makeTurn_87 : decode cX0_makeTurn 87 = .ok (.getfield 15, 3) := by decide +kernel
theorem dX0_makeTurn_90 : decode cX0_makeTurn 90 = .ok (.aload_n 0, 1) := by decide +kernel
theorem dX0_makeTurn_91 : decode cX0_makeTurn 91 = .ok (.getfield 22, 3) := by decide +kernel
theorem dX0_makeTurn_94 : decode cX0_makeTurn 94 = .ok (.aload_n 0, 1) := by decide +kernel
theorem dX0_makeTurn_95 : decode cX0_makeTurn 95 = .ok (.getfield 15, 3) := by decide +kernel
theorem dX0_makeTurn_98 : decode cX0_makeTurn 98 = .ok (.invokestatic 41, 3) := by decide +kernel
theorem dX0_makeTurn_101 : decode cX0_makeTurn 101 = .ok (.iload_n 2, 1) := by decide +kernel
theorem dX0_makeTurn_102 : decode cX0_makeTurn 102 = .ok (.iadd, 1) := by decide +kernel
theorem dX0_makeTurn_103 : decode cX0_makeTurn 103 = .ok (.invokestatic 45, 3) := by decide +kernel
theorem dX0_makeTurn_106 : decode cX0_makeTurn 106 = .ok (.aload_n 0, 1) := by decide +kernel
theorem dX0_makeTurn_107 : decode cX0_makeTurn 107 = .ok (.aload_n 0, 1) := by decide +kernel
theorem dX0_makeTurn_108 : decode cX0_makeTurn 108 = .ok (.getfield 15, 3) := by decide +kernel
theorem dX0_makeTurn_111 : decode cX0_makeTurn 111 = .ok (.iconst 1, 1) := by decide +kernel
theorem dX0_makeTurn_112 : decode cX0_makeTurn 112 = .ok (.iadd, 1) := by decide +kernel
theorem dX0_makeTurn_113 : decode cX0_makeTurn 113 = .ok (.iconst 3, 1) := by decide +kernel
theorem dX0_makeTurn_114 : decode cX0_makeTurn 114 = .ok (.if_icmp .ge 12, 3) := by decide +kernel
theorem dX0_makeTurn_117 : decode cX0_makeTurn 117 = .ok (.aload_n 0, 1) := by decide +kernel
theorem dX0_makeTurn_118 : decode cX0_makeTurn 118 = .ok (.getfield 15, 3) := by decide +kernel
theorem dX0_makeTurn_121 : decode cX0_makeTurn 121 = .ok (.iconst 1, 1) := by decide +kernel
theorem dX0_makeTurn_122 : decode cX0_makeTurn 122 = .ok (.iadd, 1) := by decide +kernel
theorem dX0_makeTurn_123 : decode cX0_makeTurn 123 = .ok (.goto 4, 3) := by decide +kernel
theorem dX0_makeTurn_126 : decode cX0_makeTurn 126 = .ok (.iconst 0, 1) := by decide +kernel
theorem dX0_makeTurn_127 : decode cX0_makeTurn 127 = .ok (.putfield 15, 3) := by decide +kernel
theorem dX0_makeTurn_130 : decode cX0_makeTurn 130 = .ok (.iconst 1, 1) := by decide +kernel
theorem dX0_makeTurn_131 : decode cX0_makeTurn 131 = .ok (.ireturn, 1) := by decide +kernel
theorem dX0_makeRow_0 : decode cX0_makeRow 0 = .ok (.ldc 78, 2) := by decide +kernel
theorem dX0_makeRow_2 : decode cX0_makeRow 2 = .ok (.istore_n 3, 1) := by decide +kernel
theorem dX0_makeRow_3 : decode cX0_makeRow 3 = .ok (.iload_n 3, 1) := by decide +kernel
theorem dX0_makeRow_4 : decode cX0_makeRow 4 = .ok (.iconst 1, 1) := by decide +kernel
theorem dX0_makeRow_5 : decode cX0_makeRow 5 = .ok (.if_icmp .lt 32, 3) := by decide +kernel
theorem dX0_makeRow_8 : decode cX0_makeRow 8 = .ok (.iload_n 3, 1) := by decide +kernel
theorem dX0_makeRow_9 : decode cX0_makeRow 9 = .ok (.iload_n 2, 1) := by decide +kernel
theorem dX0_makeRow_10 : decode cX0_makeRow 10 = .ok (.if_icmp .gt 19, 3) := by decide +kernel
theorem dX0_makeRow_13 : decode cX0_makeRow 13 = .ok (.aload_n 0, 1) := by decide +kernel
theorem dX0_makeRow_14 : decode cX0_makeRow 14 = .ok (.iload_n 1, 1) := by decide +kernel
theorem dX0_makeRow_15 : decode cX0_makeRow 15 = .ok (.iload_n 2, 1) := by decide +kernel
theorem dX0_makeRow_16 : decode cX0_makeRow 16 = .ok (.iload_n 3, 1) := by decide +kernel
theorem dX0_makeRow_17 : decode cX0_makeRow 17 = .ok (.idiv, 1) := by decide +kernel
theorem dX0_makeRow_18 : decode cX0_makeRow 18 = .ok (.bipush 10, 2) := by decide +kernel
theorem dX0_makeRow_20 : decode cX0_makeRow 20 = .ok (.irem, 1) := by decide +kernel
theorem dX0_makeRow_21 : decode cX0_makeRow 21 = .ok (.invokevirtual 79, 3) := by decide +kernel
theorem dX0_makeRow_24 : decode cX0_makeRow 24 = .ok (.ifCond .ne 5, 3) := by decide +kernel
theorem dX0_makeRow_27 : decode cX0_makeRow 27 = .ok (.iconst 0, 1) := by decide +kernel
theorem dX0_makeRow_28 : decode cX0_makeRow 28 = .ok (.ireturn, 1) := by decide +kernel
theorem dX0_makeRow_29 : decode cX0_makeRow 29 = .ok (.iload_n 3, 1) := by decide +kernel
theorem dX0_makeRow_30 : decode cX0_makeRow 30 = .ok (.bipush 10, 2) := by decide +kernel
theorem dX0_makeRow_32 : decode cX0_makeRow 32 = .ok (.idiv, 1) := by decide +kernel
theorem dX0_makeRow_33 : decode cX0_makeRow 33 = .ok (.istore_n 3, 1) := by decide +kernel
theorem dX0_makeRow_34 : decode cX0_makeRow 34 = .ok (.goto (-31), 3) := by decide +kernel
theorem dX0_makeRow_37 : decode cX0_makeRow 37 = .ok (.iconst 1, 1) := by decide +kernel
theorem dX0_makeRow_38 : decode cX0_makeRow 38 = .ok (.ireturn, 1) := by decide +kernel
theorem dX0_sortedStacks_0 : decode cX0_sortedStacks 0 = .ok (.iconst 0, 1) := by decide +kernel
theorem dX0_sortedStacks_1 : decode cX0_sortedStacks 1 = .ok (.istore_n 1, 1) := by decide +kernel
theorem dX0_sortedStacks_2 : decode cX0_sortedStacks 2 = .ok (.iconst 0, 1) := by decide +kernel
theorem dX0_sortedStacks_3 : decode cX0_sortedStacks 3 = .ok (.istore_n 2, 1) := by decide +kernel
theorem dX0_sortedStacks_4 : decode cX0_sortedStacks 4 = .ok (.iload_n 2, 1) := by decide +kernel
theorem dX0_sortedStacks_5 : decode cX0_sortedStacks 5 = .ok (.aload_n 0, 1) := by decide +kernel
theorem dX0_sortedStacks_6 : decode cX0_sortedStacks 6 = .ok (.getfield 9, 3) := by decide +kernel
theorem dX0_sortedStacks_9 : decode cX0_sortedStacks 9 = .ok (.if_icmp .ge 20, 3) := by decide +kernel
theorem dX0_sortedStacks_12 : decode cX0_sortedStacks 12 = .ok (.aload_n 0, 1) := by decide +kernel
theorem dX0_sortedStacks_13 : decode cX0_sortedStacks 13 = .ok (.iload_n 2, 1) := by decide +kernel
theorem dX0_sortedStacks_14 : decode cX0_sortedStacks 14 = .ok (.invokevirtual 53, 3) := by decide +kernel
theorem dX0_sortedStacks_17 : decode cX0_sortedStacks 17 = .ok (.ifCond .ne 6, 3) := by decide +kernel
theorem dX0_sortedStacks_20 : decode cX0_sortedStacks 20 = .ok (.iinc 1 1, 3) := by decide +kernel
theorem dX0_sortedStacks_23 : decode cX0_sortedStacks 23 = .ok (.iinc 2 1, 3) := by decide +kernel
theorem dX0_sortedStacks_26 : decode cX0_sortedStacks 26 = .ok (.goto (-22), 3) := by decide +kernel
theorem dX0_sortedStacks_29 : decode cX0_sortedStacks 29 = .ok (.iload_n 1, 1) := by decide +kernel
theorem dX0_sortedStacks_30 : decode cX0_sortedStacks 30 = .ok (.ireturn, 1) := by decide +kernel
theorem dX0_allGaps_0 : decode cX0_allGaps 0 = .ok (.iconst 0, 1) := by decide +kernel
theorem dX0_allGaps_1 : decode cX0_allGaps 1 = .ok (.istore_n 1, 1) := by decide +kernel
theorem dX0_allGaps_2 : decode cX0_allGaps 2 = .ok (.iconst 0, 1) := by decide +kernel
theorem dX0_allGaps_3 : decode cX0_allGaps 3 = .ok (.istore_n 2, 1) := by decide +kernel
theorem dX0_allGaps_4 : decode cX0_allGaps 4 = .ok (.iload_n 2, 1) := by decide +kernel
theorem dX0_allGaps_5 : decode cX0_allGaps 5 = .ok (.aload_n 0, 1) := by decide +kernel
theorem dX0_allGaps_6 : decode cX0_allGaps 6 = .ok (.getfield 9, 3) := by decide +kernel
theorem dX0_allGaps_9 : decode cX0_allGaps 9 = .ok (.if_icmp .ge 34, 3) := by decide +kernel
theorem dX0_allGaps_12 : decode cX0_allGaps 12 = .ok (.aload_n 0, 1) := by decide +kernel
theorem dX0_allGaps_13 : decode cX0_allGaps 13 = .ok (.iload_n 2, 1) := by decide +kernel
theorem dX0_allGaps_14 : decode cX0_allGaps 14 = .ok (.invokevirtual 49, 3) := by decide +kernel
theorem dX0_allGaps_17 : decode cX0_allGaps 17 = .ok (.astore_n 3, 1) := by decide +kernel
theorem dX0_allGaps_18 : decode cX0_allGaps 18 = .ok (.aload_n 3, 1) := by decide +kernel
theorem dX0_allGaps_19 : decode cX0_allGaps 19 = .ok (.ifnull 18, 3) := by decide +kernel
theorem dX0_allGaps_22 : decode cX0_allGaps 22 = .ok (.iload_n 1, 1) := by decide +kernel
theorem dX0_allGaps_23 : decode cX0_allGaps 23 = .ok (.aload_n 3, 1) := by decide +kernel
theorem dX0_allGaps_24 : decode cX0_allGaps 24 = .ok (.getfield 61, 3) := by decide +kernel
theorem dX0_allGaps_27 : decode cX0_allGaps 27 = .ok (.aload_n 0, 1) := by decide +kernel
theorem dX0_allGaps_28 : decode cX0_allGaps 28 = .ok (.iload_n 2, 1) := by decide +kernel
theorem dX0_allGaps_29 : decode cX0_allGaps 29 = .ok (.invokevirtual 53, 3) := by decide +kernel
theorem dX0_allGaps_32 : decode cX0_allGaps 32 = .ok (.invokevirtual 82, 3) := by decide +kernel
theorem dX0_allGaps_35 : decode cX0_allGaps 35 = .ok (.iadd, 1) := by decide +kernel
theorem dX0_allGaps_36 : decode cX0_allGaps 36 = .ok (.istore_n 1, 1) := by decide +kernel
theorem dX0_allGaps_37 : decode cX0_allGaps 37 = .ok (.iinc 2 1, 3) := by decide +kernel
theorem dX0_allGaps_40 : decode cX0_allGaps 40 = .ok (.goto (-36), 3) := by decide +kernel
theorem dX0_allGaps_43 : decode cX0_allGaps 43 = .ok (.iload_n 1, 1) := by decide +kernel
theorem dX0_allGaps_44 : decode cX0_allGaps 44 = .ok (.ireturn, 1) := by decide +kernel
theorem dX0_allTurns_0 : decode cX0_allTurns 0 = .ok (.iconst 0, 1) := by decide +kernel
theorem dX0_allTurns_1 : decode cX0_allTurns 1 = .ok (.istore_n 1, 1) := by decide +kernel
theorem dX0_allTurns_2 : decode cX0_allTurns 2 = .ok (.iconst 0, 1) := by decide +kernel
theorem dX0_allTurns_3 : decode cX0_allTurns 3 = .ok (.istore_n 2, 1) := by decide +kernel
theorem dX0_allTurns_4 : decode cX0_allTurns 4 = .ok (.iload_n 2, 1) := by decide +kernel
theorem dX0_allTurns_5 : decode cX0_allTurns 5 = .ok (.aload_n 0, 1) := by decide +kernel
theorem dX0_allTurns_6 : decode cX0_allTurns 6 = .ok (.getfield 18, 3) := by decide +kernel
theorem dX0_allTurns_9 : decode cX0_allTurns 9 = .ok (.arraylength, 1) := by decide +kernel
theorem dX0_allTurns_10 : decode cX0_allTurns 10 = .ok (.if_icmp .ge 18, 3) := by decide +kernel
theorem dX0_allTurns_13 : decode cX0_allTurns 13 = .ok (.iload_n 1, 1) := by decide +kernel
theorem dX0_allTurns_14 : decode cX0_allTurns 14 = .ok (.aload_n 0, 1) := by decide +kernel
theorem dX0_allTurns_15 : decode cX0_allTurns 15 = .ok (.getfield 18, 3) := by decide +kernel
theorem dX0_allTurns_18 : decode cX0_allTurns 18 = .ok (.iload_n 2, 1) := by decide +kernel
theorem dX0_allTurns_19 : decode cX0_allTurns 19 = .ok (.iaload, 1) := by decide +kernel
theorem dX0_allTurns_20 : decode cX0_allTurns 20 = .ok (.iadd, 1) := by decide +kernel
theorem dX0_allTurns_21 : decode cX0_allTurns 21 = .ok (.istore_n 1, 1) := by decide +kernel
theorem dX0_allTurns_22 : decode cX0_allTurns 22 = .ok (.iinc 2 1, 3) := by decide +kernel
theorem dX0_allTurns_25 : decode cX0_allTurns 25 = .ok (.goto (-21), 3) := by decide +kernel
theorem dX0_allTurns_28 : decode cX0_allTurns 28 = .ok (.iload_n 1, 1) := by decide +kernel
theorem dX0_allTurns_29 : decode cX0_allTurns 29 = .ok (.ireturn, 1) := by decide +kernel
theorem dX1_init_0 : decode cX1_init 0 = .ok (.aload_n 0, 1) := by decide +kernel
theorem dX1_init_1 : decode cX1_init 1 = .ok (.invokespecial 3, 3) := by decide +kernel
theorem dX1_init_4 : decode cX1_init 4 = .ok (.aload_n 0, 1) := by decide +kernel
theorem dX1_init_5 : decode cX1_init 5 = .ok (.iload_n 1, 1) := by decide +kernel
theorem dX1_init_6 : decode cX1_init 6 = .ok (.putfield 9, 3) := by decide +kernel
theorem dX1_init_9 : decode cX1_init 9 = .ok (.aload_n 0, 1) := by decide +kernel
theorem dX1_init_10 : decode cX1_init 10 = .ok (.iload_n 2, 1) := by decide +kernel
theorem dX1_init_11 : decode cX1_init 11 = .ok (.ifCond .eq 7, 3) := by decide +kernel
theorem dX1_init_14 : decode cX1_init 14 = .ok (.iload_n 1, 1) := by decide +kernel
theorem dX1_init_15 : decode cX1_init 15 = .ok (.goto 4, 3) := by decide +kernel
theorem dX1_init_18 : decode cX1_init 18 = .ok (.iconst 0, 1) := by decide +kernel
theorem dX1_init_19 : decode cX1_init 19 = .ok (.putfield 15, 3) := by decide +kernel
theorem dX1_init_22 : decode cX1_init 22 = .ok (.aload_n 0, 1) := by decide +kernel
theorem dX1_init_23 : decode cX1_init 23 = .ok (.iconst 1, 1) := by decide +kernel
theorem dX1_init_24 : decode cX1_init 24 = .ok (.aload_n 0, 1) := by decide +kernel
theorem dX1_init_25 : decode cX1_init 25 = .ok (.getfield 15, 3) := by decide +kernel
theorem dX1_init_28 : decode cX1_init 28 = .ok (.ishl, 1) := by decide +kernel
theorem dX1_init_29 : decode cX1_init 29 = .ok (.iconst 1, 1) := by decide +kernel
theorem dX1_init_30 : decode cX1_init 30 = .ok (.isub, 1) := by decide +kernel
theorem dX1_init_31 : decode cX1_init 31 = .ok (.putfield 18, 3) := by decide +kernel
theorem dX1_init_34 : decode cX1_init 34 = .ok (.iconst 1, 1) := by decide +kernel
theorem dX1_init_35 : decode cX1_init 35 = .ok (.istore_n 3, 1) := by decide +kernel
theorem dX1_init_36 : decode cX1_init 36 = .ok (.iconst 2, 1) := by decide +kernel
theorem dX1_init_37 : decode cX1_init 37 = .ok (.istore 4, 2) := by decide +kernel
theorem dX1_init_39 : decode cX1_init 39 = .ok (.iload 4, 2) := by decide +kernel
theorem dX1_init_41 : decode cX1_init 41 = .ok (.iload_n 1, 1) := by decide +kernel
theorem dX1_init_42 : decode cX1_init 42 = .ok (.if_icmp .gt 14, 3) := by decide +kernel
theorem dX1_init_45 : decode cX1_init 45 = .ok (.iload_n 3, 1) := by decide +kernel
theorem dX1_init_46 : decode cX1_init 46 = .ok (.iload 4, 2) := by decide +kernel
theorem dX1_init_48 : decode cX1_init 48 = .ok (.imul, 1) := by decide +kernel
theorem dX1_init_49 : decode cX1_init 49 = .ok (.istore_n 3, 1) := by decide +kernel
theorem dX1_init_50 : decode cX1_init 50 = .ok (.iinc 4 1, 3) := by decide +kernel
theorem dX1_init_53 : decode cX1_init 53 = .ok (.goto (-14), 3) := by decide +kernel
theorem dX1_init_56 : decode cX1_init 56 = .ok (.aload_n 0, 1) := by decide +kernel
theorem dX1_init_57 : decode cX1_init 57 = .ok (.iload_n 3, 1) := by decide +kernel
theorem dX1_init_58 : decode cX1_init 58 = .ok (.aload_n 0, 1) := by decide +kernel
theorem dX1_init_59 : decode cX1_init 59 = .ok (.getfield 15, 3) := by decide +kernel
theorem dX1_init_62 : decode cX1_init 62 = .ok (.ishl, 1) := by decide +kernel
theorem dX1_init_63 : decode cX1_init 63 = .ok (.putfield 21, 3) := by decide +kernel
theorem dX1_init_66 : decode cX1_init 66 = .ok (.aload_n 0, 1) := by decide +kernel
theorem dX1_init_67 : decode cX1_init 67 = .ok (.iload_n 3, 1) := by decide +kernel
theorem dX1_init_68 : decode cX1_init 68 = .ok (.invokestatic 24, 3) := by decide +kernel
theorem dX1_init_71 : decode cX1_init 71 = .ok (.putfield 28, 3) := by decide +kernel
theorem dX1_init_74 : decode cX1_init 74 = .ok (.aload_n 0, 1) := by decide +kernel
theorem dX1_init_75 : decode cX1_init 75 = .ok (.iload_n 3, 1) := by decide +kernel
theorem dX1_init_76 : decode cX1_init 76 = .ok (.iload_n 1, 1) := by decide +kernel
theorem dX1_init_77 : decode cX1_init 77 = .ok (.imul, 1) := by decide +kernel
theorem dX1_init_78 : decode cX1_init 78 = .ok (.invokestatic 24, 3) := by decide +kernel
theorem dX1_init_81 : decode cX1_init 81 = .ok (.putfield 32, 3) := by decide +kernel
theorem dX1_init_84 : decode cX1_init 84 = .ok (.aload_n 0, 1) := by decide +kernel
theorem dX1_init_85 : decode cX1_init 85 = .ok (.aload_n 0, 1) := by decide +kernel
theorem dX1_init_86 : decode cX1_init 86 = .ok (.getfield 21, 3) := by decide +kernel
theorem dX1_init_89 : decode cX1_init 89 = .ok (.iload_n 1, 1) := by decide +kernel
theorem dX1_init_90 : decode cX1_init 90 = .ok (.imul, 1) := by decide +kernel
theorem dX1_init_91 : decode cX1_init 91 = .ok (.invokestatic 24, 3) := by decide +kernel
theorem dX1_init_94 : decode cX1_init 94 = .ok (.putfield 35, 3) := by decide +kernel
theorem dX1_init_97 : decode cX1_init 97 = .ok (.aload_n 0, 1) := by decide +kernel
theorem dX1_init_98 : decode cX1_init 98 = .ok (.aload_n 0, 1) := by decide +kernel
theorem dX1_init_99 : decode cX1_init 99 = .ok (.getfield 21, 3) := by decide +kernel
theorem dX1_init_102 : decode cX1_init 102 = .ok (.invokestatic 24, 3) := by decide +kernel
theorem dX1_init_105 : decode cX1_init 105 = .ok (.putfield 38, 3) := by decide +kernel
theorem dX1_init_108 : decode cX1_init 108 = .ok (.aload_n 0, 1) := by decide +kernel
theorem dX1_init_109 : decode cX1_init 109 = .ok (.getfield 28, 3) := by decide +kernel
theorem dX1_init_112 : decode cX1_init 112 = .ok (.iconst 0, 1) := by decide +kernel
theorem dX1_init_113 : decode cX1_init 113 = .ok (.iload_n 1, 1) := by decide +kernel
theorem dX1_init_114 : decode cX1_init 114 = .ok (.iconst 0, 1) := by decide +kernel
theorem dX1_init_115 : decode cX1_init 115 = .ok (.iconst 0, 1) := by decide +kernel
theorem dX1_init_116 : decode cX1_init 116 = .ok (.iconst 0, 1) := by decide +kernel
theorem dX1_init_117 : decode cX1_init 117 = .ok (.invokestatic 41, 3) := by decide +kernel
theorem dX1_init_120 : decode cX1_init 120 = .ok (.pop, 1) := by decide +kernel
theorem dX1_init_121 : decode cX1_init 121 = .ok (.iconst 0, 1) := by decide +kernel
theorem dX1_init_122 : decode cX1_init 122 = .ok (.istore 4, 2) := by decide +kernel
theorem dX1_init_124 : decode cX1_init 124 = .ok (.iload 4, 2) := by decide +kernel
theorem dX1_init_126 : decode cX1_init 126 = .ok (.aload_n 0, 1) := by decide +kernel
theorem dX1_init_127 : decode cX1_init 127 = .ok (.getfield 28, 3) := by decide +kernel
theorem dX1_init_130 : decode cX1_init 130 = .ok (.arraylength, 1) := by decide +kernel
theorem dX1_init_131 : decode cX1_init 131 = .ok (.if_icmp .ge 21, 3) := by decide +kernel
theorem dX1_init_134 : decode cX1_init 134 = .ok (.aload_n 0, 1) := by decide +kernel
theorem dX1_init_135 : decode cX1_init 135 = .ok (.iload 4, 2) := by decide +kernel
theorem dX1_init_137 : decode cX1_init 137 = .ok (.invokevirtual 45, 3) := by decide +kernel
theorem dX1_init_140 : decode cX1_init 140 = .ok (.aload_n 0, 1) := by decide +kernel
theorem dX1_init_141 : decode cX1_init 141 = .ok (.iload 4, 2) := by decide +kernel
theorem dX1_init_143 : decode cX1_init 143 = .ok (.invokevirtual 49, 3) := by decide +kernel
theorem dX1_init_146 : decode cX1_init 146 = .ok (.iinc 4 1, 3) := by decide +kernel
theorem dX1_init_149 : decode cX1_init 149 = .ok (.goto (-25), 3) := by decide +kernel
theorem dX1_init_152 : decode cX1_init 152 = .ok (.iconst 0, 1) := by decide +kernel
theorem dX1_init_153 : decode cX1_init 153 = .ok (.istore 4, 2) := by decide +kernel
theorem dX1_init_155 : decode cX1_init 155 = .ok (.iload 4, 2) := by decide +kernel
theorem dX1_init_157 : decode cX1_init 157 = .ok (.aload_n 0, 1) := by decide +kernel
theorem dX1_init_158 : decode cX1_init 158 = .ok (.getfield 38, 3) := by decide +kernel
theorem dX1_init_161 : decode cX1_init 161 = .ok (.arraylength, 1) := by decide +kernel
theorem dX1_init_162 : decode cX1_init 162 = .ok (.if_icmp .ge 53, 3) := by decide +kernel
theorem dX1_init_165 : decode cX1_init 165 = .ok (.iconst 0, 1) := by decide +kernel
theorem dX1_init_166 : decode cX1_init 166 = .ok (.istore 5, 2) := by decide +kernel
theorem dX1_init_168 : decode cX1_init 168 = .ok (.iload 5, 2) := by decide +kernel
theorem dX1_init_170 : decode cX1_init 170 = .ok (.iload_n 1, 1) := by decide +kernel
theorem dX1_init_171 : decode cX1_init 171 = .ok (.if_icmp .ge 38, 3) := by decide +kernel
theorem dX1_init_174 : decode cX1_init 174 = .ok (.aload_n 0, 1) := by decide +kernel
theorem dX1_init_175 : decode cX1_init 175 = .ok (.getfield 38, 3) := by decide +kernel
theorem dX1_init_178 : decode cX1_init 178 = .ok (.iload 4, 2) := by decide +kernel
theorem dX1_init_180 : decode cX1_init 180 = .ok (.dup2, 1) := by decide +kernel
theorem dX1_init_181 : decode cX1_init 181 = .ok (.iaload, 1) := by decide +kernel
theorem dX1_init_182 : decode cX1_init 182 = .ok (.aload_n 0, 1) := by decide +kernel
theorem dX1_init_183 : decode cX1_init 183 = .ok (.iload 4, 2) := by decide +kernel
theorem dX1_init_185 : decode cX1_init 185 = .ok (.iload 5, 2) := by decide +kernel
theorem dX1_init_187 : decode cX1_init 187 = .ok (.invokevirtual 52, 3) := by decide +kernel
theorem dX1_init_190 : decode cX1_init 190 = .ok (.ifCond .eq 10, 3) := by decide +kernel
theorem dX1_init_193 : decode cX1_init 193 = .ok (.iconst 1, 1) := by decide +kernel
theorem dX1_init_194 : decode cX1_init 194 = .ok (.iload 5, 2) := by decide +kernel
theorem dX1_init_196 : decode cX1_init 196 = .ok (.ishl, 1) := by decide +kernel
theorem dX1_init_197 : decode cX1_init 197 = .ok (.goto 4, 3) := by decide +kernel
theorem dX1_init_200 : decode cX1_init 200 = .ok (.iconst 0, 1) := by decide +kernel
theorem dX1_init_201 : decode cX1_init 201 = .ok (.ior, 1) := by decide +kernel
theorem dX1_init_202 : decode cX1_init 202 = .ok (.iastore, 1) := by decide +kernel
theorem dX1_init_203 : decode cX1_init 203 = .ok (.iinc 5 1, 3) := by decide +kernel
theorem dX1_init_206 : decode cX1_init 206 = .ok (.goto (-38), 3) := by decide +kernel
theorem dX1_init_209 : decode cX1_init 209 = .ok (.iinc 4 1, 3) := by decide +kernel
theorem dX1_init_212 : decode cX1_init 212 = .ok (.goto (-57), 3) := by decide +kernel
theorem dX1_init_215 : decode cX1_init 215 = .ok (.return_, 1) := by decide +kernel
theorem dX1_fillCodes_0 : decode cX1_fillCodes 0 = .ok (.iload 5, 2) := by decide +kernel
theorem dX1_fillCodes_2 : decode cX1_fillCodes 2 = .ok (.iload_n 2, 1) := by decide +kernel
theorem dX1_fillCodes_3 : decode cX1_fillCodes 3 = .ok (.if_icmp .lt 13, 3) := by decide +kernel
theorem dX1_fillCodes_6 : decode cX1_fillCodes 6 = .ok (.aload_n 0, 1) := by decide +kernel
theorem dX1_fillCodes_7 : decode cX1_fillCodes 7 = .ok (.iload_n 1, 1) := by decide +kernel
theorem dX1_fillCodes_8 : decode cX1_fillCodes 8 = .ok (.iload_n 3, 1) := by decide +kernel
theorem dX1_fillCodes_9 : decode cX1_fillCodes 9 = .ok (.invokestatic 56, 3) := by decide +kernel
theorem dX1_fillCodes_12 : decode cX1_fillCodes 12 = .ok (.iload_n 1, 1) := by decide +kernel
theorem dX1_fillCodes_13 : decode cX1_fillCodes 13 = .ok (.iconst 1, 1) := by decide +kernel
theorem dX1_fillCodes_14 : decode cX1_fillCodes 14 = .ok (.iadd, 1) := by decide +kernel
theorem dX1_fillCodes_15 : decode cX1_fillCodes 15 = .ok (.ireturn, 1) := by decide +kernel
theorem dX1_fillCodes_16 : decode cX1_fillCodes 16 = .ok (.iload_n 1, 1) := by decide +kernel
theorem dX1_fillCodes_17 : decode cX1_fillCodes 17 = .ok (.istore 6, 2) := by decide +kernel
theorem dX1_fillCodes_19 : decode cX1_fillCodes 19 = .ok (.iconst 1, 1) := by decide +kernel
theorem dX1_fillCodes_20 : decode cX1_fillCodes 20 = .ok (.istore 7, 2) := by decide +kernel
theorem dX1_fillCodes_22 : decode cX1_fillCodes 22 = .ok (.iload 7, 2) := by decide +kernel
theorem dX1_fillCodes_24 : decode cX1_fillCodes 24 = .ok (.iload_n 2, 1) := by decide +kernel
theorem dX1_fillCodes_25 : decode cX1_fillCodes 25 = .ok (.if_icmp .gt 46, 3) := by decide +kernel
theorem dX1_fillCodes_28 : decode cX1_fillCodes 28 = .ok (.iload 4, 2) := by decide +kernel
theorem dX1_fillCodes_30 : decode cX1_fillCodes 30 = .ok (.iconst 1, 1) := by decide +kernel
theorem dX1_fillCodes_31 : decode cX1_fillCodes 31 = .ok (.iload 7, 2) := by decide +kernel
theorem dX1_fillCodes_33 : decode cX1_fillCodes 33 = .ok (.ishl, 1) := by decide +kernel
theorem dX1_fillCodes_34 : decode cX1_fillCodes 34 = .ok (.iand, 1) := by decide +kernel
theorem dX1_fillCodes_35 : decode cX1_fillCodes 35 = .ok (.ifCond .ne 30, 3) := by decide +kernel
theorem dX1_fillCodes_38 : decode cX1_fillCodes 38 = .ok (.aload_n 0, 1) := by decide +kernel
theorem dX1_fillCodes_39 : decode cX1_fillCodes 39 = .ok (.iload 6, 2) := by decide +kernel
theorem dX1_fillCodes_41 : decode cX1_fillCodes 41 = .ok (.iload_n 2, 1) := by decide +kernel
theorem dX1_fillCodes_42 : decode cX1_fillCodes 42 = .ok (.iload_n 3, 1) := by decide +kernel
theorem dX1_fillCodes_43 : decode cX1_fillCodes 43 = .ok (.bipush 10, 2) := by decide +kernel
theorem dX1_fillCodes_45 : decode cX1_fillCodes 45 = .ok (.imul, 1) := by decide +kernel
theorem dX1_fillCodes_46 : decode cX1_fillCodes 46 = .ok (.iload 7, 2) := by decide +kernel
theorem dX1_fillCodes_48 : decode cX1_fillCodes 48 = .ok (.iadd, 1) := by decide +kernel
theorem dX1_fillCodes_49 : decode cX1_fillCodes 49 = .ok (.iload 4, 2) := by decide +kernel
theorem dX1_fillCodes_51 : decode cX1_fillCodes 51 = .ok (.iconst 1, 1) := by decide +kernel
theorem dX1_fillCodes_52 : decode cX1_fillCodes 52 = .ok (.iload 7, 2) := by decide +kernel
theorem dX1_fillCodes_54 : decode cX1_fillCodes 54 = .ok (.ishl, 1) := by decide +kernel
theorem dX1_fillCodes_55 : decode cX1_fillCodes 55 = .ok (.ior, 1) := by decide +kernel
theorem dX1_fillCodes_56 : decode cX1_fillCodes 56 = .ok (.iload 5, 2) := by decide +kernel
theorem dX1_fillCodes_58 : decode cX1_fillCodes 58 = .ok (.iconst 1, 1) := by decide +kernel
theorem dX1_fillCodes_59 : decode cX1_fillCodes 59 = .ok (.iadd, 1) := by decide +kernel
theorem dX1_fillCodes_60 : decode cX1_fillCodes 60 = .ok (.invokestatic 41, 3) := by decide +kernel
theorem dX1_fillCodes_63 : decode cX1_fillCodes 63 = .ok (.istore 6, 2) := by decide +kernel
theorem dX1_fillCodes_65 : decode cX1_fillCodes 65 = .ok (.iinc 7 1, 3) := by decide +kernel
theorem dX1_fillCodes_68 : decode cX1_fillCodes 68 = .ok (.goto (-46), 3) := by decide +kernel
theorem dX1_fillCodes_71 : decode cX1_fillCodes 71 = .ok (.iload 6, 2) := by decide +kernel
theorem dX1_fillCodes_73 : decode cX1_fillCodes 73 = .ok (.ireturn, 1) := by decide +kernel
theorem dX1_fillSizes_0 : decode cX1_fillSizes 0 = .ok (.aload_n 0, 1) := by decide +kernel
theorem dX1_fillSizes_1 : decode cX1_fillSizes 1 = .ok (.getfield 28, 3) := by decide +kernel
theorem dX1_fillSizes_4 : decode cX1_fillSizes 4 = .ok (.iload_n 1, 1) := by decide +kernel
theorem dX1_fillSizes_5 : decode cX1_fillSizes 5 = .ok (.invokestatic 60, 3) := by decide +kernel
theorem dX1_fillSizes_8 : decode cX1_fillSizes 8 = .ok (.istore_n 2, 1) := by decide +kernel
theorem dX1_fillSizes_9 : decode cX1_fillSizes 9 = .ok (.aload_n 0, 1) := by decide +kernel
theorem dX1_fillSizes_10 : decode cX1_fillSizes 10 = .ok (.getfield 9, 3) := by decide +kernel
theorem dX1_fillSizes_13 : decode cX1_fillSizes 13 = .ok (.iconst 1, 1) := by decide +kernel
theorem dX1_fillSizes_14 : decode cX1_fillSizes 14 = .ok (.isub, 1) := by decide +kernel
theorem dX1_fillSizes_15 : decode cX1_fillSizes 15 = .ok (.istore_n 3, 1) := by decide +kernel
theorem dX1_fillSizes_16 : decode cX1_fillSizes 16 = .ok (.iload_n 3, 1) := by decide +kernel
theorem dX1_fillSizes_17 : decode cX1_fillSizes 17 = .ok (.ifCond .lt 33, 3) := by decide +kernel
theorem dX1_fillSizes_20 : decode cX1_fillSizes 20 = .ok (.aload_n 0, 1) := by decide +kernel
theorem dX1_fillSizes_21 : decode cX1_fillSizes 21 = .ok (.getfield 32, 3) := by decide +kernel
theorem dX1_fillSizes_24 : decode cX1_fillSizes 24 = .ok (.iload_n 1, 1) := by decide +kernel
theorem dX1_fillSizes_25 : decode cX1_fillSizes 25 = .ok (.aload_n 0, 1) := by decide +kernel
theorem dX1_fillSizes_26 : decode cX1_fillSizes 26 = .ok (.getfield 9, 3) := by decide +kernel
theorem dX1_fillSizes_29 : decode cX1_fillSizes 29 = .ok (.imul, 1) := by decide +kernel
theorem dX1_fillSizes_30 : decode cX1_fillSizes 30 = .ok (.iload_n 3, 1) := by decide +kernel
theorem dX1_fillSizes_31 : decode cX1_fillSizes 31 = .ok (.iadd, 1) := by decide +kernel
theorem dX1_fillSizes_32 : decode cX1_fillSizes 32 = .ok (.iload_n 2, 1) := by decide +kernel
theorem dX1_fillSizes_33 : decode cX1_fillSizes 33 = .ok (.bipush 10, 2) := by decide +kernel
theorem dX1_fillSizes_35 : decode cX1_fillSizes 35 = .ok (.irem, 1) := by decide +kernel
theorem dX1_fillSizes_36 : decode cX1_fillSizes 36 = .ok (.invokestatic 56, 3) := by decide +kernel
theorem dX1_fillSizes_39 : decode cX1_fillSizes 39 = .ok (.iload_n 2, 1) := by decide +kernel
theorem dX1_fillSizes_40 : decode cX1_fillSizes 40 = .ok (.bipush 10, 2) := by decide +kernel
theorem dX1_fillSizes_42 : decode cX1_fillSizes 42 = .ok (.idiv, 1) := by decide +kernel
theorem dX1_fillSizes_43 : decode cX1_fillSizes 43 = .ok (.istore_n 2, 1) := by decide +kernel
theorem dX1_fillSizes_44 : decode cX1_fillSizes 44 = .ok (.iinc 3 (-1), 3) := by decide +kernel
theorem dX1_fillSizes_47 : decode cX1_fillSizes 47 = .ok (.goto (-31), 3) := by decide +kernel
theorem dX1_fillSizes_50 : decode cX1_fillSizes 50 = .ok (.return_, 1) := by decide +kernel
theorem dX1_fillTurned_0 : decode cX1_fillTurned 0 = .ok (.iconst 1, 1) := by decide +kernel
theorem dX1_fillTurned_1 : decode cX1_fillTurned 1 = .ok (.istore_n 2, 1) := by decide +kernel
theorem dX1_fillTurned_2 : decode cX1_fillTurned 2 = .ok (.iload_n 2, 1) := by decide +kernel
theorem dX1_fillTurned_3 : decode cX1_fillTurned 3 = .ok (.aload_n 0, 1) := by decide +kernel
theorem dX1_fillTurned_4 : decode cX1_fillTurned 4 = .ok (.getfield 9, 3) := by decide +kernel
theorem dX1_fillTurned_7 : decode cX1_fillTurned 7 = .ok (.if_icmp .gt 81, 3) := by decide +kernel
theorem dX1_fillTurned_10 : decode cX1_fillTurned 10 = .ok (.aload_n 0, 1) := by decide +kernel
theorem dX1_fillTurned_11 : decode cX1_fillTurned 11 = .ok (.aload_n 0, 1) := by decide +kernel
theorem dX1_fillTurned_12 : decode cX1_fillTurned 12 = .ok (.iload_n 1, 1) := by decide +kernel
theorem dX1_fillTurned_13 : decode cX1_fillTurned 13 = .ok (.iload_n 2, 1) := by decide +kernel
theorem dX1_fillTurned_14 : decode cX1_fillTurned 14 = .ok (.invokevirtual 64, 3) := by decide +kernel
theorem dX1_fillTurned_17 : decode cX1_fillTurned 17 = .ok (.invokevirtual 68, 3) := by decide +kernel
theorem dX1_fillTurned_20 : decode cX1_fillTurned 20 = .ok (.aload_n 0, 1) := by decide +kernel
theorem dX1_fillTurned_21 : decode cX1_fillTurned 21 = .ok (.getfield 15, 3) := by decide +kernel
theorem dX1_fillTurned_24 : decode cX1_fillTurned 24 = .ok (.ishl, 1) := by decide +kernel
theorem dX1_fillTurned_25 : decode cX1_fillTurned 25 = .ok (.istore_n 3, 1) := by decide +kernel
theorem dX1_fillTurned_26 : decode cX1_fillTurned 26 = .ok (.iconst 0, 1) := by decide +kernel
theorem dX1_fillTurned_27 : decode cX1_fillTurned 27 = .ok (.istore 4, 2) := by decide +kernel
theorem dX1_fillTurned_29 : decode cX1_fillTurned 29 = .ok (.iload 4, 2) := by decide +kernel
theorem dX1_fillTurned_31 : decode cX1_fillTurned 31 = .ok (.aload_n 0, 1) := by decide +kernel
theorem dX1_fillTurned_32 : decode cX1_fillTurned 32 = .ok (.getfield 18, 3) := by decide +kernel
theorem dX1_fillTurned_35 : decode cX1_fillTurned 35 = .ok (.if_icmp .gt 47, 3) := by decide +kernel
theorem dX1_fillTurned_38 : decode cX1_fillTurned 38 = .ok (.iload_n 1, 1) := by decide +kernel
theorem dX1_fillTurned_39 : decode cX1_fillTurned 39 = .ok (.aload_n 0, 1) := by decide +kernel
theorem dX1_fillTurned_40 : decode cX1_fillTurned 40 = .ok (.getfield 15, 3) := by decide +kernel
theorem dX1_fillTurned_43 : decode cX1_fillTurned 43 = .ok (.ishl, 1) := by decide +kernel
theorem dX1_fillTurned_44 : decode cX1_fillTurned 44 = .ok (.iload 4, 2) := by decide +kernel
theorem dX1_fillTurned_46 : decode cX1_fillTurned 46 = .ok (.ior, 1) := by decide +kernel
theorem dX1_fillTurned_47 : decode cX1_fillTurned 47 = .ok (.istore 5, 2) := by decide +kernel
theorem dX1_fillTurned_49 : decode cX1_fillTurned 49 = .ok (.aload_n 0, 1) := by decide +kernel
theorem dX1_fillTurned_50 : decode cX1_fillTurned 50 = .ok (.getfield 35, 3) := by decide +kernel
theorem dX1_fillTurned_53 : decode cX1_fillTurned 53 = .ok (.iload 5, 2) := by decide +kernel
theorem dX1_fillTurned_55 : decode cX1_fillTurned 55 = .ok (.aload_n 0, 1) := by decide +kernel
theorem dX1_fillTurned_56 : decode cX1_fillTurned 56 = .ok (.getfield 9, 3) := by decide +kernel
theorem dX1_fillTurned_59 : decode cX1_fillTurned 59 = .ok (.imul, 1) := by decide +kernel
theorem dX1_fillTurned_60 : decode cX1_fillTurned 60 = .ok (.iload_n 2, 1) := by decide +kernel
theorem dX1_fillTurned_61 : decode cX1_fillTurned 61 = .ok (.iadd, 1) := by decide +kernel
theorem dX1_fillTurned_62 : decode cX1_fillTurned 62 = .ok (.iconst 1, 1) := by decide +kernel
theorem dX1_fillTurned_63 : decode cX1_fillTurned 63 = .ok (.isub, 1) := by decide +kernel
theorem dX1_fillTurned_64 : decode cX1_fillTurned 64 = .ok (.iload_n 3, 1) := by decide +kernel
theorem dX1_fillTurned_65 : decode cX1_fillTurned 65 = .ok (.aload_n 0, 1) := by decide +kernel
theorem dX1_fillTurned_66 : decode cX1_fillTurned 66 = .ok (.iload 4, 2) := by decide +kernel
theorem dX1_fillTurned_68 : decode cX1_fillTurned 68 = .ok (.iload_n 2, 1) := by decide +kernel
theorem dX1_fillTurned_69 : decode cX1_fillTurned 69 = .ok (.invokevirtual 72, 3) := by decide +kernel
theorem dX1_fillTurned_72 : decode cX1_fillTurned 72 = .ok (.ior, 1) := by decide +kernel
theorem dX1_fillTurned_73 : decode cX1_fillTurned 73 = .ok (.invokestatic 56, 3) := by decide +kernel
theorem dX1_fillTurned_76 : decode cX1_fillTurned 76 = .ok (.iinc 4 1, 3) := by decide +kernel
theorem dX1_fillTurned_79 : decode cX1_fillTurned 79 = .ok (.goto (-50), 3) := by decide +kernel
theorem dX1_fillTurned_82 : decode cX1_fillTurned 82 = .ok (.iinc 2 1, 3) := by decide +kernel
theorem dX1_fillTurned_85 : decode cX1_fillTurned 85 = .ok (.goto (-83), 3) := by decide +kernel
theorem dX1_fillTurned_88 : decode cX1_fillTurned 88 = .ok (.return_, 1) := by decide +kernel
theorem dX1_codeBehind_0 : decode cX1_codeBehind 0 = .ok (.iconst 0, 1) := by decide +kernel
theorem dX1_codeBehind_1 : decode cX1_codeBehind 1 = .ok (.istore_n 3, 1) := by decide +kernel
theorem dX1_codeBehind_2 : decode cX1_codeBehind 2 = .ok (.iconst 0, 1) := by decide +kernel
theorem dX1_codeBehind_3 : decode cX1_codeBehind 3 = .ok (.istore 4, 2) := by decide +kernel
theorem dX1_codeBehind_5 : decode cX1_codeBehind 5 = .ok (.iload 4, 2) := by decide +kernel
theorem dX1_codeBehind_7 : decode cX1_codeBehind 7 = .ok (.aload_n 0, 1) := by decide +kernel
theorem dX1_codeBehind_8 : decode cX1_codeBehind 8 = .ok (.getfield 9, 3) := by decide +kernel
theorem dX1_codeBehind_11 : decode cX1_codeBehind 11 = .ok (.if_icmp .ge 50, 3) := by decide +kernel
theorem dX1_codeBehind_14 : decode cX1_codeBehind 14 = .ok (.iload 4, 2) := by decide +kernel
theorem dX1_codeBehind_16 : decode cX1_codeBehind 16 = .ok (.iload_n 2, 1) := by decide +kernel
theorem dX1_codeBehind_17 : decode cX1_codeBehind 17 = .ok (.if_icmp .ge 12, 3) := by decide +kernel
theorem dX1_codeBehind_20 : decode cX1_codeBehind 20 = .ok (.iload_n 2, 1) := by decide +kernel
theorem dX1_codeBehind_21 : decode cX1_codeBehind 21 = .ok (.iconst 1, 1) := by decide +kernel
theorem dX1_codeBehind_22 : decode cX1_codeBehind 22 = .ok (.isub, 1) := by decide +kernel
theorem dX1_codeBehind_23 : decode cX1_codeBehind 23 = .ok (.iload 4, 2) := by decide +kernel
theorem dX1_codeBehind_25 : decode cX1_codeBehind 25 = .ok (.isub, 1) := by decide +kernel
theorem dX1_codeBehind_26 : decode cX1_codeBehind 26 = .ok (.goto 5, 3) := by decide +kernel
theorem dX1_codeBehind_29 : decode cX1_codeBehind 29 = .ok (.iload 4, 2) := by decide +kernel
theorem dX1_codeBehind_31 : decode cX1_codeBehind 31 = .ok (.istore 5, 2) := by decide +kernel
theorem dX1_codeBehind_33 : decode cX1_codeBehind 33 = .ok (.iload_n 3, 1) := by decide +kernel
theorem dX1_codeBehind_34 : decode cX1_codeBehind 34 = .ok (.bipush 10, 2) := by decide +kernel
theorem dX1_codeBehind_36 : decode cX1_codeBehind 36 = .ok (.imul, 1) := by decide +kernel
theorem dX1_codeBehind_37 : decode cX1_codeBehind 37 = .ok (.aload_n 0, 1) := by decide +kernel
theorem dX1_codeBehind_38 : decode cX1_codeBehind 38 = .ok (.getfield 32, 3) := by decide +kernel
theorem dX1_codeBehind_41 : decode cX1_codeBehind 41 = .ok (.iload_n 1, 1) := by decide +kernel
theorem dX1_codeBehind_42 : decode cX1_codeBehind 42 = .ok (.aload_n 0, 1) := by decide +kernel
theorem dX1_codeBehind_43 : decode cX1_codeBehind 43 = .ok (.getfield 9, 3) := by decide +kernel
theorem dX1_codeBehind_46 : decode cX1_codeBehind 46 = .ok (.imul, 1) := by decide +kernel
theorem dX1_codeBehind_47 : decode cX1_codeBehind 47 = .ok (.iload 5, 2) := by decide +kernel
theorem dX1_codeBehind_49 : decode cX1_codeBehind 49 = .ok (.iadd, 1) := by decide +kernel
theorem dX1_codeBehind_50 : decode cX1_codeBehind 50 = .ok (.invokestatic 60, 3) := by decide +kernel
theorem dX1_codeBehind_53 : decode cX1_codeBehind 53 = .ok (.iadd, 1) := by decide +kernel
theorem dX1_codeBehind_54 : decode cX1_codeBehind 54 = .ok (.istore_n 3, 1) := by decide +kernel
theorem dX1_codeBehind_55 : decode cX1_codeBehind 55 = .ok (.iinc 4 1, 3) := by decide +kernel
theorem dX1_codeBehind_58 : decode cX1_codeBehind 58 = .ok (.goto (-53), 3) := by decide +kernel
theorem dX1_codeBehind_61 : decode cX1_codeBehind 61 = .ok (.iload_n 3, 1) := by decide +kernel
theorem dX1_codeBehind_62 : decode cX1_codeBehind 62 = .ok (.ireturn, 1) := by decide +kernel
theorem dX1_sidesBehind_0 : decode cX1_sidesBehind 0 = .ok (.aload_n 0, 1) := by decide +kernel
theorem dX1_sidesBehind_1 : decode cX1_sidesBehind 1 = .ok (.getfield 15, 3) := by decide +kernel
theorem dX1_sidesBehind_4 : decode cX1_sidesBehind 4 = .ok (.ifCond .ne 5, 3) := by decide +kernel
theorem dX1_sidesBehind_7 : decode cX1_sidesBehind 7 = .ok (.iconst 0, 1) := by decide +kernel
theorem dX1_sidesBehind_8 : decode cX1_sidesBehind 8 = .ok (.ireturn, 1) := by decide +kernel
theorem dX1_sidesBehind_9 : decode cX1_sidesBehind 9 = .ok (.iload_n 1, 1) := by decide +kernel
theorem dX1_sidesBehind_10 : decode cX1_sidesBehind 10 = .ok (.iload_n 2, 1) := by decide +kernel
theorem dX1_sidesBehind_11 : decode cX1_sidesBehind 11 = .ok (.ishr, 1) := by decide +kernel
theorem dX1_sidesBehind_12 : decode cX1_sidesBehind 12 = .ok (.iload_n 2, 1) := by decide +kernel
theorem dX1_sidesBehind_13 : decode cX1_sidesBehind 13 = .ok (.ishl, 1) := by decide +kernel
theorem dX1_sidesBehind_14 : decode cX1_sidesBehind 14 = .ok (.istore_n 3, 1) := by decide +kernel
theorem dX1_sidesBehind_15 : decode cX1_sidesBehind 15 = .ok (.iconst 0, 1) := by decide +kernel
theorem dX1_sidesBehind_16 : decode cX1_sidesBehind 16 = .ok (.istore 4, 2) := by decide +kernel
theorem dX1_sidesBehind_18 : decode cX1_sidesBehind 18 = .ok (.iload 4, 2) := by decide +kernel
theorem dX1_sidesBehind_20 : decode cX1_sidesBehind 20 = .ok (.iload_n 2, 1) := by decide +kernel
theorem dX1_sidesBehind_21 : decode cX1_sidesBehind 21 = .ok (.if_icmp .ge 31, 3) := by decide +kernel
theorem dX1_sidesBehind_24 : decode cX1_sidesBehind 24 = .ok (.iload_n 1, 1) := by decide +kernel
theorem dX1_sidesBehind_25 : decode cX1_sidesBehind 25 = .ok (.iload 4, 2) := by decide +kernel
theorem dX1_sidesBehind_27 : decode cX1_sidesBehind 27 = .ok (.ishr, 1) := by decide +kernel
theorem dX1_sidesBehind_28 : decode cX1_sidesBehind 28 = .ok (.iconst 1, 1) := by decide +kernel
theorem dX1_sidesBehind_29 : decode cX1_sidesBehind 29 = .ok (.iand, 1) := by decide +kernel
theorem dX1_sidesBehind_30 : decode cX1_sidesBehind 30 = .ok (.istore 5, 2) := by decide +kernel
theorem dX1_sidesBehind_32 : decode cX1_sidesBehind 32 = .ok (.iload_n 3, 1) := by decide +kernel
theorem dX1_sidesBehind_33 : decode cX1_sidesBehind 33 = .ok (.iconst 1, 1) := by decide +kernel
theorem dX1_sidesBehind_34 : decode cX1_sidesBehind 34 = .ok (.iload 5, 2) := by decide +kernel
theorem dX1_sidesBehind_36 : decode cX1_sidesBehind 36 = .ok (.isub, 1) := by decide +kernel
theorem dX1_sidesBehind_37 : decode cX1_sidesBehind 37 = .ok (.iload_n 2, 1) := by decide +kernel
theorem dX1_sidesBehind_38 : decode cX1_sidesBehind 38 = .ok (.iconst 1, 1) := by decide +kernel
theorem dX1_sidesBehind_39 : decode cX1_sidesBehind 39 = .ok (.isub, 1) := by decide +kernel
theorem dX1_sidesBehind_40 : decode cX1_sidesBehind 40 = .ok (.iload 4, 2) := by decide +kernel
theorem dX1_sidesBehind_42 : decode cX1_sidesBehind 42 = .ok (.isub, 1) := by decide +kernel
theorem dX1_sidesBehind_43 : decode cX1_sidesBehind 43 = .ok (.ishl, 1) := by decide +kernel
theorem dX1_sidesBehind_44 : decode cX1_sidesBehind 44 = .ok (.ior, 1) := by decide +kernel
theorem dX1_sidesBehind_45 : decode cX1_sidesBehind 45 = .ok (.istore_n 3, 1) := by decide +kernel
theorem dX1_sidesBehind_46 : decode cX1_sidesBehind 46 = .ok (.iinc 4 1, 3) := by decide +kernel
theorem dX1_sidesBehind_49 : decode cX1_sidesBehind 49 = .ok (.goto (-31), 3) := by decide +kernel
theorem dX1_sidesBehind_52 : decode cX1_sidesBehind 52 = .ok (.iload_n 3, 1) := by decide +kernel
theorem dX1_sidesBehind_53 : decode cX1_sidesBehind 53 = .ok (.ireturn, 1) := by decide +kernel
theorem dX1_findJoined_0 : decode cX1_findJoined 0 = .ok (.aload_n 0, 1) := by decide +kernel
theorem dX1_findJoined_1 : decode cX1_findJoined 1 = .ok (.iload_n 1, 1) := by decide +kernel
theorem dX1_findJoined_2 : decode cX1_findJoined 2 = .ok (.iload_n 2, 1) := by decide +kernel
theorem dX1_findJoined_3 : decode cX1_findJoined 3 = .ok (.invokevirtual 75, 3) := by decide +kernel
theorem dX1_findJoined_6 : decode cX1_findJoined 6 = .ok (.istore_n 3, 1) := by decide +kernel
theorem dX1_findJoined_7 : decode cX1_findJoined 7 = .ok (.aload_n 0, 1) := by decide +kernel
theorem dX1_findJoined_8 : decode cX1_findJoined 8 = .ok (.iload_n 1, 1) := by decide +kernel
theorem dX1_findJoined_9 : decode cX1_findJoined 9 = .ok (.iload_n 2, 1) := by decide +kernel
theorem dX1_findJoined_10 : decode cX1_findJoined 10 = .ok (.invokevirtual 78, 3) := by decide +kernel
theorem dX1_findJoined_13 : decode cX1_findJoined 13 = .ok (.istore 4, 2) := by decide +kernel
theorem dX1_findJoined_15 : decode cX1_findJoined 15 = .ok (.iload_n 2, 1) := by decide +kernel
theorem dX1_findJoined_16 : decode cX1_findJoined 16 = .ok (.aload_n 0, 1) := by decide +kernel
theorem dX1_findJoined_17 : decode cX1_findJoined 17 = .ok (.getfield 9, 3) := by decide +kernel
theorem dX1_findJoined_20 : decode cX1_findJoined 20 = .ok (.iconst 1, 1) := by decide +kernel
theorem dX1_findJoined_21 : decode cX1_findJoined 21 = .ok (.isub, 1) := by decide +kernel
theorem dX1_findJoined_22 : decode cX1_findJoined 22 = .ok (.if_icmp .ne 22, 3) := by decide +kernel
theorem dX1_findJoined_25 : decode cX1_findJoined 25 = .ok (.iload_n 3, 1) := by decide +kernel
theorem dX1_findJoined_26 : decode cX1_findJoined 26 = .ok (.aload_n 0, 1) := by decide +kernel
theorem dX1_findJoined_27 : decode cX1_findJoined 27 = .ok (.getfield 9, 3) := by decide +kernel
theorem dX1_findJoined_30 : decode cX1_findJoined 30 = .ok (.if_icmp .ne 12, 3) := by decide +kernel
theorem dX1_findJoined_33 : decode cX1_findJoined 33 = .ok (.iload 4, 2) := by decide +kernel
theorem dX1_findJoined_35 : decode cX1_findJoined 35 = .ok (.ifCond .ne 7, 3) := by decide +kernel
theorem dX1_findJoined_38 : decode cX1_findJoined 38 = .ok (.iconst 1, 1) := by decide +kernel
theorem dX1_findJoined_39 : decode cX1_findJoined 39 = .ok (.goto 4, 3) := by decide +kernel
theorem dX1_findJoined_42 : decode cX1_findJoined 42 = .ok (.iconst 0, 1) := by decide +kernel
theorem dX1_findJoined_43 : decode cX1_findJoined 43 = .ok (.ireturn, 1) := by decide +kernel
theorem dX1_findJoined_44 : decode cX1_findJoined 44 = .ok (.aload_n 0, 1) := by decide +kernel
theorem dX1_findJoined_45 : decode cX1_findJoined 45 = .ok (.iload_n 1, 1) := by decide +kernel
theorem dX1_findJoined_46 : decode cX1_findJoined 46 = .ok (.iload_n 2, 1) := by decide +kernel
theorem dX1_findJoined_47 : decode cX1_findJoined 47 = .ok (.iconst 1, 1) := by decide +kernel
theorem dX1_findJoined_48 : decode cX1_findJoined 48 = .ok (.iadd, 1) := by decide +kernel
theorem dX1_findJoined_49 : decode cX1_findJoined 49 = .ok (.invokevirtual 75, 3) := by decide +kernel
theorem dX1_findJoined_52 : decode cX1_findJoined 52 = .ok (.iload_n 3, 1) := by decide +kernel
theorem dX1_findJoined_53 : decode cX1_findJoined 53 = .ok (.isub, 1) := by decide +kernel
theorem dX1_findJoined_54 : decode cX1_findJoined 54 = .ok (.istore 5, 2) := by decide +kernel
theorem dX1_findJoined_56 : decode cX1_findJoined 56 = .ok (.aload_n 0, 1) := by decide +kernel
theorem dX1_findJoined_57 : decode cX1_findJoined 57 = .ok (.getfield 15, 3) := by decide +kernel
theorem dX1_findJoined_60 : decode cX1_findJoined 60 = .ok (.ifCond .ne 21, 3) := by decide +kernel
theorem dX1_findJoined_63 : decode cX1_findJoined 63 = .ok (.iload 5, 2) := by decide +kernel
theorem dX1_findJoined_65 : decode cX1_findJoined 65 = .ok (.iconst 1, 1) := by decide +kernel
theorem dX1_findJoined_66 : decode cX1_findJoined 66 = .ok (.if_icmp .eq 9, 3) := by decide +kernel
theorem dX1_findJoined_69 : decode cX1_findJoined 69 = .ok (.iload 5, 2) := by decide +kernel
theorem dX1_findJoined_71 : decode cX1_findJoined 71 = .ok (.iconst (-1), 1) := by decide +kernel
theorem dX1_findJoined_72 : decode cX1_findJoined 72 = .ok (.if_icmp .ne 7, 3) := by decide +kernel
theorem dX1_findJoined_75 : decode cX1_findJoined 75 = .ok (.iconst 1, 1) := by decide +kernel
theorem dX1_findJoined_76 : decode cX1_findJoined 76 = .ok (.goto 4, 3) := by decide +kernel
theorem dX1_findJoined_79 : decode cX1_findJoined 79 = .ok (.iconst 0, 1) := by decide +kernel
theorem dX1_findJoined_80 : decode cX1_findJoined 80 = .ok (.ireturn, 1) := by decide +kernel
theorem dX1_findJoined_81 : decode cX1_findJoined 81 = .ok (.iload 4, 2) := by decide +kernel
theorem dX1_findJoined_83 : decode cX1_findJoined 83 = .ok (.aload_n 0, 1) := by decide +kernel
theorem dX1_findJoined_84 : decode cX1_findJoined 84 = .ok (.iload_n 1, 1) := by decide +kernel
theorem dX1_findJoined_85 : decode cX1_findJoined 85 = .ok (.iload_n 2, 1) := by decide +kernel
theorem dX1_findJoined_86 : decode cX1_findJoined 86 = .ok (.iconst 1, 1) := by decide +kernel
theorem dX1_findJoined_87 : decode cX1_findJoined 87 = .ok (.iadd, 1) := by decide +kernel
theorem dX1_findJoined_88 : decode cX1_findJoined 88 = .ok (.invokevirtual 78, 3) := by decide +kernel
theorem dX1_findJoined_91 : decode cX1_findJoined 91 = .ok (.if_icmp .ne 22, 3) := by decide +kernel
theorem dX1_findJoined_94 : decode cX1_findJoined 94 = .ok (.iload 5, 2) := by decide +kernel
theorem dX1_findJoined_96 : decode cX1_findJoined 96 = .ok (.iload 4, 2) := by decide +kernel
theorem dX1_findJoined_98 : decode cX1_findJoined 98 = .ok (.ifCond .eq 7, 3) := by decide +kernel
theorem dX1_findJoined_101 : decode cX1_findJoined 101 = .ok (.iconst (-1), 1) := by decide +kernel
theorem dX1_findJoined_102 : decode cX1_findJoined 102 = .ok (.goto 4, 3) := by decide +kernel
theorem dX1_findJoined_105 : decode cX1_findJoined 105 = .ok (.iconst 1, 1) := by decide +kernel
theorem dX1_findJoined_106 : decode cX1_findJoined 106 = .ok (.if_icmp .ne 7, 3) := by decide +kernel
theorem dX1_findJoined_109 : decode cX1_findJoined 109 = .ok (.iconst 1, 1) := by decide +kernel
theorem dX1_findJoined_110 : decode cX1_findJoined 110 = .ok (.goto 4, 3) := by decide +kernel
theorem dX1_findJoined_113 : decode cX1_findJoined 113 = .ok (.iconst 0, 1) := by decide +kernel
theorem dX1_findJoined_114 : decode cX1_findJoined 114 = .ok (.ireturn, 1) := by decide +kernel
theorem dX1_orderOf_0 : decode cX1_orderOf 0 = .ok (.iconst 0, 1) := by decide +kernel
theorem dX1_orderOf_1 : decode cX1_orderOf 1 = .ok (.istore_n 2, 1) := by decide +kernel
theorem dX1_orderOf_2 : decode cX1_orderOf 2 = .ok (.aload_n 0, 1) := by decide +kernel
theorem dX1_orderOf_3 : decode cX1_orderOf 3 = .ok (.getfield 28, 3) := by decide +kernel
theorem dX1_orderOf_6 : decode cX1_orderOf 6 = .ok (.arraylength, 1) := by decide +kernel
theorem dX1_orderOf_7 : decode cX1_orderOf 7 = .ok (.iconst 1, 1) := by decide +kernel
theorem dX1_orderOf_8 : decode cX1_orderOf 8 = .ok (.isub, 1) := by decide +kernel
theorem dX1_orderOf_9 : decode cX1_orderOf 9 = .ok (.istore_n 3, 1) := by decide +kernel
theorem dX1_orderOf_10 : decode cX1_orderOf 10 = .ok (.iconst 0, 1) := by decide +kernel
theorem dX1_orderOf_11 : decode cX1_orderOf 11 = .ok (.istore 4, 2) := by decide +kernel
theorem dX1_orderOf_13 : decode cX1_orderOf 13 = .ok (.iload 4, 2) := by decide +kernel
theorem dX1_orderOf_15 : decode cX1_orderOf 15 = .ok (.bipush 20, 2) := by decide +kernel
theorem dX1_orderOf_17 : decode cX1_orderOf 17 = .ok (.if_icmp .ge 60, 3) := by decide +kernel
theorem dX1_orderOf_20 : decode cX1_orderOf 20 = .ok (.iload_n 2, 1) := by decide +kernel
theorem dX1_orderOf_21 : decode cX1_orderOf 21 = .ok (.iload_n 3, 1) := by decide +kernel
theorem dX1_orderOf_22 : decode cX1_orderOf 22 = .ok (.if_icmp .gt 55, 3) := by decide +kernel
theorem dX1_orderOf_25 : decode cX1_orderOf 25 = .ok (.iload_n 2, 1) := by decide +kernel
theorem dX1_orderOf_26 : decode cX1_orderOf 26 = .ok (.iload_n 3, 1) := by decide +kernel
theorem dX1_orderOf_27 : decode cX1_orderOf 27 = .ok (.iadd, 1) := by decide +kernel
theorem dX1_orderOf_28 : decode cX1_orderOf 28 = .ok (.iconst 1, 1) := by decide +kernel
theorem dX1_orderOf_29 : decode cX1_orderOf 29 = .ok (.iushr, 1) := by decide +kernel
theorem dX1_orderOf_30 : decode cX1_orderOf 30 = .ok (.istore 5, 2) := by decide +kernel
theorem dX1_orderOf_32 : decode cX1_orderOf 32 = .ok (.aload_n 0, 1) := by decide +kernel
theorem dX1_orderOf_33 : decode cX1_orderOf 33 = .ok (.getfield 28, 3) := by decide +kernel
theorem dX1_orderOf_36 : decode cX1_orderOf 36 = .ok (.iload 5, 2) := by decide +kernel
theorem dX1_orderOf_38 : decode cX1_orderOf 38 = .ok (.invokestatic 60, 3) := by decide +kernel
theorem dX1_orderOf_41 : decode cX1_orderOf 41 = .ok (.istore 6, 2) := by decide +kernel
theorem dX1_orderOf_43 : decode cX1_orderOf 43 = .ok (.iload 6, 2) := by decide +kernel
theorem dX1_orderOf_45 : decode cX1_orderOf 45 = .ok (.iload_n 1, 1) := by decide +kernel
theorem dX1_orderOf_46 : decode cX1_orderOf 46 = .ok (.if_icmp .ne 6, 3) := by decide +kernel
theorem dX1_orderOf_49 : decode cX1_orderOf 49 = .ok (.iload 5, 2) := by decide +kernel
theorem dX1_orderOf_51 : decode cX1_orderOf 51 = .ok (.ireturn, 1) := by decide +kernel
theorem dX1_orderOf_52 : decode cX1_orderOf 52 = .ok (.iload 6, 2) := by decide +kernel
theorem dX1_orderOf_54 : decode cX1_orderOf 54 = .ok (.iload_n 1, 1) := by decide +kernel
theorem dX1_orderOf_55 : decode cX1_orderOf 55 = .ok (.if_icmp .ge 11, 3) := by decide +kernel
theorem dX1_orderOf_58 : decode cX1_orderOf 58 = .ok (.iload 5, 2) := by decide +kernel
theorem dX1_orderOf_60 : decode cX1_orderOf 60 = .ok (.iconst 1, 1) := by decide +kernel
theorem dX1_orderOf_61 : decode cX1_orderOf 61 = .ok (.iadd, 1) := by decide +kernel
theorem dX1_orderOf_62 : decode cX1_orderOf 62 = .ok (.istore_n 2, 1) := by decide +kernel
theorem dX1_orderOf_63 : decode cX1_orderOf 63 = .ok (.goto 8, 3) := by decide +kernel
theorem dX1_orderOf_66 : decode cX1_orderOf 66 = .ok (.iload 5, 2) := by decide +kernel
theorem dX1_orderOf_68 : decode cX1_orderOf 68 = .ok (.iconst 1, 1) := by decide +kernel
theorem dX1_orderOf_69 : decode cX1_orderOf 69 = .ok (.isub, 1) := by decide +kernel
theorem dX1_orderOf_70 : decode cX1_orderOf 70 = .ok (.istore_n 3, 1) := by decide +kernel
theorem dX1_orderOf_71 : decode cX1_orderOf 71 = .ok (.iinc 4 1, 3) := by decide +kernel
theorem dX1_orderOf_74 : decode cX1_orderOf 74 = .ok (.goto (-61), 3) := by decide +kernel
theorem dX1_orderOf_77 : decode cX1_orderOf 77 = .ok (.iconst (-1), 1) := by decide +kernel
theorem dX1_orderOf_78 : decode cX1_orderOf 78 = .ok (.ireturn, 1) := by decide +kernel
theorem dX1_rankOf_0 : decode cX1_rankOf 0 = .ok (.aload_n 0, 1) := by decide +kernel
theorem dX1_rankOf_1 : decode cX1_rankOf 1 = .ok (.iload_n 1, 1) := by decide +kernel
theorem dX1_rankOf_2 : decode cX1_rankOf 2 = .ok (.invokevirtual 68, 3) := by decide +kernel
theorem dX1_rankOf_5 : decode cX1_rankOf 5 = .ok (.istore_n 3, 1) := by decide +kernel
theorem dX1_rankOf_6 : decode cX1_rankOf 6 = .ok (.iload_n 3, 1) := by decide +kernel
theorem dX1_rankOf_7 : decode cX1_rankOf 7 = .ok (.iconst (-1), 1) := by decide +kernel
theorem dX1_rankOf_8 : decode cX1_rankOf 8 = .ok (.if_icmp .eq 15, 3) := by decide +kernel
theorem dX1_rankOf_11 : decode cX1_rankOf 11 = .ok (.iload_n 2, 1) := by decide +kernel
theorem dX1_rankOf_12 : decode cX1_rankOf 12 = .ok (.ifCond .lt 11, 3) := by decide +kernel
theorem dX1_rankOf_15 : decode cX1_rankOf 15 = .ok (.iload_n 2, 1) := by decide +kernel
theorem dX1_rankOf_16 : decode cX1_rankOf 16 = .ok (.aload_n 0, 1) := by decide +kernel
theorem dX1_rankOf_17 : decode cX1_rankOf 17 = .ok (.getfield 18, 3) := by decide +kernel
theorem dX1_rankOf_20 : decode cX1_rankOf 20 = .ok (.if_icmp .le 5, 3) := by decide +kernel
theorem dX1_rankOf_23 : decode cX1_rankOf 23 = .ok (.iconst (-1), 1) := by decide +kernel
theorem dX1_rankOf_24 : decode cX1_rankOf 24 = .ok (.ireturn, 1) := by decide +kernel
theorem dX1_rankOf_25 : decode cX1_rankOf 25 = .ok (.iload_n 3, 1) := by decide +kernel
theorem dX1_rankOf_26 : decode cX1_rankOf 26 = .ok (.aload_n 0, 1) := by decide +kernel
theorem dX1_rankOf_27 : decode cX1_rankOf 27 = .ok (.getfield 15, 3) := by decide +kernel
theorem dX1_rankOf_30 : decode cX1_rankOf 30 = .ok (.ishl, 1) := by decide +kernel
theorem dX1_rankOf_31 : decode cX1_rankOf 31 = .ok (.iload_n 2, 1) := by decide +kernel
theorem dX1_rankOf_32 : decode cX1_rankOf 32 = .ok (.ior, 1) := by decide +kernel
theorem dX1_rankOf_33 : decode cX1_rankOf 33 = .ok (.ireturn, 1) := by decide +kernel
theorem dX1_codeOf_0 : decode cX1_codeOf 0 = .ok (.aload_n 0, 1) := by decide +kernel
theorem dX1_codeOf_1 : decode cX1_codeOf 1 = .ok (.getfield 28, 3) := by decide +kernel
theorem dX1_codeOf_4 : decode cX1_codeOf 4 = .ok (.iload_n 1, 1) := by decide +kernel
theorem dX1_codeOf_5 : decode cX1_codeOf 5 = .ok (.aload_n 0, 1) := by decide +kernel
theorem dX1_codeOf_6 : decode cX1_codeOf 6 = .ok (.getfield 15, 3) := by decide +kernel
theorem dX1_codeOf_9 : decode cX1_codeOf 9 = .ok (.ishr, 1) := by decide +kernel
theorem dX1_codeOf_10 : decode cX1_codeOf 10 = .ok (.invokestatic 60, 3) := by decide +kernel
theorem dX1_codeOf_13 : decode cX1_codeOf 13 = .ok (.ireturn, 1) := by decide +kernel
theorem dX1_sidesOf_0 : decode cX1_sidesOf 0 = .ok (.iload_n 1, 1) := by decide +kernel
theorem dX1_sidesOf_1 : decode cX1_sidesOf 1 = .ok (.aload_n 0, 1) := by decide +kernel
theorem dX1_sidesOf_2 : decode cX1_sidesOf 2 = .ok (.getfield 18, 3) := by decide +kernel
theorem dX1_sidesOf_5 : decode cX1_sidesOf 5 = .ok (.iand, 1) := by decide +kernel
theorem dX1_sidesOf_6 : decode cX1_sidesOf 6 = .ok (.ireturn, 1) := by decide +kernel
theorem dX1_sizeAt_0 : decode cX1_sizeAt 0 = .ok (.aload_n 0, 1) := by decide +kernel
theorem dX1_sizeAt_1 : decode cX1_sizeAt 1 = .ok (.getfield 32, 3) := by decide +kernel
theorem dX1_sizeAt_4 : decode cX1_sizeAt 4 = .ok (.iload_n 1, 1) := by decide +kernel
theorem dX1_sizeAt_5 : decode cX1_sizeAt 5 = .ok (.aload_n 0, 1) := by decide +kernel
theorem dX1_sizeAt_6 : decode cX1_sizeAt 6 = .ok (.getfield 15, 3) := by decide +kernel
theorem dX1_sizeAt_9 : decode cX1_sizeAt 9 = .ok (.ishr, 1) := by decide +kernel
theorem dX1_sizeAt_10 : decode cX1_sizeAt 10 = .ok (.aload_n 0, 1) := by decide +kernel
theorem dX1_sizeAt_11 : decode cX1_sizeAt 11 = .ok (.getfield 9, 3) := by decide +kernel
theorem dX1_sizeAt_14 : decode cX1_sizeAt 14 = .ok (.imul, 1) := by decide +kernel
theorem dX1_sizeAt_15 : decode cX1_sizeAt 15 = .ok (.iload_n 2, 1) := by decide +kernel
theorem dX1_sizeAt_16 : decode cX1_sizeAt 16 = .ok (.iadd, 1) := by decide +kernel
theorem dX1_sizeAt_17 : decode cX1_sizeAt 17 = .ok (.invokestatic 60, 3) := by decide +kernel
theorem dX1_sizeAt_20 : decode cX1_sizeAt 20 = .ok (.ireturn, 1) := by decide +kernel
theorem dX1_isBurnt_0 : decode cX1_isBurnt 0 = .ok (.iload_n 1, 1) := by decide +kernel
theorem dX1_isBurnt_1 : decode cX1_isBurnt 1 = .ok (.aload_n 0, 1) := by decide +kernel
theorem dX1_isBurnt_2 : decode cX1_isBurnt 2 = .ok (.getfield 18, 3) := by decide +kernel
theorem dX1_isBurnt_5 : decode cX1_isBurnt 5 = .ok (.iand, 1) := by decide +kernel
theorem dX1_isBurnt_6 : decode cX1_isBurnt 6 = .ok (.iload_n 2, 1) := by decide +kernel
theorem dX1_isBurnt_7 : decode cX1_isBurnt 7 = .ok (.ishr, 1) := by decide +kernel
theorem dX1_isBurnt_8 : decode cX1_isBurnt 8 = .ok (.iconst 1, 1) := by decide +kernel
theorem dX1_isBurnt_9 : decode cX1_isBurnt 9 = .ok (.iand, 1) := by decide +kernel
theorem dX1_isBurnt_10 : decode cX1_isBurnt 10 = .ok (.ifCond .eq 7, 3) := by decide +kernel
theorem dX1_isBurnt_13 : decode cX1_isBurnt 13 = .ok (.iconst 1, 1) := by decide +kernel
theorem dX1_isBurnt_14 : decode cX1_isBurnt 14 = .ok (.goto 4, 3) := by decide +kernel
theorem dX1_isBurnt_17 : decode cX1_isBurnt 17 = .ok (.iconst 0, 1) := by decide +kernel
theorem dX1_isBurnt_18 : decode cX1_isBurnt 18 = .ok (.ireturn, 1) := by decide +kernel
theorem dX1_behind_0 : decode cX1_behind 0 = .ok (.aload_n 0, 1) := by decide +kernel
theorem dX1_behind_1 : decode cX1_behind 1 = .ok (.getfield 35, 3) := by decide +kernel
theorem dX1_behind_4 : decode cX1_behind 4 = .ok (.iload_n 1, 1) := by decide +kernel
theorem dX1_behind_5 : decode cX1_behind 5 = .ok (.aload_n 0, 1) := by decide +kernel
theorem dX1_behind_6 : decode cX1_behind 6 = .ok (.getfield 9, 3) := by decide +kernel
theorem dX1_behind_9 : decode cX1_behind 9 = .ok (.imul, 1) := by decide +kernel
theorem dX1_behind_10 : decode cX1_behind 10 = .ok (.iload_n 2, 1) := by decide +kernel
theorem dX1_behind_11 : decode cX1_behind 11 = .ok (.iadd, 1) := by decide +kernel
theorem dX1_behind_12 : decode cX1_behind 12 = .ok (.iconst 1, 1) := by decide +kernel
theorem dX1_behind_13 : decode cX1_behind 13 = .ok (.isub, 1) := by decide +kernel
theorem dX1_behind_14 : decode cX1_behind 14 = .ok (.invokestatic 60, 3) := by decide +kernel
theorem dX1_behind_17 : decode cX1_behind 17 = .ok (.ireturn, 1) := by decide +kernel
theorem dX1_isJoined_0 : decode cX1_isJoined 0 = .ok (.aload_n 0, 1) := by decide +kernel
theorem dX1_isJoined_1 : decode cX1_isJoined 1 = .ok (.getfield 38, 3) := by decide +kernel
theorem dX1_isJoined_4 : decode cX1_isJoined 4 = .ok (.iload_n 1, 1) := by decide +kernel
theorem dX1_isJoined_5 : decode cX1_isJoined 5 = .ok (.invokestatic 60, 3) := by decide +kernel
theorem dX1_isJoined_8 : decode cX1_isJoined 8 = .ok (.iload_n 2, 1) := by decide +kernel
theorem dX1_isJoined_9 : decode cX1_isJoined 9 = .ok (.ishr, 1) := by decide +kernel
theorem dX1_isJoined_10 : decode cX1_isJoined 10 = .ok (.iconst 1, 1) := by decide +kernel
theorem dX1_isJoined_11 : decode cX1_isJoined 11 = .ok (.iand, 1) := by decide +kernel
theorem dX1_isJoined_12 : decode cX1_isJoined 12 = .ok (.ifCond .eq 7, 3) := by decide +kernel
theorem dX1_isJoined_15 : decode cX1_isJoined 15 = .ok (.iconst 1, 1) := by decide +kernel
theorem dX1_isJoined_16 : decode cX1_isJoined 16 = .ok (.goto 4, 3) := by decide +kernel
theorem dX1_isJoined_19 : decode cX1_isJoined 19 = .ok (.iconst 0, 1) := by decide +kernel
theorem dX1_isJoined_20 : decode cX1_isJoined 20 = .ok (.ireturn, 1) := by decide +kernel
theorem dX1_gaps_0 : decode cX1_gaps 0 = .ok (.aload_n 0, 1) := by decide +kernel
theorem dX1_gaps_1 : decode cX1_gaps 1 = .ok (.getfield 9, 3) := by decide +kernel
theorem dX1_gaps_4 : decode cX1_gaps 4 = .ok (.aload_n 0, 1) := by decide +kernel
theorem dX1_gaps_5 : decode cX1_gaps 5 = .ok (.getfield 38, 3) := by decide +kernel
theorem dX1_gaps_8 : decode cX1_gaps 8 = .ok (.iload_n 1, 1) := by decide +kernel
theorem dX1_gaps_9 : decode cX1_gaps 9 = .ok (.invokestatic 60, 3) := by decide +kernel
theorem dX1_gaps_12 : decode cX1_gaps 12 = .ok (.invokestatic 81, 3) := by decide +kernel
theorem dX1_gaps_15 : decode cX1_gaps 15 = .ok (.isub, 1) := by decide +kernel
theorem dX1_gaps_16 : decode cX1_gaps 16 = .ok (.ireturn, 1) := by decide +kernel
theorem dX1_simpleTurn_0 : decode cX1_simpleTurn 0 = .ok (.aload_n 0, 1) := by decide +kernel
theorem dX1_simpleTurn_1 : decode cX1_simpleTurn 1 = .ok (.getfield 9, 3) := by decide +kernel
theorem dX1_simpleTurn_4 : decode cX1_simpleTurn 4 = .ok (.istore_n 2, 1) := by decide +kernel
theorem dX1_simpleTurn_5 : decode cX1_simpleTurn 5 = .ok (.iload_n 2, 1) := by decide +kernel
theorem dX1_simpleTurn_6 : decode cX1_simpleTurn 6 = .ok (.iconst 1, 1) := by decide +kernel
theorem dX1_simpleTurn_7 : decode cX1_simpleTurn 7 = .ok (.if_icmp .lt 45, 3) := by decide +kernel
theorem dX1_simpleTurn_10 : decode cX1_simpleTurn 10 = .ok (.aload_n 0, 1) := by decide +kernel
theorem dX1_simpleTurn_11 : decode cX1_simpleTurn 11 = .ok (.iload_n 1, 1) := by decide +kernel
theorem dX1_simpleTurn_12 : decode cX1_simpleTurn 12 = .ok (.iload_n 2, 1) := by decide +kernel
theorem dX1_simpleTurn_13 : decode cX1_simpleTurn 13 = .ok (.invokevirtual 86, 3) := by decide +kernel
theorem dX1_simpleTurn_16 : decode cX1_simpleTurn 16 = .ok (.istore_n 3, 1) := by decide +kernel
theorem dX1_simpleTurn_17 : decode cX1_simpleTurn 17 = .ok (.iload_n 3, 1) := by decide +kernel
theorem dX1_simpleTurn_18 : decode cX1_simpleTurn 18 = .ok (.iload_n 2, 1) := by decide +kernel
theorem dX1_simpleTurn_19 : decode cX1_simpleTurn 19 = .ok (.iconst 1, 1) := by decide +kernel
theorem dX1_simpleTurn_20 : decode cX1_simpleTurn 20 = .ok (.isub, 1) := by decide +kernel
theorem dX1_simpleTurn_21 : decode cX1_simpleTurn 21 = .ok (.if_icmp .ne 12, 3) := by decide +kernel
theorem dX1_simpleTurn_24 : decode cX1_simpleTurn 24 = .ok (.aload_n 0, 1) := by decide +kernel
theorem dX1_simpleTurn_25 : decode cX1_simpleTurn 25 = .ok (.iload_n 1, 1) := by decide +kernel
theorem dX1_simpleTurn_26 : decode cX1_simpleTurn 26 = .ok (.iload_n 3, 1) := by decide +kernel
theorem dX1_simpleTurn_27 : decode cX1_simpleTurn 27 = .ok (.invokevirtual 78, 3) := by decide +kernel
theorem dX1_simpleTurn_30 : decode cX1_simpleTurn 30 = .ok (.ifCond .eq 16, 3) := by decide +kernel
theorem dX1_simpleTurn_33 : decode cX1_simpleTurn 33 = .ok (.aload_n 0, 1) := by decide +kernel
theorem dX1_simpleTurn_34 : decode cX1_simpleTurn 34 = .ok (.iload_n 2, 1) := by decide +kernel
theorem dX1_simpleTurn_35 : decode cX1_simpleTurn 35 = .ok (.iload_n 3, 1) := by decide +kernel
theorem dX1_simpleTurn_36 : decode cX1_simpleTurn 36 = .ok (.aload_n 0, 1) := by decide +kernel
theorem dX1_simpleTurn_37 : decode cX1_simpleTurn 37 = .ok (.iload_n 1, 1) := by decide +kernel
theorem dX1_simpleTurn_38 : decode cX1_simpleTurn 38 = .ok (.iload_n 3, 1) := by decide +kernel
theorem dX1_simpleTurn_39 : decode cX1_simpleTurn 39 = .ok (.invokevirtual 78, 3) := by decide +kernel
theorem dX1_simpleTurn_42 : decode cX1_simpleTurn 42 = .ok (.invokevirtual 89, 3) := by decide +kernel
theorem dX1_simpleTurn_45 : decode cX1_simpleTurn 45 = .ok (.ireturn, 1) := by decide +kernel
theorem dX1_simpleTurn_46 : decode cX1_simpleTurn 46 = .ok (.iinc 2 (-1), 3) := by decide +kernel
theorem dX1_simpleTurn_49 : decode cX1_simpleTurn 49 = .ok (.goto (-44), 3) := by decide +kernel
theorem dX1_simpleTurn_52 : decode cX1_simpleTurn 52 = .ok (.iconst (-1), 1) := by decide +kernel
theorem dX1_simpleTurn_53 : decode cX1_simpleTurn 53 = .ok (.ireturn, 1) := by decide +kernel
theorem dX1_simpleTurnFor_0 : decode cX1_simpleTurnFor 0 = .ok (.iload_n 2, 1) := by decide +kernel
theorem dX1_simpleTurnFor_1 : decode cX1_simpleTurnFor 1 = .ok (.iload_n 1, 1) := by decide +kernel
theorem dX1_simpleTurnFor_2 : decode cX1_simpleTurnFor 2 = .ok (.iconst 1, 1) := by decide +kernel
theorem dX1_simpleTurnFor_3 : decode cX1_simpleTurnFor 3 = .ok (.isub, 1) := by decide +kernel
theorem dX1_simpleTurnFor_4 : decode cX1_simpleTurnFor 4 = .ok (.if_icmp .ne 5, 3) := by decide +kernel
theorem dX1_simpleTurnFor_7 : decode cX1_simpleTurnFor 7 = .ok (.iload_n 1, 1) := by decide +kernel
theorem dX1_simpleTurnFor_8 : decode cX1_simpleTurnFor 8 = .ok (.ireturn, 1) := by decide +kernel
theorem dX1_simpleTurnFor_9 : decode cX1_simpleTurnFor 9 = .ok (.iload_n 2, 1) := by decide +kernel
theorem dX1_simpleTurnFor_10 : decode cX1_simpleTurnFor 10 = .ok (.ifCond .le 7, 3) := by decide +kernel
theorem dX1_simpleTurnFor_13 : decode cX1_simpleTurnFor 13 = .ok (.iload_n 2, 1) := by decide +kernel
theorem dX1_simpleTurnFor_14 : decode cX1_simpleTurnFor 14 = .ok (.iconst 1, 1) := by decide +kernel
theorem dX1_simpleTurnFor_15 : decode cX1_simpleTurnFor 15 = .ok (.iadd, 1) := by decide +kernel
theorem dX1_simpleTurnFor_16 : decode cX1_simpleTurnFor 16 = .ok (.ireturn, 1) := by decide +kernel
theorem dX1_simpleTurnFor_17 : decode cX1_simpleTurnFor 17 = .ok (.aload_n 0, 1) := by decide +kernel
theorem dX1_simpleTurnFor_18 : decode cX1_simpleTurnFor 18 = .ok (.getfield 15, 3) := by decide +kernel
theorem dX1_simpleTurnFor_21 : decode cX1_simpleTurnFor 21 = .ok (.ifCond .le 11, 3) := by decide +kernel
theorem dX1_simpleTurnFor_24 : decode cX1_simpleTurnFor 24 = .ok (.iload_n 3, 1) := by decide +kernel
theorem dX1_simpleTurnFor_25 : decode cX1_simpleTurnFor 25 = .ok (.ifCond .ne 7, 3) := by decide +kernel
theorem dX1_simpleTurnFor_28 : decode cX1_simpleTurnFor 28 = .ok (.iconst 1, 1) := by decide +kernel
theorem dX1_simpleTurnFor_29 : decode cX1_simpleTurnFor 29 = .ok (.goto 4, 3) := by decide +kernel
theorem dX1_simpleTurnFor_32 : decode cX1_simpleTurnFor 32 = .ok (.iload_n 1, 1) := by decide +kernel
theorem dX1_simpleTurnFor_33 : decode cX1_simpleTurnFor 33 = .ok (.ireturn, 1) := by decide +kernel
theorem dX1_placeOf_0 : decode cX1_placeOf 0 = .ok (.iconst 0, 1) := by decide +kernel
theorem dX1_placeOf_1 : decode cX1_placeOf 1 = .ok (.istore_n 3, 1) := by decide +kernel
theorem dX1_placeOf_2 : decode cX1_placeOf 2 = .ok (.iload_n 3, 1) := by decide +kernel
theorem dX1_placeOf_3 : decode cX1_placeOf 3 = .ok (.aload_n 0, 1) := by decide +kernel
theorem dX1_placeOf_4 : decode cX1_placeOf 4 = .ok (.getfield 9, 3) := by decide +kernel
theorem dX1_placeOf_7 : decode cX1_placeOf 7 = .ok (.if_icmp .ge 21, 3) := by decide +kernel
theorem dX1_placeOf_10 : decode cX1_placeOf 10 = .ok (.aload_n 0, 1) := by decide +kernel
theorem dX1_placeOf_11 : decode cX1_placeOf 11 = .ok (.iload_n 1, 1) := by decide +kernel
theorem dX1_placeOf_12 : decode cX1_placeOf 12 = .ok (.iload_n 3, 1) := by decide +kernel
theorem dX1_placeOf_13 : decode cX1_placeOf 13 = .ok (.invokevirtual 75, 3) := by decide +kernel
theorem dX1_placeOf_16 : decode cX1_placeOf 16 = .ok (.iload_n 2, 1) := by decide +kernel
theorem dX1_placeOf_17 : decode cX1_placeOf 17 = .ok (.if_icmp .ne 5, 3) := by decide +kernel
theorem dX1_placeOf_20 : decode cX1_placeOf 20 = .ok (.iload_n 3, 1) := by decide +kernel
theorem dX1_placeOf_21 : decode cX1_placeOf 21 = .ok (.ireturn, 1) := by decide +kernel
theorem dX1_placeOf_22 : decode cX1_placeOf 22 = .ok (.iinc 3 1, 3) := by decide +kernel
theorem dX1_placeOf_25 : decode cX1_placeOf 25 = .ok (.goto (-23), 3) := by decide +kernel
theorem dX1_placeOf_28 : decode cX1_placeOf 28 = .ok (.iconst (-1), 1) := by decide +kernel
theorem dX1_placeOf_29 : decode cX1_placeOf 29 = .ok (.ireturn, 1) := by decide +kernel
theorem dX2_init_0 : decode cX2_init 0 = .ok (.aload_n 0, 1) := by decide +kernel
theorem dX2_init_1 : decode cX2_init 1 = .ok (.invokespecial 3, 3) := by decide +kernel
theorem dX2_init_4 : decode cX2_init 4 = .ok (.aload_n 0, 1) := by decide +kernel
theorem dX2_init_5 : decode cX2_init 5 = .ok (.aconst_null, 1) := by decide +kernel
theorem dX2_init_6 : decode cX2_init 6 = .ok (.putfield 9, 3) := by decide +kernel
theorem dX2_init_9 : decode cX2_init 9 = .ok (.aload_n 0, 1) := by decide +kernel
theorem dX2_init_10 : decode cX2_init 10 = .ok (.iload_n 1, 1) := by decide +kernel
theorem dX2_init_11 : decode cX2_init 11 = .ok (.putfield 15, 3) := by decide +kernel
theorem dX2_init_14 : decode cX2_init 14 = .ok (.aload_n 0, 1) := by decide +kernel
theorem dX2_init_15 : decode cX2_init 15 = .ok (.iload_n 2, 1) := by decide +kernel
theorem dX2_init_16 : decode cX2_init 16 = .ok (.putfield 19, 3) := by decide +kernel
theorem dX2_init_19 : decode cX2_init 19 = .ok (.aload_n 0, 1) := by decide +kernel
theorem dX2_init_20 : decode cX2_init 20 = .ok (.aload_n 3, 1) := by decide +kernel
theorem dX2_init_21 : decode cX2_init 21 = .ok (.putfield 22, 3) := by decide +kernel
theorem dX2_init_24 : decode cX2_init 24 = .ok (.aload_n 0, 1) := by decide +kernel
theorem dX2_init_25 : decode cX2_init 25 = .ok (.aload_n 3, 1) := by decide +kernel
theorem dX2_init_26 : decode cX2_init 26 = .ok (.getfield 26, 3) := by decide +kernel
theorem dX2_init_29 : decode cX2_init 29 = .ok (.putfield 31, 3) := by decide +kernel
theorem dX2_init_32 : decode cX2_init 32 = .ok (.aload_n 0, 1) := by decide +kernel
theorem dX2_init_33 : decode cX2_init 33 = .ok (.aload_n 3, 1) := by decide +kernel
theorem dX2_init_34 : decode cX2_init 34 = .ok (.getfield 32, 3) := by decide +kernel
theorem dX2_init_37 : decode cX2_init 37 = .ok (.invokestatic 35, 3) := by decide +kernel
theorem dX2_init_40 : decode cX2_init 40 = .ok (.putfield 39, 3) := by decide +kernel
theorem dX2_init_43 : decode cX2_init 43 = .ok (.iconst 0, 1) := by decide +kernel
theorem dX2_init_44 : decode cX2_init 44 = .ok (.istore 4, 2) := by decide +kernel
theorem dX2_init_46 : decode cX2_init 46 = .ok (.iload 4, 2) := by decide +kernel
theorem dX2_init_48 : decode cX2_init 48 = .ok (.aload_n 0, 1) := by decide +kernel
theorem dX2_init_49 : decode cX2_init 49 = .ok (.getfield 39, 3) := by decide +kernel
theorem dX2_init_52 : decode cX2_init 52 = .ok (.arraylength, 1) := by decide +kernel
theorem dX2_init_53 : decode cX2_init 53 = .ok (.if_icmp .ge 22, 3) := by decide +kernel
theorem dX2_init_56 : decode cX2_init 56 = .ok (.aload_n 0, 1) := by decide +kernel
theorem dX2_init_57 : decode cX2_init 57 = .ok (.getfield 39, 3) := by decide +kernel
theorem dX2_init_60 : decode cX2_init 60 = .ok (.iload 4, 2) := by decide +kernel
theorem dX2_init_62 : decode cX2_init 62 = .ok (.aload_n 0, 1) := by decide +kernel
theorem dX2_init_63 : decode cX2_init 63 = .ok (.iload 4, 2) := by decide +kernel
theorem dX2_init_65 : decode cX2_init 65 = .ok (.invokevirtual 43, 3) := by decide +kernel
theorem dX2_init_68 : decode cX2_init 68 = .ok (.iastore, 1) := by decide +kernel
theorem dX2_init_69 : decode cX2_init 69 = .ok (.iinc 4 1, 3) := by decide +kernel
theorem dX2_init_72 : decode cX2_init 72 = .ok (.goto (-26), 3) := by decide +kernel
theorem dX2_init_75 : decode cX2_init 75 = .ok (.return_, 1) := by decide +kernel
theorem dX2_findPossible_0 : decode cX2_findPossible 0 = .ok (.iconst 0, 1) := by decide +kernel
theorem dX2_findPossible_1 : decode cX2_findPossible 1 = .ok (.istore_n 2, 1) := by decide +kernel
theorem dX2_findPossible_2 : decode cX2_findPossible 2 = .ok (.iconst 0, 1) := by decide +kernel
theorem dX2_findPossible_3 : decode cX2_findPossible 3 = .ok (.istore_n 3, 1) := by decide +kernel
theorem dX2_findPossible_4 : decode cX2_findPossible 4 = .ok (.iconst 1, 1) := by decide +kernel
theorem dX2_findPossible_5 : decode cX2_findPossible 5 = .ok (.istore 4, 2) := by decide +kernel
theorem dX2_findPossible_7 : decode cX2_findPossible 7 = .ok (.iload 4, 2) := by decide +kernel
theorem dX2_findPossible_9 : decode cX2_findPossible 9 = .ok (.aload_n 0, 1) := by decide +kernel
theorem dX2_findPossible_10 : decode cX2_findPossible 10 = .ok (.getfield 31, 3) := by decide +kernel
theorem dX2_findPossible_13 : decode cX2_findPossible 13 = .ok (.if_icmp .gt 94, 3) := by decide +kernel
theorem dX2_findPossible_16 : decode cX2_findPossible 16 = .ok (.iload_n 3, 1) := by decide +kernel
theorem dX2_findPossible_17 : decode cX2_findPossible 17 = .ok (.aload_n 0, 1) := by decide +kernel
theorem dX2_findPossible_18 : decode cX2_findPossible 18 = .ok (.getfield 22, 3) := by decide +kernel
theorem dX2_findPossible_21 : decode cX2_findPossible 21 = .ok (.iload_n 1, 1) := by decide +kernel
theorem dX2_findPossible_22 : decode cX2_findPossible 22 = .ok (.iload 4, 2) := by decide +kernel
theorem dX2_findPossible_24 : decode cX2_findPossible 24 = .ok (.iconst 1, 1) := by decide +kernel
theorem dX2_findPossible_25 : decode cX2_findPossible 25 = .ok (.isub, 1) := by decide +kernel
theorem dX2_findPossible_26 : decode cX2_findPossible 26 = .ok (.invokevirtual 47, 3) := by decide +kernel
theorem dX2_findPossible_29 : decode cX2_findPossible 29 = .ok (.iadd, 1) := by decide +kernel
theorem dX2_findPossible_30 : decode cX2_findPossible 30 = .ok (.istore_n 3, 1) := by decide +kernel
theorem dX2_findPossible_31 : decode cX2_findPossible 31 = .ok (.aload_n 0, 1) := by decide +kernel
theorem dX2_findPossible_32 : decode cX2_findPossible 32 = .ok (.getfield 15, 3) := by decide +kernel
theorem dX2_findPossible_35 : decode cX2_findPossible 35 = .ok (.iconst 2, 1) := by decide +kernel
theorem dX2_findPossible_36 : decode cX2_findPossible 36 = .ok (.if_icmp .ne 22, 3) := by decide +kernel
theorem dX2_findPossible_39 : decode cX2_findPossible 39 = .ok (.aload_n 0, 1) := by decide +kernel
theorem dX2_findPossible_40 : decode cX2_findPossible 40 = .ok (.getfield 22, 3) := by decide +kernel
theorem dX2_findPossible_43 : decode cX2_findPossible 43 = .ok (.iload_n 1, 1) := by decide +kernel
theorem dX2_findPossible_44 : decode cX2_findPossible 44 = .ok (.iload 4, 2) := by decide +kernel
theorem dX2_findPossible_46 : decode cX2_findPossible 46 = .ok (.iconst 1, 1) := by decide +kernel
theorem dX2_findPossible_47 : decode cX2_findPossible 47 = .ok (.isub, 1) := by decide +kernel
theorem dX2_findPossible_48 : decode cX2_findPossible 48 = .ok (.invokevirtual 51, 3) := by decide +kernel
theorem dX2_findPossible_51 : decode cX2_findPossible 51 = .ok (.ifCond .eq 7, 3) := by decide +kernel
theorem dX2_findPossible_54 : decode cX2_findPossible 54 = .ok (.iconst 1, 1) := by decide +kernel
theorem dX2_findPossible_55 : decode cX2_findPossible 55 = .ok (.goto 4, 3) := by decide +kernel
theorem dX2_findPossible_58 : decode cX2_findPossible 58 = .ok (.iconst 0, 1) := by decide +kernel
theorem dX2_findPossible_59 : decode cX2_findPossible 59 = .ok (.istore 5, 2) := by decide +kernel
theorem dX2_findPossible_61 : decode cX2_findPossible 61 = .ok (.aload_n 0, 1) := by decide +kernel
theorem dX2_findPossible_62 : decode cX2_findPossible 62 = .ok (.getfield 15, 3) := by decide +kernel
theorem dX2_findPossible_65 : decode cX2_findPossible 65 = .ok (.iconst 3, 1) := by decide +kernel
theorem dX2_findPossible_66 : decode cX2_findPossible 66 = .ok (.if_icmp .ne 15, 3) := by decide +kernel
theorem dX2_findPossible_69 : decode cX2_findPossible 69 = .ok (.iload_n 3, 1) := by decide +kernel
theorem dX2_findPossible_70 : decode cX2_findPossible 70 = .ok (.aload_n 0, 1) := by decide +kernel
theorem dX2_findPossible_71 : decode cX2_findPossible 71 = .ok (.getfield 19, 3) := by decide +kernel
theorem dX2_findPossible_74 : decode cX2_findPossible 74 = .ok (.if_icmp .le 7, 3) := by decide +kernel
theorem dX2_findPossible_77 : decode cX2_findPossible 77 = .ok (.iconst 1, 1) := by decide +kernel
theorem dX2_findPossible_78 : decode cX2_findPossible 78 = .ok (.goto 4, 3) := by decide +kernel
theorem dX2_findPossible_81 : decode cX2_findPossible 81 = .ok (.iconst 0, 1) := by decide +kernel
theorem dX2_findPossible_82 : decode cX2_findPossible 82 = .ok (.istore 6, 2) := by decide +kernel
theorem dX2_findPossible_84 : decode cX2_findPossible 84 = .ok (.iload 5, 2) := by decide +kernel
theorem dX2_findPossible_86 : decode cX2_findPossible 86 = .ok (.ifCond .ne 15, 3) := by decide +kernel
theorem dX2_findPossible_89 : decode cX2_findPossible 89 = .ok (.iload 6, 2) := by decide +kernel
theorem dX2_findPossible_91 : decode cX2_findPossible 91 = .ok (.ifCond .ne 10, 3) := by decide +kernel
theorem dX2_findPossible_94 : decode cX2_findPossible 94 = .ok (.iload_n 2, 1) := by decide +kernel
theorem dX2_findPossible_95 : decode cX2_findPossible 95 = .ok (.iconst 1, 1) := by decide +kernel
theorem dX2_findPossible_96 : decode cX2_findPossible 96 = .ok (.iload 4, 2) := by decide +kernel
theorem dX2_findPossible_98 : decode cX2_findPossible 98 = .ok (.ishl, 1) := by decide +kernel
theorem dX2_findPossible_99 : decode cX2_findPossible 99 = .ok (.ior, 1) := by decide +kernel
theorem dX2_findPossible_100 : decode cX2_findPossible 100 = .ok (.istore_n 2, 1) := by decide +kernel
theorem dX2_findPossible_101 : decode cX2_findPossible 101 = .ok (.iinc 4 1, 3) := by decide +kernel
theorem dX2_findPossible_104 : decode cX2_findPossible 104 = .ok (.goto (-97), 3) := by decide +kernel
theorem dX2_findPossible_107 : decode cX2_findPossible 107 = .ok (.iload_n 2, 1) := by decide +kernel
theorem dX2_findPossible_108 : decode cX2_findPossible 108 = .ok (.ireturn, 1) := by decide +kernel
theorem dX2_solver_0 : decode cX2_solver 0 = .ok (.aload_n 0, 1) := by decide +kernel
theorem dX2_solver_1 : decode cX2_solver 1 = .ok (.getfield 9, 3) := by decide +kernel
theorem dX2_solver_4 : decode cX2_solver 4 = .ok (.ifnonnull 15, 3) := by decide +kernel
theorem dX2_solver_7 : decode cX2_solver 7 = .ok (.aload_n 0, 1) := by decide +kernel
theorem dX2_solver_8 : decode cX2_solver 8 = .ok (.new 55, 3) := by decide +kernel
theorem dX2_solver_11 : decode cX2_solver 11 = .ok (.dup, 1) := by decide +kernel
theorem dX2_solver_12 : decode cX2_solver 12 = .ok (.aload_n 0, 1) := by decide +kernel
theorem dX2_solver_13 : decode cX2_solver 13 = .ok (.invokespecial 57, 3) := by decide +kernel
theorem dX2_solver_16 : decode cX2_solver 16 = .ok (.putfield 9, 3) := by decide +kernel
theorem dX2_solver_19 : decode cX2_solver 19 = .ok (.aload_n 0, 1) := by decide +kernel
theorem dX2_solver_20 : decode cX2_solver 20 = .ok (.getfield 9, 3) := by decide +kernel
theorem dX2_solver_23 : decode cX2_solver 23 = .ok (.areturn, 1) := by decide +kernel
theorem dX2_possibleTurns_0 : decode cX2_possibleTurns 0 = .ok (.aload_n 0, 1) := by decide +kernel
theorem dX2_possibleTurns_1 : decode cX2_possibleTurns 1 = .ok (.getfield 39, 3) := by decide +kernel
theorem dX2_possibleTurns_4 : decode cX2_possibleTurns 4 = .ok (.iload_n 1, 1) := by decide +kernel
theorem dX2_possibleTurns_5 : decode cX2_possibleTurns 5 = .ok (.invokestatic 60, 3) := by decide +kernel
theorem dX2_possibleTurns_8 : decode cX2_possibleTurns 8 = .ok (.ireturn, 1) := by decide +kernel
theorem dX2_allows_0 : decode cX2_allows 0 = .ok (.iload_n 2, 1) := by decide +kernel
theorem dX2_allows_1 : decode cX2_allows 1 = .ok (.iconst 1, 1) := by decide +kernel
theorem dX2_allows_2 : decode cX2_allows 2 = .ok (.if_icmp .lt 30, 3) := by decide +kernel
theorem dX2_allows_5 : decode cX2_allows 5 = .ok (.iload_n 2, 1) := by decide +kernel
theorem dX2_allows_6 : decode cX2_allows 6 = .ok (.aload_n 0, 1) := by decide +kernel
theorem dX2_allows_7 : decode cX2_allows 7 = .ok (.getfield 31, 3) := by decide +kernel
theorem dX2_allows_10 : decode cX2_allows 10 = .ok (.if_icmp .gt 22, 3) := by decide +kernel
theorem dX2_allows_13 : decode cX2_allows 13 = .ok (.aload_n 0, 1) := by decide +kernel
theorem dX2_allows_14 : decode cX2_allows 14 = .ok (.getfield 39, 3) := by decide +kernel
theorem dX2_allows_17 : decode cX2_allows 17 = .ok (.iload_n 1, 1) := by decide +kernel
theorem dX2_allows_18 : decode cX2_allows 18 = .ok (.invokestatic 60, 3) := by decide +kernel
theorem dX2_allows_21 : decode cX2_allows 21 = .ok (.iload_n 2, 1) := by decide +kernel
theorem dX2_allows_22 : decode cX2_allows 22 = .ok (.ishr, 1) := by decide +kernel
theorem dX2_allows_23 : decode cX2_allows 23 = .ok (.iconst 1, 1) := by decide +kernel
theorem dX2_allows_24 : decode cX2_allows 24 = .ok (.iand, 1) := by decide +kernel
theorem dX2_allows_25 : decode cX2_allows 25 = .ok (.ifCond .eq 7, 3) := by decide +kernel
theorem dX2_allows_28 : decode cX2_allows 28 = .ok (.iconst 1, 1) := by decide +kernel
theorem dX2_allows_29 : decode cX2_allows 29 = .ok (.goto 4, 3) := by decide +kernel
theorem dX2_allows_32 : decode cX2_allows 32 = .ok (.iconst 0, 1) := by decide +kernel
theorem dX2_allows_33 : decode cX2_allows 33 = .ok (.ireturn, 1) := by decide +kernel
theorem dX2_turnToFewestGaps_0 : decode cX2_turnToFewestGaps 0 = .ok (.iconst (-1), 1) := by decide +kernel
theorem dX2_turnToFewestGaps_1 : decode cX2_turnToFewestGaps 1 = .ok (.istore_n 2, 1) := by decide +kernel
theorem dX2_turnToFewestGaps_2 : decode cX2_turnToFewestGaps 2 = .ok (.iconst 0, 1) := by decide +kernel
theorem dX2_turnToFewestGaps_3 : decode cX2_turnToFewestGaps 3 = .ok (.istore_n 3, 1) := by decide +kernel
theorem dX2_turnToFewestGaps_4 : decode cX2_turnToFewestGaps 4 = .ok (.iconst 1, 1) := by decide +kernel
theorem dX2_turnToFewestGaps_5 : decode cX2_turnToFewestGaps 5 = .ok (.istore 4, 2) := by decide +kernel
theorem dX2_turnToFewestGaps_7 : decode cX2_turnToFewestGaps 7 = .ok (.iload 4, 2) := by decide +kernel
theorem dX2_turnToFewestGaps_9 : decode cX2_turnToFewestGaps 9 = .ok (.aload_n 0, 1) := by decide +kernel
theorem dX2_turnToFewestGaps_10 : decode cX2_turnToFewestGaps 10 = .ok (.getfield 31, 3) := by decide +kernel
theorem dX2_turnToFewestGaps_13 : decode cX2_turnToFewestGaps 13 = .ok (.if_icmp .gt 55, 3) := by decide +kernel
theorem dX2_turnToFewestGaps_16 : decode cX2_turnToFewestGaps 16 = .ok (.aload_n 0, 1) := by decide +kernel
theorem dX2_turnToFewestGaps_17 : decode cX2_turnToFewestGaps 17 = .ok (.iload_n 1, 1) := by decide +kernel
theorem dX2_turnToFewestGaps_18 : decode cX2_turnToFewestGaps 18 = .ok (.iload 4, 2) := by decide +kernel
theorem dX2_turnToFewestGaps_20 : decode cX2_turnToFewestGaps 20 = .ok (.invokevirtual 64, 3) := by decide +kernel
theorem dX2_turnToFewestGaps_23 : decode cX2_turnToFewestGaps 23 = .ok (.ifCond .eq 39, 3) := by decide +kernel
theorem dX2_turnToFewestGaps_26 : decode cX2_turnToFewestGaps 26 = .ok (.aload_n 0, 1) := by decide +kernel
theorem dX2_turnToFewestGaps_27 : decode cX2_turnToFewestGaps 27 = .ok (.getfield 22, 3) := by decide +kernel
theorem dX2_turnToFewestGaps_30 : decode cX2_turnToFewestGaps 30 = .ok (.aload_n 0, 1) := by decide +kernel
theorem dX2_turnToFewestGaps_31 : decode cX2_turnToFewestGaps 31 = .ok (.getfield 22, 3) := by decide +kernel
theorem dX2_turnToFewestGaps_34 : decode cX2_turnToFewestGaps 34 = .ok (.iload_n 1, 1) := by decide +kernel
theorem dX2_turnToFewestGaps_35 : decode cX2_turnToFewestGaps 35 = .ok (.iload 4, 2) := by decide +kernel
theorem dX2_turnToFewestGaps_37 : decode cX2_turnToFewestGaps 37 = .ok (.invokevirtual 67, 3) := by decide +kernel
theorem dX2_turnToFewestGaps_40 : decode cX2_turnToFewestGaps 40 = .ok (.invokevirtual 70, 3) := by decide +kernel
theorem dX2_turnToFewestGaps_43 : decode cX2_turnToFewestGaps 43 = .ok (.istore 5, 2) := by decide +kernel
theorem dX2_turnToFewestGaps_45 : decode cX2_turnToFewestGaps 45 = .ok (.iload_n 2, 1) := by decide +kernel
theorem dX2_turnToFewestGaps_46 : decode cX2_turnToFewestGaps 46 = .ok (.iconst (-1), 1) := by decide +kernel
theorem dX2_turnToFewestGaps_47 : decode cX2_turnToFewestGaps 47 = .ok (.if_icmp .eq 9, 3) := by decide +kernel
theorem dX2_turnToFewestGaps_50 : decode cX2_turnToFewestGaps 50 = .ok (.iload 5, 2) := by decide +kernel
theorem dX2_turnToFewestGaps_52 : decode cX2_turnToFewestGaps 52 = .ok (.iload_n 3, 1) := by decide +kernel
theorem dX2_turnToFewestGaps_53 : decode cX2_turnToFewestGaps 53 = .ok (.if_icmp .ge 9, 3) := by decide +kernel
theorem dX2_turnToFewestGaps_56 : decode cX2_turnToFewestGaps 56 = .ok (.iload 4, 2) := by decide +kernel
theorem dX2_turnToFewestGaps_58 : decode cX2_turnToFewestGaps 58 = .ok (.istore_n 2, 1) := by decide +kernel
theorem dX2_turnToFewestGaps_59 : decode cX2_turnToFewestGaps 59 = .ok (.iload 5, 2) := by decide +kernel
theorem dX2_turnToFewestGaps_61 : decode cX2_turnToFewestGaps 61 = .ok (.istore_n 3, 1) := by decide +kernel
theorem dX2_turnToFewestGaps_62 : decode cX2_turnToFewestGaps 62 = .ok (.iinc 4 1, 3) := by decide +kernel
theorem dX2_turnToFewestGaps_65 : decode cX2_turnToFewestGaps 65 = .ok (.goto (-58), 3) := by decide +kernel
theorem dX2_turnToFewestGaps_68 : decode cX2_turnToFewestGaps 68 = .ok (.iload_n 2, 1) := by decide +kernel
theorem dX2_turnToFewestGaps_69 : decode cX2_turnToFewestGaps 69 = .ok (.ireturn, 1) := by decide +kernel
theorem dX3_init_0 : decode cX3_init 0 = .ok (.aload_n 0, 1) := by decide +kernel
theorem dX3_init_1 : decode cX3_init 1 = .ok (.invokespecial 3, 3) := by decide +kernel
theorem dX3_init_4 : decode cX3_init 4 = .ok (.aload_n 0, 1) := by decide +kernel
theorem dX3_init_5 : decode cX3_init 5 = .ok (.bipush 7, 2) := by decide +kernel
theorem dX3_init_7 : decode cX3_init 7 = .ok (.anewarray 9, 3) := by decide +kernel
theorem dX3_init_10 : decode cX3_init 10 = .ok (.putfield 11, 3) := by decide +kernel
theorem dX3_init_13 : decode cX3_init 13 = .ok (.aload_n 0, 1) := by decide +kernel
theorem dX3_init_14 : decode cX3_init 14 = .ok (.bipush 6, 2) := by decide +kernel
theorem dX3_init_16 : decode cX3_init 16 = .ok (.anewarray 9, 3) := by decide +kernel
theorem dX3_init_19 : decode cX3_init 19 = .ok (.putfield 17, 3) := by decide +kernel
theorem dX3_init_22 : decode cX3_init 22 = .ok (.aload_n 0, 1) := by decide +kernel
theorem dX3_init_23 : decode cX3_init 23 = .ok (.sipush 616, 3) := by decide +kernel
theorem dX3_init_26 : decode cX3_init 26 = .ok (.anewarray 20, 3) := by decide +kernel
theorem dX3_init_29 : decode cX3_init 29 = .ok (.putfield 22, 3) := by decide +kernel
theorem dX3_init_32 : decode cX3_init 32 = .ok (.return_, 1) := by decide +kernel
theorem dX3_shape_0 : decode cX3_shape 0 = .ok (.iload_n 1, 1) := by decide +kernel
theorem dX3_shape_1 : decode cX3_shape 1 = .ok (.ifCond .lt 21, 3) := by decide +kernel
theorem dX3_shape_4 : decode cX3_shape 4 = .ok (.iload_n 1, 1) := by decide +kernel
theorem dX3_shape_5 : decode cX3_shape 5 = .ok (.iconst 3, 1) := by decide +kernel
theorem dX3_shape_6 : decode cX3_shape 6 = .ok (.if_icmp .gt 16, 3) := by decide +kernel
theorem dX3_shape_9 : decode cX3_shape 9 = .ok (.iload_n 2, 1) := by decide +kernel
theorem dX3_shape_10 : decode cX3_shape 10 = .ok (.iconst 1, 1) := by decide +kernel
theorem dX3_shape_11 : decode cX3_shape 11 = .ok (.if_icmp .lt 11, 3) := by decide +kernel
theorem dX3_shape_14 : decode cX3_shape 14 = .ok (.iload_n 2, 1) := by decide +kernel
theorem dX3_shape_15 : decode cX3_shape 15 = .ok (.iload_n 1, 1) := by decide +kernel
theorem dX3_shape_16 : decode cX3_shape 16 = .ok (.invokestatic 26, 3) := by decide +kernel
theorem dX3_shape_19 : decode cX3_shape 19 = .ok (.if_icmp .le 5, 3) := by decide +kernel
theorem dX3_shape_22 : decode cX3_shape 22 = .ok (.aconst_null, 1) := by decide +kernel
theorem dX3_shape_23 : decode cX3_shape 23 = .ok (.areturn, 1) := by decide +kernel
theorem dX3_shape_24 : decode cX3_shape 24 = .ok (.iload_n 3, 1) := by decide +kernel
theorem dX3_shape_25 : decode cX3_shape 25 = .ok (.iload_n 1, 1) := by decide +kernel
theorem dX3_shape_26 : decode cX3_shape 26 = .ok (.iconst 3, 1) := by decide +kernel
theorem dX3_shape_27 : decode cX3_shape 27 = .ok (.if_icmp .ne 7, 3) := by decide +kernel
theorem dX3_shape_30 : decode cX3_shape 30 = .ok (.iconst 1, 1) := by decide +kernel
theorem dX3_shape_31 : decode cX3_shape 31 = .ok (.goto 4, 3) := by decide +kernel
theorem dX3_shape_34 : decode cX3_shape 34 = .ok (.iconst 0, 1) := by decide +kernel
theorem dX3_shape_35 : decode cX3_shape 35 = .ok (.if_icmp .lt 18, 3) := by decide +kernel
theorem dX3_shape_38 : decode cX3_shape 38 = .ok (.iload_n 3, 1) := by decide +kernel
theorem dX3_shape_39 : decode cX3_shape 39 = .ok (.iload_n 1, 1) := by decide +kernel
theorem dX3_shape_40 : decode cX3_shape 40 = .ok (.iconst 3, 1) := by decide +kernel
theorem dX3_shape_41 : decode cX3_shape 41 = .ok (.if_icmp .ne 8, 3) := by decide +kernel
theorem dX3_shape_44 : decode cX3_shape 44 = .ok (.bipush 21, 2) := by decide +kernel
theorem dX3_shape_46 : decode cX3_shape 46 = .ok (.goto 4, 3) := by decide +kernel
theorem dX3_shape_49 : decode cX3_shape 49 = .ok (.iconst 0, 1) := by decide +kernel
theorem dX3_shape_50 : decode cX3_shape 50 = .ok (.if_icmp .le 5, 3) := by decide +kernel
theorem dX3_shape_53 : decode cX3_shape 53 = .ok (.aconst_null, 1) := by decide +kernel
theorem dX3_shape_54 : decode cX3_shape 54 = .ok (.areturn, 1) := by decide +kernel
theorem dX3_shape_55 : decode cX3_shape 55 = .ok (.aload_n 0, 1) := by decide +kernel
theorem dX3_shape_56 : decode cX3_shape 56 = .ok (.iload_n 2, 1) := by decide +kernel
theorem dX3_shape_57 : decode cX3_shape 57 = .ok (.iload_n 1, 1) := by decide +kernel
theorem dX3_shape_58 : decode cX3_shape 58 = .ok (.invokestatic 30, 3) := by decide +kernel
theorem dX3_shape_61 : decode cX3_shape 61 = .ok (.invokevirtual 34, 3) := by decide +kernel
theorem dX3_shape_64 : decode cX3_shape 64 = .ok (.astore 4, 2) := by decide +kernel
theorem dX3_shape_66 : decode cX3_shape 66 = .ok (.iload_n 1, 1) := by decide +kernel
theorem dX3_shape_67 : decode cX3_shape 67 = .ok (.bipush 7, 2) := by decide +kernel
theorem dX3_shape_69 : decode cX3_shape 69 = .ok (.imul, 1) := by decide +kernel
theorem dX3_shape_70 : decode cX3_shape 70 = .ok (.iload_n 2, 1) := by decide +kernel
theorem dX3_shape_71 : decode cX3_shape 71 = .ok (.iadd, 1) := by decide +kernel
theorem dX3_shape_72 : decode cX3_shape 72 = .ok (.bipush 22, 2) := by decide +kernel
theorem dX3_shape_74 : decode cX3_shape 74 = .ok (.imul, 1) := by decide +kernel
theorem dX3_shape_75 : decode cX3_shape 75 = .ok (.iload_n 3, 1) := by decide +kernel
theorem dX3_shape_76 : decode cX3_shape 76 = .ok (.iadd, 1) := by decide +kernel
theorem dX3_shape_77 : decode cX3_shape 77 = .ok (.istore 5, 2) := by decide +kernel
theorem dX3_shape_79 : decode cX3_shape 79 = .ok (.aload 4, 2) := by decide +kernel
theorem dX3_shape_81 : decode cX3_shape 81 = .ok (.ifnull 18, 3) := by decide +kernel
theorem dX3_shape_84 : decode cX3_shape 84 = .ok (.iload 5, 2) := by decide +kernel
theorem dX3_shape_86 : decode cX3_shape 86 = .ok (.ifCond .lt 13, 3) := by decide +kernel
theorem dX3_shape_89 : decode cX3_shape 89 = .ok (.iload 5, 2) := by decide +kernel
theorem dX3_shape_91 : decode cX3_shape 91 = .ok (.aload_n 0, 1) := by decide +kernel
theorem dX3_shape_92 : decode cX3_shape 92 = .ok (.getfield 22, 3) := by decide +kernel
theorem dX3_shape_95 : decode cX3_shape 95 = .ok (.arraylength, 1) := by decide +kernel
theorem dX3_shape_96 : decode cX3_shape 96 = .ok (.if_icmp .lt 5, 3) := by decide +kernel
theorem dX3_shape_99 : decode cX3_shape 99 = .ok (.aconst_null, 1) := by decide +kernel
theorem dX3_shape_100 : decode cX3_shape 100 = .ok (.areturn, 1) := by decide +kernel
theorem dX3_shape_101 : decode cX3_shape 101 = .ok (.aload_n 0, 1) := by decide +kernel
theorem dX3_shape_102 : decode cX3_shape 102 = .ok (.getfield 22, 3) := by decide +kernel
theorem dX3_shape_105 : decode cX3_shape 105 = .ok (.iload 5, 2) := by decide +kernel
theorem dX3_shape_107 : decode cX3_shape 107 = .ok (.aaload, 1) := by decide +kernel
theorem dX3_shape_108 : decode cX3_shape 108 = .ok (.ifnonnull 21, 3) := by decide +kernel
theorem dX3_shape_111 : decode cX3_shape 111 = .ok (.aload_n 0, 1) := by decide +kernel
theorem dX3_shape_112 : decode cX3_shape 112 = .ok (.getfield 22, 3) := by decide +kernel
theorem dX3_shape_115 : decode cX3_shape 115 = .ok (.iload 5, 2) := by decide +kernel
theorem dX3_shape_117 : decode cX3_shape 117 = .ok (.new 20, 3) := by decide +kernel
theorem dX3_shape_120 : decode cX3_shape 120 = .ok (.dup, 1) := by decide +kernel
theorem dX3_shape_121 : decode cX3_shape 121 = .ok (.iload_n 1, 1) := by decide +kernel
theorem dX3_shape_122 : decode cX3_shape 122 = .ok (.iload_n 3, 1) := by decide +kernel
theorem dX3_shape_123 : decode cX3_shape 123 = .ok (.aload 4, 2) := by decide +kernel
theorem dX3_shape_125 : decode cX3_shape 125 = .ok (.invokespecial 38, 3) := by decide +kernel
theorem dX3_shape_128 : decode cX3_shape 128 = .ok (.aastore, 1) := by decide +kernel
theorem dX3_shape_129 : decode cX3_shape 129 = .ok (.aload_n 0, 1) := by decide +kernel
theorem dX3_shape_130 : decode cX3_shape 130 = .ok (.getfield 22, 3) := by decide +kernel
theorem dX3_shape_133 : decode cX3_shape 133 = .ok (.iload 5, 2) := by decide +kernel
theorem dX3_shape_135 : decode cX3_shape 135 = .ok (.aaload, 1) := by decide +kernel
theorem dX3_shape_136 : decode cX3_shape 136 = .ok (.areturn, 1) := by decide +kernel
theorem dX3_layouts_0 : decode cX3_layouts 0 = .ok (.iload_n 2, 1) := by decide +kernel
theorem dX3_layouts_1 : decode cX3_layouts 1 = .ok (.ifCond .eq 10, 3) := by decide +kernel
theorem dX3_layouts_4 : decode cX3_layouts 4 = .ok (.aload_n 0, 1) := by decide +kernel
theorem dX3_layouts_5 : decode cX3_layouts 5 = .ok (.getfield 17, 3) := by decide +kernel
theorem dX3_layouts_8 : decode cX3_layouts 8 = .ok (.goto 7, 3) := by decide +kernel
theorem dX3_layouts_11 : decode cX3_layouts 11 = .ok (.aload_n 0, 1) := by decide +kernel
theorem dX3_layouts_12 : decode cX3_layouts 12 = .ok (.getfield 11, 3) := by decide +kernel
theorem dX3_layouts_15 : decode cX3_layouts 15 = .ok (.astore_n 3, 1) := by decide +kernel
theorem dX3_layouts_16 : decode cX3_layouts 16 = .ok (.iload_n 1, 1) := by decide +kernel
theorem dX3_layouts_17 : decode cX3_layouts 17 = .ok (.ifCond .lt 9, 3) := by decide +kernel
theorem dX3_layouts_20 : decode cX3_layouts 20 = .ok (.iload_n 1, 1) := by decide +kernel
theorem dX3_layouts_21 : decode cX3_layouts 21 = .ok (.aload_n 3, 1) := by decide +kernel
theorem dX3_layouts_22 : decode cX3_layouts 22 = .ok (.arraylength, 1) := by decide +kernel
theorem dX3_layouts_23 : decode cX3_layouts 23 = .ok (.if_icmp .lt 5, 3) := by decide +kernel
theorem dX3_layouts_26 : decode cX3_layouts 26 = .ok (.aconst_null, 1) := by decide +kernel
theorem dX3_layouts_27 : decode cX3_layouts 27 = .ok (.areturn, 1) := by decide +kernel
theorem dX3_layouts_28 : decode cX3_layouts 28 = .ok (.aload_n 3, 1) := by decide +kernel
theorem dX3_layouts_29 : decode cX3_layouts 29 = .ok (.iload_n 1, 1) := by decide +kernel
theorem dX3_layouts_30 : decode cX3_layouts 30 = .ok (.aaload, 1) := by decide +kernel
theorem dX3_layouts_31 : decode cX3_layouts 31 = .ok (.ifnonnull 15, 3) := by decide +kernel
theorem dX3_layouts_34 : decode cX3_layouts 34 = .ok (.aload_n 3, 1) := by decide +kernel
theorem dX3_layouts_35 : decode cX3_layouts 35 = .ok (.iload_n 1, 1) := by decide +kernel
theorem dX3_layouts_36 : decode cX3_layouts 36 = .ok (.new 9, 3) := by decide +kernel
theorem dX3_layouts_39 : decode cX3_layouts 39 = .ok (.dup, 1) := by decide +kernel
theorem dX3_layouts_40 : decode cX3_layouts 40 = .ok (.iload_n 1, 1) := by decide +kernel
theorem dX3_layouts_41 : decode cX3_layouts 41 = .ok (.iload_n 2, 1) := by decide +kernel
theorem dX3_layouts_42 : decode cX3_layouts 42 = .ok (.invokespecial 41, 3) := by decide +kernel
theorem dX3_layouts_45 : decode cX3_layouts 45 = .ok (.aastore, 1) := by decide +kernel
theorem dX3_layouts_46 : decode cX3_layouts 46 = .ok (.aload_n 3, 1) := by decide +kernel
theorem dX3_layouts_47 : decode cX3_layouts 47 = .ok (.iload_n 1, 1) := by decide +kernel
theorem dX3_layouts_48 : decode cX3_layouts 48 = .ok (.aaload, 1) := by decide +kernel
theorem dX3_layouts_49 : decode cX3_layouts 49 = .ok (.areturn, 1) := by decide +kernel
theorem dX3_isSided_0 : decode cX3_isSided 0 = .ok (.iload_n 0, 1) := by decide +kernel
theorem dX3_isSided_1 : decode cX3_isSided 1 = .ok (.iconst 1, 1) := by decide +kernel
theorem dX3_isSided_2 : decode cX3_isSided 2 = .ok (.if_icmp .eq 8, 3) := by decide +kernel
theorem dX3_isSided_5 : decode cX3_isSided 5 = .ok (.iload_n 0, 1) := by decide +kernel
theorem dX3_isSided_6 : decode cX3_isSided 6 = .ok (.iconst 3, 1) := by decide +kernel
theorem dX3_isSided_7 : decode cX3_isSided 7 = .ok (.if_icmp .ne 7, 3) := by decide +kernel
theorem dX3_isSided_10 : decode cX3_isSided 10 = .ok (.iconst 1, 1) := by decide +kernel
theorem dX3_isSided_11 : decode cX3_isSided 11 = .ok (.goto 4, 3) := by decide +kernel
theorem dX3_isSided_14 : decode cX3_isSided 14 = .ok (.iconst 0, 1) := by decide +kernel
theorem dX3_isSided_15 : decode cX3_isSided 15 = .ok (.ireturn, 1) := by decide +kernel
theorem dX3_mostCakes_0 : decode cX3_mostCakes 0 = .ok (.iload_n 0, 1) := by decide +kernel
theorem dX3_mostCakes_1 : decode cX3_mostCakes 1 = .ok (.invokestatic 30, 3) := by decide +kernel
theorem dX3_mostCakes_4 : decode cX3_mostCakes 4 = .ok (.ifCond .eq 7, 3) := by decide +kernel
theorem dX3_mostCakes_7 : decode cX3_mostCakes 7 = .ok (.iconst 5, 1) := by decide +kernel
theorem dX3_mostCakes_8 : decode cX3_mostCakes 8 = .ok (.goto 5, 3) := by decide +kernel
theorem dX3_mostCakes_11 : decode cX3_mostCakes 11 = .ok (.bipush 6, 2) := by decide +kernel
theorem dX3_mostCakes_13 : decode cX3_mostCakes 13 = .ok (.ireturn, 1) := by decide +kernel
theorem dX4_init_0 : decode cX4_init 0 = .ok (.aload_n 0, 1) := by decide +kernel
theorem dX4_init_1 : decode cX4_init 1 = .ok (.invokespecial 3, 3) := by decide +kernel
theorem dX4_init_4 : decode cX4_init 4 = .ok (.aload_n 0, 1) := by decide +kernel
theorem dX4_init_5 : decode cX4_init 5 = .ok (.iconst 0, 1) := by decide +kernel
theorem dX4_init_6 : decode cX4_init 6 = .ok (.putfield 9, 3) := by decide +kernel
theorem dX4_init_9 : decode cX4_init 9 = .ok (.aload_n 0, 1) := by decide +kernel
theorem dX4_init_10 : decode cX4_init 10 = .ok (.iconst 0, 1) := by decide +kernel
theorem dX4_init_11 : decode cX4_init 11 = .ok (.putfield 15, 3) := by decide +kernel
theorem dX4_init_14 : decode cX4_init 14 = .ok (.aload_n 0, 1) := by decide +kernel
theorem dX4_init_15 : decode cX4_init 15 = .ok (.aload_n 1, 1) := by decide +kernel
theorem dX4_init_16 : decode cX4_init 16 = .ok (.putfield 18, 3) := by decide +kernel
theorem dX4_init_19 : decode cX4_init 19 = .ok (.aload_n 0, 1) := by decide +kernel
theorem dX4_init_20 : decode cX4_init 20 = .ok (.aload_n 1, 1) := by decide +kernel
theorem dX4_init_21 : decode cX4_init 21 = .ok (.getfield 22, 3) := by decide +kernel
theorem dX4_init_24 : decode cX4_init 24 = .ok (.putfield 28, 3) := by decide +kernel
theorem dX4_init_27 : decode cX4_init 27 = .ok (.aload_n 0, 1) := by decide +kernel
theorem dX4_init_28 : decode cX4_init 28 = .ok (.aload_n 0, 1) := by decide +kernel
theorem dX4_init_29 : decode cX4_init 29 = .ok (.getfield 28, 3) := by decide +kernel
theorem dX4_init_32 : decode cX4_init 32 = .ok (.getfield 29, 3) := by decide +kernel
theorem dX4_init_35 : decode cX4_init 35 = .ok (.invokestatic 35, 3) := by decide +kernel
theorem dX4_init_38 : decode cX4_init 38 = .ok (.putfield 39, 3) := by decide +kernel
theorem dX4_init_41 : decode cX4_init 41 = .ok (.aload_n 0, 1) := by decide +kernel
theorem dX4_init_42 : decode cX4_init 42 = .ok (.aload_n 0, 1) := by decide +kernel
theorem dX4_init_43 : decode cX4_init 43 = .ok (.getfield 28, 3) := by decide +kernel
theorem dX4_init_46 : decode cX4_init 46 = .ok (.getfield 29, 3) := by decide +kernel
theorem dX4_init_49 : decode cX4_init 49 = .ok (.invokestatic 35, 3) := by decide +kernel
theorem dX4_init_52 : decode cX4_init 52 = .ok (.putfield 43, 3) := by decide +kernel
theorem dX4_init_55 : decode cX4_init 55 = .ok (.return_, 1) := by decide +kernel
theorem dX4_turnsFrom_0 : decode cX4_turnsFrom 0 = .ok (.aload_n 0, 1) := by decide +kernel
theorem dX4_turnsFrom_1 : decode cX4_turnsFrom 1 = .ok (.getfield 9, 3) := by decide +kernel
theorem dX4_turnsFrom_4 : decode cX4_turnsFrom 4 = .ok (.ifCond .ne 17, 3) := by decide +kernel
theorem dX4_turnsFrom_7 : decode cX4_turnsFrom 7 = .ok (.aload_n 0, 1) := by decide +kernel
theorem dX4_turnsFrom_8 : decode cX4_turnsFrom 8 = .ok (.aload_n 0, 1) := by decide +kernel
theorem dX4_turnsFrom_9 : decode cX4_turnsFrom 9 = .ok (.getfield 39, 3) := by decide +kernel
theorem dX4_turnsFrom_12 : decode cX4_turnsFrom 12 = .ok (.iconst 0, 1) := by decide +kernel
theorem dX4_turnsFrom_13 : decode cX4_turnsFrom 13 = .ok (.invokevirtual 46, 3) := by decide +kernel
theorem dX4_turnsFrom_16 : decode cX4_turnsFrom 16 = .ok (.aload_n 0, 1) := by decide +kernel
theorem dX4_turnsFrom_17 : decode cX4_turnsFrom 17 = .ok (.iconst 1, 1) := by decide +kernel
theorem dX4_turnsFrom_18 : decode cX4_turnsFrom 18 = .ok (.putfield 9, 3) := by decide +kernel
theorem dX4_turnsFrom_21 : decode cX4_turnsFrom 21 = .ok (.aload_n 0, 1) := by decide +kernel
theorem dX4_turnsFrom_22 : decode cX4_turnsFrom 22 = .ok (.getfield 39, 3) := by decide +kernel
theorem dX4_turnsFrom_25 : decode cX4_turnsFrom 25 = .ok (.iload_n 1, 1) := by decide +kernel
theorem dX4_turnsFrom_26 : decode cX4_turnsFrom 26 = .ok (.invokestatic 50, 3) := by decide +kernel
theorem dX4_turnsFrom_29 : decode cX4_turnsFrom 29 = .ok (.ireturn, 1) := by decide +kernel
theorem dX4_workFrom_0 : decode cX4_workFrom 0 = .ok (.aload_n 0, 1) := by decide +kernel
theorem dX4_workFrom_1 : decode cX4_workFrom 1 = .ok (.getfield 15, 3) := by decide +kernel
theorem dX4_workFrom_4 : decode cX4_workFrom 4 = .ok (.ifCond .ne 17, 3) := by decide +kernel
theorem dX4_workFrom_7 : decode cX4_workFrom 7 = .ok (.aload_n 0, 1) := by decide +kernel
theorem dX4_workFrom_8 : decode cX4_workFrom 8 = .ok (.aload_n 0, 1) := by decide +kernel
theorem dX4_workFrom_9 : decode cX4_workFrom 9 = .ok (.getfield 43, 3) := by decide +kernel
theorem dX4_workFrom_12 : decode cX4_workFrom 12 = .ok (.iconst 1, 1) := by decide +kernel
theorem dX4_workFrom_13 : decode cX4_workFrom 13 = .ok (.invokevirtual 46, 3) := by decide +kernel
theorem dX4_workFrom_16 : decode cX4_workFrom 16 = .ok (.aload_n 0, 1) := by decide +kernel
theorem dX4_workFrom_17 : decode cX4_workFrom 17 = .ok (.iconst 1, 1) := by decide +kernel
theorem dX4_workFrom_18 : decode cX4_workFrom 18 = .ok (.putfield 15, 3) := by decide +kernel
theorem dX4_workFrom_21 : decode cX4_workFrom 21 = .ok (.aload_n 0, 1) := by decide +kernel
theorem dX4_workFrom_22 : decode cX4_workFrom 22 = .ok (.getfield 43, 3) := by decide +kernel
theorem dX4_workFrom_25 : decode cX4_workFrom 25 = .ok (.iload_n 1, 1) := by decide +kernel
theorem dX4_workFrom_26 : decode cX4_workFrom 26 = .ok (.invokestatic 50, 3) := by decide +kernel
theorem dX4_workFrom_29 : decode cX4_workFrom 29 = .ok (.ireturn, 1) := by decide +kernel
theorem dX4_stacksWithTurns_0 : decode cX4_stacksWithTurns 0 = .ok (.iconst 0, 1) := by decide +kernel
theorem dX4_stacksWithTurns_1 : decode cX4_stacksWithTurns 1 = .ok (.istore_n 2, 1) := by decide +kernel
theorem dX4_stacksWithTurns_2 : decode cX4_stacksWithTurns 2 = .ok (.iconst 0, 1) := by decide +kernel
theorem dX4_stacksWithTurns_3 : decode cX4_stacksWithTurns 3 = .ok (.istore_n 3, 1) := by decide +kernel
theorem dX4_stacksWithTurns_4 : decode cX4_stacksWithTurns 4 = .ok (.iload_n 3, 1) := by decide +kernel
theorem dX4_stacksWithTurns_5 : decode cX4_stacksWithTurns 5 = .ok (.aload_n 0, 1) := by decide +kernel
theorem dX4_stacksWithTurns_6 : decode cX4_stacksWithTurns 6 = .ok (.getfield 28, 3) := by decide +kernel
theorem dX4_stacksWithTurns_9 : decode cX4_stacksWithTurns 9 = .ok (.getfield 29, 3) := by decide +kernel
theorem dX4_stacksWithTurns_12 : decode cX4_stacksWithTurns 12 = .ok (.if_icmp .ge 21, 3) := by decide +kernel
theorem dX4_stacksWithTurns_15 : decode cX4_stacksWithTurns 15 = .ok (.aload_n 0, 1) := by decide +kernel
theorem dX4_stacksWithTurns_16 : decode cX4_stacksWithTurns 16 = .ok (.iload_n 3, 1) := by decide +kernel
theorem dX4_stacksWithTurns_17 : decode cX4_stacksWithTurns 17 = .ok (.invokevirtual 54, 3) := by decide +kernel
theorem dX4_stacksWithTurns_20 : decode cX4_stacksWithTurns 20 = .ok (.iload_n 1, 1) := by decide +kernel
theorem dX4_stacksWithTurns_21 : decode cX4_stacksWithTurns 21 = .ok (.if_icmp .ne 6, 3) := by decide +kernel
theorem dX4_stacksWithTurns_24 : decode cX4_stacksWithTurns 24 = .ok (.iinc 2 1, 3) := by decide +kernel
theorem dX4_stacksWithTurns_27 : decode cX4_stacksWithTurns 27 = .ok (.iinc 3 1, 3) := by decide +kernel
theorem dX4_stacksWithTurns_30 : decode cX4_stacksWithTurns 30 = .ok (.goto (-26), 3) := by decide +kernel
theorem dX4_stacksWithTurns_33 : decode cX4_stacksWithTurns 33 = .ok (.iload_n 2, 1) := by decide +kernel
theorem dX4_stacksWithTurns_34 : decode cX4_stacksWithTurns 34 = .ok (.ireturn, 1) := by decide +kernel
theorem dX4_firstRow_0 : decode cX4_firstRow 0 = .ok (.iconst 0, 1) := by decide +kernel
theorem dX4_firstRow_1 : decode cX4_firstRow 1 = .ok (.istore_n 2, 1) := by decide +kernel
theorem dX4_firstRow_2 : decode cX4_firstRow 2 = .ok (.iload_n 1, 1) := by decide +kernel
theorem dX4_firstRow_3 : decode cX4_firstRow 3 = .ok (.istore_n 3, 1) := by decide +kernel
theorem dX4_firstRow_4 : decode cX4_firstRow 4 = .ok (.aload_n 0, 1) := by decide +kernel
theorem dX4_firstRow_5 : decode cX4_firstRow 5 = .ok (.iload_n 1, 1) := by decide +kernel
theorem dX4_firstRow_6 : decode cX4_firstRow 6 = .ok (.invokevirtual 54, 3) := by decide +kernel
theorem dX4_firstRow_9 : decode cX4_firstRow 9 = .ok (.istore 4, 2) := by decide +kernel
theorem dX4_firstRow_11 : decode cX4_firstRow 11 = .ok (.iload 4, 2) := by decide +kernel
theorem dX4_firstRow_13 : decode cX4_firstRow 13 = .ok (.ifCond .le 39, 3) := by decide +kernel
theorem dX4_firstRow_16 : decode cX4_firstRow 16 = .ok (.aload_n 0, 1) := by decide +kernel
theorem dX4_firstRow_17 : decode cX4_firstRow 17 = .ok (.iload_n 3, 1) := by decide +kernel
theorem dX4_firstRow_18 : decode cX4_firstRow 18 = .ok (.iload 4, 2) := by decide +kernel
theorem dX4_firstRow_20 : decode cX4_firstRow 20 = .ok (.iconst 1, 1) := by decide +kernel
theorem dX4_firstRow_21 : decode cX4_firstRow 21 = .ok (.isub, 1) := by decide +kernel
theorem dX4_firstRow_22 : decode cX4_firstRow 22 = .ok (.invokevirtual 58, 3) := by decide +kernel
theorem dX4_firstRow_25 : decode cX4_firstRow 25 = .ok (.istore 5, 2) := by decide +kernel
theorem dX4_firstRow_27 : decode cX4_firstRow 27 = .ok (.iload_n 2, 1) := by decide +kernel
theorem dX4_firstRow_28 : decode cX4_firstRow 28 = .ok (.bipush 10, 2) := by decide +kernel
theorem dX4_firstRow_30 : decode cX4_firstRow 30 = .ok (.imul, 1) := by decide +kernel
theorem dX4_firstRow_31 : decode cX4_firstRow 31 = .ok (.iload 5, 2) := by decide +kernel
theorem dX4_firstRow_33 : decode cX4_firstRow 33 = .ok (.iadd, 1) := by decide +kernel
theorem dX4_firstRow_34 : decode cX4_firstRow 34 = .ok (.istore_n 2, 1) := by decide +kernel
theorem dX4_firstRow_35 : decode cX4_firstRow 35 = .ok (.aload_n 0, 1) := by decide +kernel
theorem dX4_firstRow_36 : decode cX4_firstRow 36 = .ok (.getfield 28, 3) := by decide +kernel
theorem dX4_firstRow_39 : decode cX4_firstRow 39 = .ok (.iload_n 3, 1) := by decide +kernel
theorem dX4_firstRow_40 : decode cX4_firstRow 40 = .ok (.iload 5, 2) := by decide +kernel
theorem dX4_firstRow_42 : decode cX4_firstRow 42 = .ok (.invokevirtual 62, 3) := by decide +kernel
theorem dX4_firstRow_45 : decode cX4_firstRow 45 = .ok (.istore_n 3, 1) := by decide +kernel
theorem dX4_firstRow_46 : decode cX4_firstRow 46 = .ok (.iinc 4 (-1), 3) := by decide +kernel
theorem dX4_firstRow_49 : decode cX4_firstRow 49 = .ok (.goto (-38), 3) := by decide +kernel
theorem dX4_firstRow_52 : decode cX4_firstRow 52 = .ok (.iload_n 2, 1) := by decide +kernel
theorem dX4_firstRow_53 : decode cX4_firstRow 53 = .ok (.ireturn, 1) := by decide +kernel
theorem dX4_firstTurnToward_0 : decode cX4_firstTurnToward 0 = .ok (.iconst 1, 1) := by decide +kernel
theorem dX4_firstTurnToward_1 : decode cX4_firstTurnToward 1 = .ok (.istore_n 3, 1) := by decide +kernel
theorem dX4_firstTurnToward_2 : decode cX4_firstTurnToward 2 = .ok (.iload_n 3, 1) := by decide +kernel
theorem dX4_firstTurnToward_3 : decode cX4_firstTurnToward 3 = .ok (.aload_n 0, 1) := by decide +kernel
theorem dX4_firstTurnToward_4 : decode cX4_firstTurnToward 4 = .ok (.getfield 18, 3) := by decide +kernel
theorem dX4_firstTurnToward_7 : decode cX4_firstTurnToward 7 = .ok (.getfield 65, 3) := by decide +kernel
theorem dX4_firstTurnToward_10 : decode cX4_firstTurnToward 10 = .ok (.if_icmp .gt 43, 3) := by decide +kernel
theorem dX4_firstTurnToward_13 : decode cX4_firstTurnToward 13 = .ok (.aload_n 0, 1) := by decide +kernel
theorem dX4_firstTurnToward_14 : decode cX4_firstTurnToward 14 = .ok (.getfield 18, 3) := by decide +kernel
theorem dX4_firstTurnToward_17 : decode cX4_firstTurnToward 17 = .ok (.iload_n 1, 1) := by decide +kernel
theorem dX4_firstTurnToward_18 : decode cX4_firstTurnToward 18 = .ok (.iload_n 3, 1) := by decide +kernel
theorem dX4_firstTurnToward_19 : decode cX4_firstTurnToward 19 = .ok (.invokevirtual 68, 3) := by decide +kernel
theorem dX4_firstTurnToward_22 : decode cX4_firstTurnToward 22 = .ok (.ifCond .eq 25, 3) := by decide +kernel
theorem dX4_firstTurnToward_25 : decode cX4_firstTurnToward 25 = .ok (.aload_n 0, 1) := by decide +kernel
theorem dX4_firstTurnToward_26 : decode cX4_firstTurnToward 26 = .ok (.getfield 39, 3) := by decide +kernel
theorem dX4_firstTurnToward_29 : decode cX4_firstTurnToward 29 = .ok (.aload_n 0, 1) := by decide +kernel
theorem dX4_firstTurnToward_30 : decode cX4_firstTurnToward 30 = .ok (.getfield 28, 3) := by decide +kernel
theorem dX4_firstTurnToward_33 : decode cX4_firstTurnToward 33 = .ok (.iload_n 1, 1) := by decide +kernel
theorem dX4_firstTurnToward_34 : decode cX4_firstTurnToward 34 = .ok (.iload_n 3, 1) := by decide +kernel
theorem dX4_firstTurnToward_35 : decode cX4_firstTurnToward 35 = .ok (.invokevirtual 62, 3) := by decide +kernel
theorem dX4_firstTurnToward_38 : decode cX4_firstTurnToward 38 = .ok (.invokestatic 50, 3) := by decide +kernel
theorem dX4_firstTurnToward_41 : decode cX4_firstTurnToward 41 = .ok (.iload_n 2, 1) := by decide +kernel
theorem dX4_firstTurnToward_42 : decode cX4_firstTurnToward 42 = .ok (.if_icmp .ne 5, 3) := by decide +kernel
theorem dX4_firstTurnToward_45 : decode cX4_firstTurnToward 45 = .ok (.iload_n 3, 1) := by decide +kernel
theorem dX4_firstTurnToward_46 : decode cX4_firstTurnToward 46 = .ok (.ireturn, 1) := by decide +kernel
theorem dX4_firstTurnToward_47 : decode cX4_firstTurnToward 47 = .ok (.iinc 3 1, 3) := by decide +kernel
theorem dX4_firstTurnToward_50 : decode cX4_firstTurnToward 50 = .ok (.goto (-48), 3) := by decide +kernel
theorem dX4_firstTurnToward_53 : decode cX4_firstTurnToward 53 = .ok (.iconst (-1), 1) := by decide +kernel
theorem dX4_firstTurnToward_54 : decode cX4_firstTurnToward 54 = .ok (.ireturn, 1) := by decide +kernel
theorem dX4_fillCosts_0 : decode cX4_fillCosts 0 = .ok (.iconst 0, 1) := by decide +kernel
theorem dX4_fillCosts_1 : decode cX4_fillCosts 1 = .ok (.istore_n 3, 1) := by decide +kernel
theorem dX4_fillCosts_2 : decode cX4_fillCosts 2 = .ok (.iload_n 3, 1) := by decide +kernel
theorem dX4_fillCosts_3 : decode cX4_fillCosts 3 = .ok (.aload_n 1, 1) := by decide +kernel
theorem dX4_fillCosts_4 : decode cX4_fillCosts 4 = .ok (.arraylength, 1) := by decide +kernel
theorem dX4_fillCosts_5 : decode cX4_fillCosts 5 = .ok (.if_icmp .ge 13, 3) := by decide +kernel
theorem dX4_fillCosts_8 : decode cX4_fillCosts 8 = .ok (.aload_n 1, 1) := by decide +kernel
theorem dX4_fillCosts_9 : decode cX4_fillCosts 9 = .ok (.iload_n 3, 1) := by decide +kernel
theorem dX4_fillCosts_10 : decode cX4_fillCosts 10 = .ok (.iconst (-1), 1) := by decide +kernel
theorem dX4_fillCosts_11 : decode cX4_fillCosts 11 = .ok (.iastore, 1) := by decide +kernel
theorem dX4_fillCosts_12 : decode cX4_fillCosts 12 = .ok (.iinc 3 1, 3) := by decide +kernel
theorem dX4_fillCosts_15 : decode cX4_fillCosts 15 = .ok (.goto (-13), 3) := by decide +kernel
theorem dX4_fillCosts_18 : decode cX4_fillCosts 18 = .ok (.aload_n 1, 1) := by decide +kernel
theorem dX4_fillCosts_19 : decode cX4_fillCosts 19 = .ok (.iconst 0, 1) := by decide +kernel
theorem dX4_fillCosts_20 : decode cX4_fillCosts 20 = .ok (.iconst 0, 1) := by decide +kernel
theorem dX4_fillCosts_21 : decode cX4_fillCosts 21 = .ok (.invokestatic 72, 3) := by decide +kernel
theorem dX4_fillCosts_24 : decode cX4_fillCosts 24 = .ok (.iconst 0, 1) := by decide +kernel
theorem dX4_fillCosts_25 : decode cX4_fillCosts 25 = .ok (.istore_n 3, 1) := by decide +kernel
theorem dX4_fillCosts_26 : decode cX4_fillCosts 26 = .ok (.iconst 0, 1) := by decide +kernel
theorem dX4_fillCosts_27 : decode cX4_fillCosts 27 = .ok (.istore 4, 2) := by decide +kernel
theorem dX4_fillCosts_29 : decode cX4_fillCosts 29 = .ok (.iload 4, 2) := by decide +kernel
theorem dX4_fillCosts_31 : decode cX4_fillCosts 31 = .ok (.iload_n 3, 1) := by decide +kernel
