theorem dX5_init_11 : decode cX5_init 11 = .ok (.putfield 15, 3) := by decide +kernel
theorem dX5_init_14 : decode cX5_init 14 = .ok (.aload_n 0, 1) := by decide +kernel
theorem dX5_init_15 : decode cX5_init 15 = .ok (.iconst 0, 1) := by decide +kernel
theorem dX5_init_16 : decode cX5_init 16 = .ok (.putfield 18, 3) := by decide +kernel
theorem dX5_init_19 : decode cX5_init 19 = .ok (.aload_n 0, 1) := by decide +kernel
theorem dX5_init_20 : decode cX5_init 20 = .ok (.iconst 0, 1) := by decide +kernel
theorem dX5_init_21 : decode cX5_init 21 = .ok (.putfield 21, 3) := by decide +kernel
theorem dX5_init_24 : decode cX5_init 24 = .ok (.aload_n 0, 1) := by decide +kernel
theorem dX5_init_25 : decode cX5_init 25 = .ok (.bipush 50, 2) := by decide +kernel
theorem dX5_init_27 : decode cX5_init 27 = .ok (.newarray .int, 2) := by decide +kernel
theorem dX5_init_29 : decode cX5_init 29 = .ok (.putfield 24, 3) := by decide +kernel
theorem dX5_init_32 : decode cX5_init 32 = .ok (.aload_n 0, 1) := by decide +kernel
theorem dX5_init_33 : decode cX5_init 33 = .ok (.iconst (-1), 1) := by decide +kernel
theorem dX5_init_34 : decode cX5_init 34 = .ok (.putfield 28, 3) := by decide +kernel
theorem dX5_init_37 : decode cX5_init 37 = .ok (.aload_n 0, 1) := by decide +kernel
theorem dX5_init_38 : decode cX5_init 38 = .ok (.iconst 0, 1) := by decide +kernel
theorem dX5_init_39 : decode cX5_init 39 = .ok (.putfield 31, 3) := by decide +kernel
theorem dX5_init_42 : decode cX5_init 42 = .ok (.return_, 1) := by decide +kernel
theorem dX6_init_0 : decode cX6_init 0 = .ok (.aload_n 0, 1) := by decide +kernel
theorem dX6_init_1 : decode cX6_init 1 = .ok (.invokespecial 1, 3) := by decide +kernel
theorem dX6_init_4 : decode cX6_init 4 = .ok (.aload_n 0, 1) := by decide +kernel
theorem dX6_init_5 : decode cX6_init 5 = .ok (.new 7, 3) := by decide +kernel
theorem dX6_init_8 : decode cX6_init 8 = .ok (.dup, 1) := by decide +kernel
theorem dX6_init_9 : decode cX6_init 9 = .ok (.invokespecial 9, 3) := by decide +kernel
theorem dX6_init_12 : decode cX6_init 12 = .ok (.putfield 10, 3) := by decide +kernel
theorem dX6_init_15 : decode cX6_init 15 = .ok (.aload_n 0, 1) := by decide +kernel
theorem dX6_init_16 : decode cX6_init 16 = .ok (.new 16, 3) := by decide +kernel
theorem dX6_init_19 : decode cX6_init 19 = .ok (.dup, 1) := by decide +kernel
theorem dX6_init_20 : decode cX6_init 20 = .ok (.invokespecial 18, 3) := by decide +kernel
theorem dX6_init_23 : decode cX6_init 23 = .ok (.putfield 19, 3) := by decide +kernel
theorem dX6_init_26 : decode cX6_init 26 = .ok (.aload_n 0, 1) := by decide +kernel
theorem dX6_init_27 : decode cX6_init 27 = .ok (.new 23, 3) := by decide +kernel
theorem dX6_init_30 : decode cX6_init 30 = .ok (.dup, 1) := by decide +kernel
theorem dX6_init_31 : decode cX6_init 31 = .ok (.invokespecial 25, 3) := by decide +kernel
theorem dX6_init_34 : decode cX6_init 34 = .ok (.putfield 26, 3) := by decide +kernel
theorem dX6_init_37 : decode cX6_init 37 = .ok (.aload_n 0, 1) := by decide +kernel
theorem dX6_init_38 : decode cX6_init 38 = .ok (.new 23, 3) := by decide +kernel
theorem dX6_init_41 : decode cX6_init 41 = .ok (.dup, 1) := by decide +kernel
theorem dX6_init_42 : decode cX6_init 42 = .ok (.invokespecial 25, 3) := by decide +kernel
theorem dX6_init_45 : decode cX6_init 45 = .ok (.putfield 30, 3) := by decide +kernel
theorem dX6_init_48 : decode cX6_init 48 = .ok (.aload_n 0, 1) := by decide +kernel
theorem dX6_init_49 : decode cX6_init 49 = .ok (.iconst 4, 1) := by decide +kernel
theorem dX6_init_50 : decode cX6_init 50 = .ok (.anewarray 23, 3) := by decide +kernel
theorem dX6_init_53 : decode cX6_init 53 = .ok (.putfield 33, 3) := by decide +kernel
theorem dX6_init_56 : decode cX6_init 56 = .ok (.aload_n 0, 1) := by decide +kernel
theorem dX6_init_57 : decode cX6_init 57 = .ok (.iconst 0, 1) := by decide +kernel
theorem dX6_init_58 : decode cX6_init 58 = .ok (.putfield 37, 3) := by decide +kernel
theorem dX6_init_61 : decode cX6_init 61 = .ok (.iconst 0, 1) := by decide +kernel
theorem dX6_init_62 : decode cX6_init 62 = .ok (.istore_n 1, 1) := by decide +kernel
theorem dX6_init_63 : decode cX6_init 63 = .ok (.iload_n 1, 1) := by decide +kernel
theorem dX6_init_64 : decode cX6_init 64 = .ok (.aload_n 0, 1) := by decide +kernel
theorem dX6_init_65 : decode cX6_init 65 = .ok (.getfield 33, 3) := by decide +kernel
theorem dX6_init_68 : decode cX6_init 68 = .ok (.arraylength, 1) := by decide +kernel
theorem dX6_init_69 : decode cX6_init 69 = .ok (.if_icmp .ge 22, 3) := by decide +kernel
theorem dX6_init_72 : decode cX6_init 72 = .ok (.aload_n 0, 1) := by decide +kernel
theorem dX6_init_73 : decode cX6_init 73 = .ok (.getfield 33, 3) := by decide +kernel
theorem dX6_init_76 : decode cX6_init 76 = .ok (.iload_n 1, 1) := by decide +kernel
theorem dX6_init_77 : decode cX6_init 77 = .ok (.new 23, 3) := by decide +kernel
theorem dX6_init_80 : decode cX6_init 80 = .ok (.dup, 1) := by decide +kernel
theorem dX6_init_81 : decode cX6_init 81 = .ok (.invokespecial 25, 3) := by decide +kernel
theorem dX6_init_84 : decode cX6_init 84 = .ok (.aastore, 1) := by decide +kernel
theorem dX6_init_85 : decode cX6_init 85 = .ok (.iinc 1 1, 3) := by decide +kernel
theorem dX6_init_88 : decode cX6_init 88 = .ok (.goto (-25), 3) := by decide +kernel
theorem dX6_init_91 : decode cX6_init 91 = .ok (.return_, 1) := by decide +kernel
theorem dX6_stack_0 : decode cX6_stack 0 = .ok (.aload_n 0, 1) := by decide +kernel
theorem dX6_stack_1 : decode cX6_stack 1 = .ok (.getfield 10, 3) := by decide +kernel
theorem dX6_stack_4 : decode cX6_stack 4 = .ok (.iload_n 1, 1) := by decide +kernel
theorem dX6_stack_5 : decode cX6_stack 5 = .ok (.iload_n 2, 1) := by decide +kernel
theorem dX6_stack_6 : decode cX6_stack 6 = .ok (.iload_n 3, 1) := by decide +kernel
theorem dX6_stack_7 : decode cX6_stack 7 = .ok (.invokevirtual 41, 3) := by decide +kernel
theorem dX6_stack_10 : decode cX6_stack 10 = .ok (.astore 4, 2) := by decide +kernel
theorem dX6_stack_12 : decode cX6_stack 12 = .ok (.aload 4, 2) := by decide +kernel
theorem dX6_stack_14 : decode cX6_stack 14 = .ok (.ifnonnull 6, 3) := by decide +kernel
theorem dX6_stack_17 : decode cX6_stack 17 = .ok (.ldc 45, 2) := by decide +kernel
theorem dX6_stack_19 : decode cX6_stack 19 = .ok (.ireturn, 1) := by decide +kernel
theorem dX6_stack_20 : decode cX6_stack 20 = .ok (.aload_n 0, 1) := by decide +kernel
theorem dX6_stack_21 : decode cX6_stack 21 = .ok (.getfield 30, 3) := by decide +kernel
theorem dX6_stack_24 : decode cX6_stack 24 = .ok (.aload_n 0, 1) := by decide +kernel
theorem dX6_stack_25 : decode cX6_stack 25 = .ok (.getfield 26, 3) := by decide +kernel
theorem dX6_stack_28 : decode cX6_stack 28 = .ok (.invokevirtual 46, 3) := by decide +kernel
theorem dX6_stack_31 : decode cX6_stack 31 = .ok (.aload_n 0, 1) := by decide +kernel
theorem dX6_stack_32 : decode cX6_stack 32 = .ok (.getfield 30, 3) := by decide +kernel
theorem dX6_stack_35 : decode cX6_stack 35 = .ok (.aload 4, 2) := by decide +kernel
theorem dX6_stack_37 : decode cX6_stack 37 = .ok (.invokevirtual 50, 3) := by decide +kernel
theorem dX6_stack_40 : decode cX6_stack 40 = .ok (.istore 5, 2) := by decide +kernel
theorem dX6_stack_42 : decode cX6_stack 42 = .ok (.iload 5, 2) := by decide +kernel
theorem dX6_stack_44 : decode cX6_stack 44 = .ok (.iconst (-1), 1) := by decide +kernel
theorem dX6_stack_45 : decode cX6_stack 45 = .ok (.if_icmp .ne 6, 3) := by decide +kernel
theorem dX6_stack_48 : decode cX6_stack 48 = .ok (.ldc 54, 2) := by decide +kernel
theorem dX6_stack_50 : decode cX6_stack 50 = .ok (.ireturn, 1) := by decide +kernel
theorem dX6_stack_51 : decode cX6_stack 51 = .ok (.aload_n 0, 1) := by decide +kernel
theorem dX6_stack_52 : decode cX6_stack 52 = .ok (.invokevirtual 55, 3) := by decide +kernel
theorem dX6_stack_55 : decode cX6_stack 55 = .ok (.iload 5, 2) := by decide +kernel
theorem dX6_stack_57 : decode cX6_stack 57 = .ok (.ireturn, 1) := by decide +kernel
theorem dX6_lay_0 : decode cX6_lay 0 = .ok (.aload_n 0, 1) := by decide +kernel
theorem dX6_lay_1 : decode cX6_lay 1 = .ok (.getfield 26, 3) := by decide +kernel
theorem dX6_lay_4 : decode cX6_lay 4 = .ok (.iload_n 1, 1) := by decide +kernel
theorem dX6_lay_5 : decode cX6_lay 5 = .ok (.invokevirtual 58, 3) := by decide +kernel
theorem dX6_lay_8 : decode cX6_lay 8 = .ok (.astore 4, 2) := by decide +kernel
theorem dX6_lay_10 : decode cX6_lay 10 = .ok (.aload 4, 2) := by decide +kernel
theorem dX6_lay_12 : decode cX6_lay 12 = .ok (.ifnonnull 6, 3) := by decide +kernel
theorem dX6_lay_15 : decode cX6_lay 15 = .ok (.ldc 45, 2) := by decide +kernel
theorem dX6_lay_17 : decode cX6_lay 17 = .ok (.ireturn, 1) := by decide +kernel
theorem dX6_lay_18 : decode cX6_lay 18 = .ok (.aload 4, 2) := by decide +kernel
theorem dX6_lay_20 : decode cX6_lay 20 = .ok (.getfield 62, 3) := by decide +kernel
theorem dX6_lay_23 : decode cX6_lay 23 = .ok (.iload_n 2, 1) := by decide +kernel
theorem dX6_lay_24 : decode cX6_lay 24 = .ok (.iload_n 3, 1) := by decide +kernel
theorem dX6_lay_25 : decode cX6_lay 25 = .ok (.invokevirtual 68, 3) := by decide +kernel
theorem dX6_lay_28 : decode cX6_lay 28 = .ok (.istore 5, 2) := by decide +kernel
theorem dX6_lay_30 : decode cX6_lay 30 = .ok (.iload 5, 2) := by decide +kernel
theorem dX6_lay_32 : decode cX6_lay 32 = .ok (.iconst (-1), 1) := by decide +kernel
theorem dX6_lay_33 : decode cX6_lay 33 = .ok (.if_icmp .ne 6, 3) := by decide +kernel
theorem dX6_lay_36 : decode cX6_lay 36 = .ok (.ldc 45, 2) := by decide +kernel
theorem dX6_lay_38 : decode cX6_lay 38 = .ok (.ireturn, 1) := by decide +kernel
theorem dX6_lay_39 : decode cX6_lay 39 = .ok (.aload_n 0, 1) := by decide +kernel
theorem dX6_lay_40 : decode cX6_lay 40 = .ok (.getfield 30, 3) := by decide +kernel
theorem dX6_lay_43 : decode cX6_lay 43 = .ok (.aload_n 0, 1) := by decide +kernel
theorem dX6_lay_44 : decode cX6_lay 44 = .ok (.getfield 26, 3) := by decide +kernel
theorem dX6_lay_47 : decode cX6_lay 47 = .ok (.invokevirtual 46, 3) := by decide +kernel
theorem dX6_lay_50 : decode cX6_lay 50 = .ok (.aload_n 0, 1) := by decide +kernel
theorem dX6_lay_51 : decode cX6_lay 51 = .ok (.getfield 30, 3) := by decide +kernel
theorem dX6_lay_54 : decode cX6_lay 54 = .ok (.iload_n 1, 1) := by decide +kernel
theorem dX6_lay_55 : decode cX6_lay 55 = .ok (.iload 5, 2) := by decide +kernel
theorem dX6_lay_57 : decode cX6_lay 57 = .ok (.invokevirtual 74, 3) := by decide +kernel
theorem dX6_lay_60 : decode cX6_lay 60 = .ok (.aload_n 0, 1) := by decide +kernel
theorem dX6_lay_61 : decode cX6_lay 61 = .ok (.invokevirtual 55, 3) := by decide +kernel
theorem dX6_lay_64 : decode cX6_lay 64 = .ok (.aload 4, 2) := by decide +kernel
theorem dX6_lay_66 : decode cX6_lay 66 = .ok (.getfield 62, 3) := by decide +kernel
theorem dX6_lay_69 : decode cX6_lay 69 = .ok (.iload 5, 2) := by decide +kernel
theorem dX6_lay_71 : decode cX6_lay 71 = .ok (.invokevirtual 78, 3) := by decide +kernel
theorem dX6_lay_74 : decode cX6_lay 74 = .ok (.ireturn, 1) := by decide +kernel
theorem dX6_turn_0 : decode cX6_turn 0 = .ok (.aload_n 0, 1) := by decide +kernel
theorem dX6_turn_1 : decode cX6_turn 1 = .ok (.getfield 26, 3) := by decide +kernel
theorem dX6_turn_4 : decode cX6_turn 4 = .ok (.iload_n 1, 1) := by decide +kernel
theorem dX6_turn_5 : decode cX6_turn 5 = .ok (.invokevirtual 58, 3) := by decide +kernel
theorem dX6_turn_8 : decode cX6_turn 8 = .ok (.astore_n 3, 1) := by decide +kernel
theorem dX6_turn_9 : decode cX6_turn 9 = .ok (.aload_n 3, 1) := by decide +kernel
theorem dX6_turn_10 : decode cX6_turn 10 = .ok (.ifnull 16, 3) := by decide +kernel
theorem dX6_turn_13 : decode cX6_turn 13 = .ok (.iload_n 2, 1) := by decide +kernel
theorem dX6_turn_14 : decode cX6_turn 14 = .ok (.iconst 1, 1) := by decide +kernel
theorem dX6_turn_15 : decode cX6_turn 15 = .ok (.if_icmp .lt 11, 3) := by decide +kernel
theorem dX6_turn_18 : decode cX6_turn 18 = .ok (.iload_n 2, 1) := by decide +kernel
theorem dX6_turn_19 : decode cX6_turn 19 = .ok (.aload_n 3, 1) := by decide +kernel
theorem dX6_turn_20 : decode cX6_turn 20 = .ok (.getfield 82, 3) := by decide +kernel
theorem dX6_turn_23 : decode cX6_turn 23 = .ok (.if_icmp .le 6, 3) := by decide +kernel
theorem dX6_turn_26 : decode cX6_turn 26 = .ok (.ldc 45, 2) := by decide +kernel
theorem dX6_turn_28 : decode cX6_turn 28 = .ok (.ireturn, 1) := by decide +kernel
theorem dX6_turn_29 : decode cX6_turn 29 = .ok (.aload_n 0, 1) := by decide +kernel
theorem dX6_turn_30 : decode cX6_turn 30 = .ok (.getfield 30, 3) := by decide +kernel
theorem dX6_turn_33 : decode cX6_turn 33 = .ok (.aload_n 0, 1) := by decide +kernel
theorem dX6_turn_34 : decode cX6_turn 34 = .ok (.getfield 26, 3) := by decide +kernel
theorem dX6_turn_37 : decode cX6_turn 37 = .ok (.invokevirtual 46, 3) := by decide +kernel
theorem dX6_turn_40 : decode cX6_turn 40 = .ok (.aload_n 0, 1) := by decide +kernel
theorem dX6_turn_41 : decode cX6_turn 41 = .ok (.getfield 30, 3) := by decide +kernel
theorem dX6_turn_44 : decode cX6_turn 44 = .ok (.iload_n 1, 1) := by decide +kernel
theorem dX6_turn_45 : decode cX6_turn 45 = .ok (.iload_n 2, 1) := by decide +kernel
theorem dX6_turn_46 : decode cX6_turn 46 = .ok (.invokevirtual 85, 3) := by decide +kernel
theorem dX6_turn_49 : decode cX6_turn 49 = .ok (.ifCond .ne 6, 3) := by decide +kernel
theorem dX6_turn_52 : decode cX6_turn 52 = .ok (.ldc 89, 2) := by decide +kernel
theorem dX6_turn_54 : decode cX6_turn 54 = .ok (.ireturn, 1) := by decide +kernel
theorem dX6_turn_55 : decode cX6_turn 55 = .ok (.aload_n 0, 1) := by decide +kernel
theorem dX6_turn_56 : decode cX6_turn 56 = .ok (.invokevirtual 55, 3) := by decide +kernel
theorem dX6_turn_59 : decode cX6_turn 59 = .ok (.aload_n 3, 1) := by decide +kernel
theorem dX6_turn_60 : decode cX6_turn 60 = .ok (.getfield 62, 3) := by decide +kernel
theorem dX6_turn_63 : decode cX6_turn 63 = .ok (.aload_n 0, 1) := by decide +kernel
theorem dX6_turn_64 : decode cX6_turn 64 = .ok (.getfield 26, 3) := by decide +kernel
theorem dX6_turn_67 : decode cX6_turn 67 = .ok (.iload_n 1, 1) := by decide +kernel
theorem dX6_turn_68 : decode cX6_turn 68 = .ok (.invokevirtual 90, 3) := by decide +kernel
theorem dX6_turn_71 : decode cX6_turn 71 = .ok (.invokevirtual 78, 3) := by decide +kernel
theorem dX6_turn_74 : decode cX6_turn 74 = .ok (.ireturn, 1) := by decide +kernel
theorem dX6_doRow_0 : decode cX6_doRow 0 = .ok (.aload_n 0, 1) := by decide +kernel
theorem dX6_doRow_1 : decode cX6_doRow 1 = .ok (.getfield 26, 3) := by decide +kernel
theorem dX6_doRow_4 : decode cX6_doRow 4 = .ok (.iload_n 1, 1) := by decide +kernel
theorem dX6_doRow_5 : decode cX6_doRow 5 = .ok (.invokevirtual 58, 3) := by decide +kernel
theorem dX6_doRow_8 : decode cX6_doRow 8 = .ok (.astore_n 3, 1) := by decide +kernel
theorem dX6_doRow_9 : decode cX6_doRow 9 = .ok (.aload_n 3, 1) := by decide +kernel
theorem dX6_doRow_10 : decode cX6_doRow 10 = .ok (.ifnull 14, 3) := by decide +kernel
theorem dX6_doRow_13 : decode cX6_doRow 13 = .ok (.iload_n 2, 1) := by decide +kernel
theorem dX6_doRow_14 : decode cX6_doRow 14 = .ok (.iconst 1, 1) := by decide +kernel
theorem dX6_doRow_15 : decode cX6_doRow 15 = .ok (.if_icmp .lt 9, 3) := by decide +kernel
theorem dX6_doRow_18 : decode cX6_doRow 18 = .ok (.iload_n 2, 1) := by decide +kernel
theorem dX6_doRow_19 : decode cX6_doRow 19 = .ok (.ldc 92, 2) := by decide +kernel
theorem dX6_doRow_21 : decode cX6_doRow 21 = .ok (.if_icmp .le 6, 3) := by decide +kernel
theorem dX6_doRow_24 : decode cX6_doRow 24 = .ok (.ldc 45, 2) := by decide +kernel
theorem dX6_doRow_26 : decode cX6_doRow 26 = .ok (.ireturn, 1) := by decide +kernel
theorem dX6_doRow_27 : decode cX6_doRow 27 = .ok (.aload_n 0, 1) := by decide +kernel
theorem dX6_doRow_28 : decode cX6_doRow 28 = .ok (.getfield 30, 3) := by decide +kernel
theorem dX6_doRow_31 : decode cX6_doRow 31 = .ok (.aload_n 0, 1) := by decide +kernel
theorem dX6_doRow_32 : decode cX6_doRow 32 = .ok (.getfield 26, 3) := by decide +kernel
theorem dX6_doRow_35 : decode cX6_doRow 35 = .ok (.invokevirtual 46, 3) := by decide +kernel
theorem dX6_doRow_38 : decode cX6_doRow 38 = .ok (.aload_n 0, 1) := by decide +kernel
theorem dX6_doRow_39 : decode cX6_doRow 39 = .ok (.getfield 30, 3) := by decide +kernel
theorem dX6_doRow_42 : decode cX6_doRow 42 = .ok (.iload_n 1, 1) := by decide +kernel
theorem dX6_doRow_43 : decode cX6_doRow 43 = .ok (.iload_n 2, 1) := by decide +kernel
theorem dX6_doRow_44 : decode cX6_doRow 44 = .ok (.invokevirtual 93, 3) := by decide +kernel
theorem dX6_doRow_47 : decode cX6_doRow 47 = .ok (.ifCond .ne 6, 3) := by decide +kernel
theorem dX6_doRow_50 : decode cX6_doRow 50 = .ok (.ldc 89, 2) := by decide +kernel
theorem dX6_doRow_52 : decode cX6_doRow 52 = .ok (.ireturn, 1) := by decide +kernel
theorem dX6_doRow_53 : decode cX6_doRow 53 = .ok (.aload_n 0, 1) := by decide +kernel
theorem dX6_doRow_54 : decode cX6_doRow 54 = .ok (.invokevirtual 55, 3) := by decide +kernel
theorem dX6_doRow_57 : decode cX6_doRow 57 = .ok (.aload_n 3, 1) := by decide +kernel
theorem dX6_doRow_58 : decode cX6_doRow 58 = .ok (.getfield 62, 3) := by decide +kernel
theorem dX6_doRow_61 : decode cX6_doRow 61 = .ok (.aload_n 0, 1) := by decide +kernel
theorem dX6_doRow_62 : decode cX6_doRow 62 = .ok (.getfield 26, 3) := by decide +kernel
theorem dX6_doRow_65 : decode cX6_doRow 65 = .ok (.iload_n 1, 1) := by decide +kernel
theorem dX6_doRow_66 : decode cX6_doRow 66 = .ok (.invokevirtual 90, 3) := by decide +kernel
theorem dX6_doRow_69 : decode cX6_doRow 69 = .ok (.invokevirtual 78, 3) := by decide +kernel
theorem dX6_doRow_72 : decode cX6_doRow 72 = .ok (.ireturn, 1) := by decide +kernel
theorem dX6_stackOf_0 : decode cX6_stackOf 0 = .ok (.aload_n 0, 1) := by decide +kernel
theorem dX6_stackOf_1 : decode cX6_stackOf 1 = .ok (.getfield 26, 3) := by decide +kernel
theorem dX6_stackOf_4 : decode cX6_stackOf 4 = .ok (.iload_n 1, 1) := by decide +kernel
theorem dX6_stackOf_5 : decode cX6_stackOf 5 = .ok (.invokevirtual 58, 3) := by decide +kernel
theorem dX6_stackOf_8 : decode cX6_stackOf 8 = .ok (.astore_n 3, 1) := by decide +kernel
theorem dX6_stackOf_9 : decode cX6_stackOf 9 = .ok (.aload_n 3, 1) := by decide +kernel
theorem dX6_stackOf_10 : decode cX6_stackOf 10 = .ok (.ifnonnull 6, 3) := by decide +kernel
theorem dX6_stackOf_13 : decode cX6_stackOf 13 = .ok (.ldc 45, 2) := by decide +kernel
theorem dX6_stackOf_15 : decode cX6_stackOf 15 = .ok (.ireturn, 1) := by decide +kernel
theorem dX6_stackOf_16 : decode cX6_stackOf 16 = .ok (.aload_n 0, 1) := by decide +kernel
theorem dX6_stackOf_17 : decode cX6_stackOf 17 = .ok (.getfield 26, 3) := by decide +kernel
theorem dX6_stackOf_20 : decode cX6_stackOf 20 = .ok (.iload_n 1, 1) := by decide +kernel
theorem dX6_stackOf_21 : decode cX6_stackOf 21 = .ok (.invokevirtual 90, 3) := by decide +kernel
theorem dX6_stackOf_24 : decode cX6_stackOf 24 = .ok (.istore 4, 2) := by decide +kernel
theorem dX6_stackOf_26 : decode cX6_stackOf 26 = .ok (.iload_n 2, 1) := by decide +kernel
theorem dX6_stackOf_27 : decode cX6_stackOf 27 = .ok (.tableswitch 128 0 9 #[53, 58, 63, 68, 78, 88, 98, 109, 112, 119], 53) := by decide +kernel
theorem dX6_stackOf_80 : decode cX6_stackOf 80 = .ok (.aload_n 3, 1) := by decide +kernel
theorem dX6_stackOf_81 : decode cX6_stackOf 81 = .ok (.getfield 96, 3) := by decide +kernel
theorem dX6_stackOf_84 : decode cX6_stackOf 84 = .ok (.ireturn, 1) := by decide +kernel
theorem dX6_stackOf_85 : decode cX6_stackOf 85 = .ok (.aload_n 3, 1) := by decide +kernel
theorem dX6_stackOf_86 : decode cX6_stackOf 86 = .ok (.getfield 82, 3) := by decide +kernel
theorem dX6_stackOf_89 : decode cX6_stackOf 89 = .ok (.ireturn, 1) := by decide +kernel
theorem dX6_stackOf_90 : decode cX6_stackOf 90 = .ok (.aload_n 3, 1) := by decide +kernel
theorem dX6_stackOf_91 : decode cX6_stackOf 91 = .ok (.getfield 99, 3) := by decide +kernel
theorem dX6_stackOf_94 : decode cX6_stackOf 94 = .ok (.ireturn, 1) := by decide +kernel
theorem dX6_stackOf_95 : decode cX6_stackOf 95 = .ok (.aload_n 3, 1) := by decide +kernel
theorem dX6_stackOf_96 : decode cX6_stackOf 96 = .ok (.getfield 62, 3) := by decide +kernel
theorem dX6_stackOf_99 : decode cX6_stackOf 99 = .ok (.iload 4, 2) := by decide +kernel
theorem dX6_stackOf_101 : decode cX6_stackOf 101 = .ok (.invokevirtual 102, 3) := by decide +kernel
theorem dX6_stackOf_104 : decode cX6_stackOf 104 = .ok (.ireturn, 1) := by decide +kernel
theorem dX6_stackOf_105 : decode cX6_stackOf 105 = .ok (.aload_n 3, 1) := by decide +kernel
theorem dX6_stackOf_106 : decode cX6_stackOf 106 = .ok (.getfield 62, 3) := by decide +kernel
theorem dX6_stackOf_109 : decode cX6_stackOf 109 = .ok (.iload 4, 2) := by decide +kernel
theorem dX6_stackOf_111 : decode cX6_stackOf 111 = .ok (.invokevirtual 105, 3) := by decide +kernel
theorem dX6_stackOf_114 : decode cX6_stackOf 114 = .ok (.ireturn, 1) := by decide +kernel
theorem dX6_stackOf_115 : decode cX6_stackOf 115 = .ok (.aload_n 3, 1) := by decide +kernel
theorem dX6_stackOf_116 : decode cX6_stackOf 116 = .ok (.getfield 62, 3) := by decide +kernel
theorem dX6_stackOf_119 : decode cX6_stackOf 119 = .ok (.iload 4, 2) := by decide +kernel
theorem dX6_stackOf_121 : decode cX6_stackOf 121 = .ok (.invokevirtual 78, 3) := by decide +kernel
theorem dX6_stackOf_124 : decode cX6_stackOf 124 = .ok (.ireturn, 1) := by decide +kernel
theorem dX6_stackOf_125 : decode cX6_stackOf 125 = .ok (.iload 4, 2) := by decide +kernel
theorem dX6_stackOf_127 : decode cX6_stackOf 127 = .ok (.ifCond .ne 7, 3) := by decide +kernel
theorem dX6_stackOf_130 : decode cX6_stackOf 130 = .ok (.iconst 1, 1) := by decide +kernel
theorem dX6_stackOf_131 : decode cX6_stackOf 131 = .ok (.goto 4, 3) := by decide +kernel
theorem dX6_stackOf_134 : decode cX6_stackOf 134 = .ok (.iconst 0, 1) := by decide +kernel
theorem dX6_stackOf_135 : decode cX6_stackOf 135 = .ok (.ireturn, 1) := by decide +kernel
theorem dX6_stackOf_136 : decode cX6_stackOf 136 = .ok (.iload 4, 2) := by decide +kernel
theorem dX6_stackOf_138 : decode cX6_stackOf 138 = .ok (.ireturn, 1) := by decide +kernel
theorem dX6_stackOf_139 : decode cX6_stackOf 139 = .ok (.aload_n 3, 1) := by decide +kernel
theorem dX6_stackOf_140 : decode cX6_stackOf 140 = .ok (.iload 4, 2) := by decide +kernel
theorem dX6_stackOf_142 : decode cX6_stackOf 142 = .ok (.invokevirtual 108, 3) := by decide +kernel
theorem dX6_stackOf_145 : decode cX6_stackOf 145 = .ok (.ireturn, 1) := by decide +kernel
theorem dX6_stackOf_146 : decode cX6_stackOf 146 = .ok (.aload_n 0, 1) := by decide +kernel
theorem dX6_stackOf_147 : decode cX6_stackOf 147 = .ok (.getfield 26, 3) := by decide +kernel
theorem dX6_stackOf_150 : decode cX6_stackOf 150 = .ok (.iload_n 1, 1) := by decide +kernel
theorem dX6_stackOf_151 : decode cX6_stackOf 151 = .ok (.invokevirtual 111, 3) := by decide +kernel
theorem dX6_stackOf_154 : decode cX6_stackOf 154 = .ok (.ireturn, 1) := by decide +kernel
theorem dX6_stackOf_155 : decode cX6_stackOf 155 = .ok (.ldc 45, 2) := by decide +kernel
theorem dX6_stackOf_157 : decode cX6_stackOf 157 = .ok (.ireturn, 1) := by decide +kernel
theorem dX6_cakeAt_0 : decode cX6_cakeAt 0 = .ok (.aload_n 0, 1) := by decide +kernel
theorem dX6_cakeAt_1 : decode cX6_cakeAt 1 = .ok (.getfield 26, 3) := by decide +kernel
theorem dX6_cakeAt_4 : decode cX6_cakeAt 4 = .ok (.iload_n 1, 1) := by decide +kernel
theorem dX6_cakeAt_5 : decode cX6_cakeAt 5 = .ok (.invokevirtual 58, 3) := by decide +kernel
theorem dX6_cakeAt_8 : decode cX6_cakeAt 8 = .ok (.astore_n 3, 1) := by decide +kernel
theorem dX6_cakeAt_9 : decode cX6_cakeAt 9 = .ok (.aload_n 3, 1) := by decide +kernel
theorem dX6_cakeAt_10 : decode cX6_cakeAt 10 = .ok (.ifnull 15, 3) := by decide +kernel
theorem dX6_cakeAt_13 : decode cX6_cakeAt 13 = .ok (.iload_n 2, 1) := by decide +kernel
theorem dX6_cakeAt_14 : decode cX6_cakeAt 14 = .ok (.ifCond .lt 11, 3) := by decide +kernel
theorem dX6_cakeAt_17 : decode cX6_cakeAt 17 = .ok (.iload_n 2, 1) := by decide +kernel
theorem dX6_cakeAt_18 : decode cX6_cakeAt 18 = .ok (.aload_n 3, 1) := by decide +kernel
theorem dX6_cakeAt_19 : decode cX6_cakeAt 19 = .ok (.getfield 82, 3) := by decide +kernel
theorem dX6_cakeAt_22 : decode cX6_cakeAt 22 = .ok (.if_icmp .lt 6, 3) := by decide +kernel
theorem dX6_cakeAt_25 : decode cX6_cakeAt 25 = .ok (.ldc 45, 2) := by decide +kernel
theorem dX6_cakeAt_27 : decode cX6_cakeAt 27 = .ok (.ireturn, 1) := by decide +kernel
theorem dX6_cakeAt_28 : decode cX6_cakeAt 28 = .ok (.aload_n 0, 1) := by decide +kernel
theorem dX6_cakeAt_29 : decode cX6_cakeAt 29 = .ok (.getfield 26, 3) := by decide +kernel
theorem dX6_cakeAt_32 : decode cX6_cakeAt 32 = .ok (.iload_n 1, 1) := by decide +kernel
theorem dX6_cakeAt_33 : decode cX6_cakeAt 33 = .ok (.invokevirtual 90, 3) := by decide +kernel
theorem dX6_cakeAt_36 : decode cX6_cakeAt 36 = .ok (.istore 4, 2) := by decide +kernel
theorem dX6_cakeAt_38 : decode cX6_cakeAt 38 = .ok (.aload_n 3, 1) := by decide +kernel
theorem dX6_cakeAt_39 : decode cX6_cakeAt 39 = .ok (.getfield 62, 3) := by decide +kernel
theorem dX6_cakeAt_42 : decode cX6_cakeAt 42 = .ok (.iload 4, 2) := by decide +kernel
theorem dX6_cakeAt_44 : decode cX6_cakeAt 44 = .ok (.iload_n 2, 1) := by decide +kernel
theorem dX6_cakeAt_45 : decode cX6_cakeAt 45 = .ok (.invokevirtual 114, 3) := by decide +kernel
theorem dX6_cakeAt_48 : decode cX6_cakeAt 48 = .ok (.istore 5, 2) := by decide +kernel
theorem dX6_cakeAt_50 : decode cX6_cakeAt 50 = .ok (.aload_n 3, 1) := by decide +kernel
theorem dX6_cakeAt_51 : decode cX6_cakeAt 51 = .ok (.getfield 62, 3) := by decide +kernel
theorem dX6_cakeAt_54 : decode cX6_cakeAt 54 = .ok (.iload 4, 2) := by decide +kernel
theorem dX6_cakeAt_56 : decode cX6_cakeAt 56 = .ok (.iload_n 2, 1) := by decide +kernel
theorem dX6_cakeAt_57 : decode cX6_cakeAt 57 = .ok (.invokevirtual 117, 3) := by decide +kernel
theorem dX6_cakeAt_60 : decode cX6_cakeAt 60 = .ok (.ifCond .eq 11, 3) := by decide +kernel
theorem dX6_cakeAt_63 : decode cX6_cakeAt 63 = .ok (.iload 5, 2) := by decide +kernel
theorem dX6_cakeAt_65 : decode cX6_cakeAt 65 = .ok (.bipush 10, 2) := by decide +kernel
theorem dX6_cakeAt_67 : decode cX6_cakeAt 67 = .ok (.isub, 1) := by decide +kernel
theorem dX6_cakeAt_68 : decode cX6_cakeAt 68 = .ok (.goto 5, 3) := by decide +kernel
theorem dX6_cakeAt_71 : decode cX6_cakeAt 71 = .ok (.iload 5, 2) := by decide +kernel
theorem dX6_cakeAt_73 : decode cX6_cakeAt 73 = .ok (.ireturn, 1) := by decide +kernel
theorem dX6_gapsBehind_0 : decode cX6_gapsBehind 0 = .ok (.aload_n 0, 1) := by decide +kernel
theorem dX6_gapsBehind_1 : decode cX6_gapsBehind 1 = .ok (.getfield 26, 3) := by decide +kernel
theorem dX6_gapsBehind_4 : decode cX6_gapsBehind 4 = .ok (.iload_n 1, 1) := by decide +kernel
theorem dX6_gapsBehind_5 : decode cX6_gapsBehind 5 = .ok (.invokevirtual 58, 3) := by decide +kernel
theorem dX6_gapsBehind_8 : decode cX6_gapsBehind 8 = .ok (.astore_n 3, 1) := by decide +kernel
theorem dX6_gapsBehind_9 : decode cX6_gapsBehind 9 = .ok (.aload_n 3, 1) := by decide +kernel
theorem dX6_gapsBehind_10 : decode cX6_gapsBehind 10 = .ok (.ifnull 16, 3) := by decide +kernel
theorem dX6_gapsBehind_13 : decode cX6_gapsBehind 13 = .ok (.iload_n 2, 1) := by decide +kernel
theorem dX6_gapsBehind_14 : decode cX6_gapsBehind 14 = .ok (.iconst 1, 1) := by decide +kernel
theorem dX6_gapsBehind_15 : decode cX6_gapsBehind 15 = .ok (.if_icmp .lt 11, 3) := by decide +kernel
theorem dX6_gapsBehind_18 : decode cX6_gapsBehind 18 = .ok (.iload_n 2, 1) := by decide +kernel
theorem dX6_gapsBehind_19 : decode cX6_gapsBehind 19 = .ok (.aload_n 3, 1) := by decide +kernel
theorem dX6_gapsBehind_20 : decode cX6_gapsBehind 20 = .ok (.getfield 82, 3) := by decide +kernel
theorem dX6_gapsBehind_23 : decode cX6_gapsBehind 23 = .ok (.if_icmp .le 6, 3) := by decide +kernel
theorem dX6_gapsBehind_26 : decode cX6_gapsBehind 26 = .ok (.ldc 45, 2) := by decide +kernel
theorem dX6_gapsBehind_28 : decode cX6_gapsBehind 28 = .ok (.ireturn, 1) := by decide +kernel
theorem dX6_gapsBehind_29 : decode cX6_gapsBehind 29 = .ok (.aload_n 3, 1) := by decide +kernel
theorem dX6_gapsBehind_30 : decode cX6_gapsBehind 30 = .ok (.getfield 62, 3) := by decide +kernel
theorem dX6_gapsBehind_33 : decode cX6_gapsBehind 33 = .ok (.aload_n 3, 1) := by decide +kernel
theorem dX6_gapsBehind_34 : decode cX6_gapsBehind 34 = .ok (.getfield 62, 3) := by decide +kernel
theorem dX6_gapsBehind_37 : decode cX6_gapsBehind 37 = .ok (.aload_n 0, 1) := by decide +kernel
theorem dX6_gapsBehind_38 : decode cX6_gapsBehind 38 = .ok (.getfield 26, 3) := by decide +kernel
theorem dX6_gapsBehind_41 : decode cX6_gapsBehind 41 = .ok (.iload_n 1, 1) := by decide +kernel
theorem dX6_gapsBehind_42 : decode cX6_gapsBehind 42 = .ok (.invokevirtual 90, 3) := by decide +kernel
theorem dX6_gapsBehind_45 : decode cX6_gapsBehind 45 = .ok (.iload_n 2, 1) := by decide +kernel
theorem dX6_gapsBehind_46 : decode cX6_gapsBehind 46 = .ok (.invokevirtual 120, 3) := by decide +kernel
theorem dX6_gapsBehind_49 : decode cX6_gapsBehind 49 = .ok (.invokevirtual 78, 3) := by decide +kernel
theorem dX6_gapsBehind_52 : decode cX6_gapsBehind 52 = .ok (.ireturn, 1) := by decide +kernel
theorem dX6_fewest_0 : decode cX6_fewest 0 = .ok (.aload_n 0, 1) := by decide +kernel
theorem dX6_fewest_1 : decode cX6_fewest 1 = .ok (.getfield 26, 3) := by decide +kernel
theorem dX6_fewest_4 : decode cX6_fewest 4 = .ok (.iload_n 1, 1) := by decide +kernel
theorem dX6_fewest_5 : decode cX6_fewest 5 = .ok (.invokevirtual 58, 3) := by decide +kernel
theorem dX6_fewest_8 : decode cX6_fewest 8 = .ok (.astore_n 3, 1) := by decide +kernel
theorem dX6_fewest_9 : decode cX6_fewest 9 = .ok (.aload_n 3, 1) := by decide +kernel
theorem dX6_fewest_10 : decode cX6_fewest 10 = .ok (.ifnull 12, 3) := by decide +kernel
theorem dX6_fewest_13 : decode cX6_fewest 13 = .ok (.iload_n 2, 1) := by decide +kernel
theorem dX6_fewest_14 : decode cX6_fewest 14 = .ok (.ifCond .lt 8, 3) := by decide +kernel
theorem dX6_fewest_17 : decode cX6_fewest 17 = .ok (.iload_n 2, 1) := by decide +kernel
theorem dX6_fewest_18 : decode cX6_fewest 18 = .ok (.iconst 1, 1) := by decide +kernel
theorem dX6_fewest_19 : decode cX6_fewest 19 = .ok (.if_icmp .le 6, 3) := by decide +kernel
theorem dX6_fewest_22 : decode cX6_fewest 22 = .ok (.ldc 45, 2) := by decide +kernel
theorem dX6_fewest_24 : decode cX6_fewest 24 = .ok (.ireturn, 1) := by decide +kernel
theorem dX6_fewest_25 : decode cX6_fewest 25 = .ok (.aload_n 3, 1) := by decide +kernel
theorem dX6_fewest_26 : decode cX6_fewest 26 = .ok (.invokevirtual 123, 3) := by decide +kernel
theorem dX6_fewest_29 : decode cX6_fewest 29 = .ok (.astore 4, 2) := by decide +kernel
theorem dX6_fewest_31 : decode cX6_fewest 31 = .ok (.aload_n 0, 1) := by decide +kernel
theorem dX6_fewest_32 : decode cX6_fewest 32 = .ok (.getfield 26, 3) := by decide +kernel
theorem dX6_fewest_35 : decode cX6_fewest 35 = .ok (.iload_n 1, 1) := by decide +kernel
theorem dX6_fewest_36 : decode cX6_fewest 36 = .ok (.invokevirtual 90, 3) := by decide +kernel
theorem dX6_fewest_39 : decode cX6_fewest 39 = .ok (.istore 5, 2) := by decide +kernel
theorem dX6_fewest_41 : decode cX6_fewest 41 = .ok (.aload 4, 2) := by decide +kernel
theorem dX6_fewest_43 : decode cX6_fewest 43 = .ok (.iload 5, 2) := by decide +kernel
theorem dX6_fewest_45 : decode cX6_fewest 45 = .ok (.invokevirtual 127, 3) := by decide +kernel
theorem dX6_fewest_48 : decode cX6_fewest 48 = .ok (.istore 6, 2) := by decide +kernel
theorem dX6_fewest_50 : decode cX6_fewest 50 = .ok (.iload 6, 2) := by decide +kernel
theorem dX6_fewest_52 : decode cX6_fewest 52 = .ok (.iconst (-1), 1) := by decide +kernel
theorem dX6_fewest_53 : decode cX6_fewest 53 = .ok (.if_icmp .eq 10, 3) := by decide +kernel
theorem dX6_fewest_56 : decode cX6_fewest 56 = .ok (.iload 6, 2) := by decide +kernel
theorem dX6_fewest_58 : decode cX6_fewest 58 = .ok (.bipush 9, 2) := by decide +kernel
theorem dX6_fewest_60 : decode cX6_fewest 60 = .ok (.if_icmp .le 6, 3) := by decide +kernel
theorem dX6_fewest_63 : decode cX6_fewest 63 = .ok (.ldc 132, 2) := by decide +kernel
theorem dX6_fewest_65 : decode cX6_fewest 65 = .ok (.ireturn, 1) := by decide +kernel
theorem dX6_fewest_66 : decode cX6_fewest 66 = .ok (.iload_n 2, 1) := by decide +kernel
theorem dX6_fewest_67 : decode cX6_fewest 67 = .ok (.ifCond .ne 8, 3) := by decide +kernel
theorem dX6_fewest_70 : decode cX6_fewest 70 = .ok (.iload 6, 2) := by decide +kernel
theorem dX6_fewest_72 : decode cX6_fewest 72 = .ok (.goto 10, 3) := by decide +kernel
theorem dX6_fewest_75 : decode cX6_fewest 75 = .ok (.aload 4, 2) := by decide +kernel
theorem dX6_fewest_77 : decode cX6_fewest 77 = .ok (.iload 5, 2) := by decide +kernel
theorem dX6_fewest_79 : decode cX6_fewest 79 = .ok (.invokevirtual 133, 3) := by decide +kernel
theorem dX6_fewest_82 : decode cX6_fewest 82 = .ok (.ireturn, 1) := by decide +kernel
theorem dX6_leastWork_0 : decode cX6_leastWork 0 = .ok (.aload_n 0, 1) := by decide +kernel
theorem dX6_leastWork_1 : decode cX6_leastWork 1 = .ok (.getfield 26, 3) := by decide +kernel
theorem dX6_leastWork_4 : decode cX6_leastWork 4 = .ok (.iload_n 1, 1) := by decide +kernel
theorem dX6_leastWork_5 : decode cX6_leastWork 5 = .ok (.invokevirtual 58, 3) := by decide +kernel
theorem dX6_leastWork_8 : decode cX6_leastWork 8 = .ok (.astore_n 2, 1) := by decide +kernel
theorem dX6_leastWork_9 : decode cX6_leastWork 9 = .ok (.aload_n 2, 1) := by decide +kernel
theorem dX6_leastWork_10 : decode cX6_leastWork 10 = .ok (.ifnonnull 6, 3) := by decide +kernel
theorem dX6_leastWork_13 : decode cX6_leastWork 13 = .ok (.ldc 45, 2) := by decide +kernel
theorem dX6_leastWork_15 : decode cX6_leastWork 15 = .ok (.ireturn, 1) := by decide +kernel
theorem dX6_leastWork_16 : decode cX6_leastWork 16 = .ok (.aload_n 2, 1) := by decide +kernel
theorem dX6_leastWork_17 : decode cX6_leastWork 17 = .ok (.invokevirtual 123, 3) := by decide +kernel
theorem dX6_leastWork_20 : decode cX6_leastWork 20 = .ok (.aload_n 0, 1) := by decide +kernel
theorem dX6_leastWork_21 : decode cX6_leastWork 21 = .ok (.getfield 26, 3) := by decide +kernel
theorem dX6_leastWork_24 : decode cX6_leastWork 24 = .ok (.iload_n 1, 1) := by decide +kernel
theorem dX6_leastWork_25 : decode cX6_leastWork 25 = .ok (.invokevirtual 90, 3) := by decide +kernel
theorem dX6_leastWork_28 : decode cX6_leastWork 28 = .ok (.invokevirtual 136, 3) := by decide +kernel
theorem dX6_leastWork_31 : decode cX6_leastWork 31 = .ok (.istore_n 3, 1) := by decide +kernel
theorem dX6_leastWork_32 : decode cX6_leastWork 32 = .ok (.iload_n 3, 1) := by decide +kernel
theorem dX6_leastWork_33 : decode cX6_leastWork 33 = .ok (.iconst (-1), 1) := by decide +kernel
theorem dX6_leastWork_34 : decode cX6_leastWork 34 = .ok (.if_icmp .ne 8, 3) := by decide +kernel
theorem dX6_leastWork_37 : decode cX6_leastWork 37 = .ok (.ldc 132, 2) := by decide +kernel
theorem dX6_leastWork_39 : decode cX6_leastWork 39 = .ok (.goto 4, 3) := by decide +kernel
theorem dX6_leastWork_42 : decode cX6_leastWork 42 = .ok (.iload_n 3, 1) := by decide +kernel
theorem dX6_leastWork_43 : decode cX6_leastWork 43 = .ok (.ireturn, 1) := by decide +kernel
theorem dX6_ways_0 : decode cX6_ways 0 = .ok (.aload_n 0, 1) := by decide +kernel
theorem dX6_ways_1 : decode cX6_ways 1 = .ok (.getfield 26, 3) := by decide +kernel
theorem dX6_ways_4 : decode cX6_ways 4 = .ok (.iload_n 1, 1) := by decide +kernel
theorem dX6_ways_5 : decode cX6_ways 5 = .ok (.invokevirtual 58, 3) := by decide +kernel
theorem dX6_ways_8 : decode cX6_ways 8 = .ok (.astore_n 3, 1) := by decide +kernel
theorem dX6_ways_9 : decode cX6_ways 9 = .ok (.aload_n 3, 1) := by decide +kernel
theorem dX6_ways_10 : decode cX6_ways 10 = .ok (.ifnull 12, 3) := by decide +kernel
theorem dX6_ways_13 : decode cX6_ways 13 = .ok (.iload_n 2, 1) := by decide +kernel
theorem dX6_ways_14 : decode cX6_ways 14 = .ok (.ifCond .lt 8, 3) := by decide +kernel
theorem dX6_ways_17 : decode cX6_ways 17 = .ok (.iload_n 2, 1) := by decide +kernel
theorem dX6_ways_18 : decode cX6_ways 18 = .ok (.iconst 5, 1) := by decide +kernel
theorem dX6_ways_19 : decode cX6_ways 19 = .ok (.if_icmp .le 6, 3) := by decide +kernel
theorem dX6_ways_22 : decode cX6_ways 22 = .ok (.ldc 45, 2) := by decide +kernel
theorem dX6_ways_24 : decode cX6_ways 24 = .ok (.ireturn, 1) := by decide +kernel
theorem dX6_ways_25 : decode cX6_ways 25 = .ok (.aload_n 3, 1) := by decide +kernel
theorem dX6_ways_26 : decode cX6_ways 26 = .ok (.invokevirtual 123, 3) := by decide +kernel
theorem dX6_ways_29 : decode cX6_ways 29 = .ok (.aload_n 0, 1) := by decide +kernel
theorem dX6_ways_30 : decode cX6_ways 30 = .ok (.getfield 26, 3) := by decide +kernel
theorem dX6_ways_33 : decode cX6_ways 33 = .ok (.iload_n 1, 1) := by decide +kernel
theorem dX6_ways_34 : decode cX6_ways 34 = .ok (.invokevirtual 90, 3) := by decide +kernel
theorem dX6_ways_37 : decode cX6_ways 37 = .ok (.iload_n 2, 1) := by decide +kernel
theorem dX6_ways_38 : decode cX6_ways 38 = .ok (.invokevirtual 139, 3) := by decide +kernel
theorem dX6_ways_41 : decode cX6_ways 41 = .ok (.ireturn, 1) := by decide +kernel
theorem dX6_ranked_0 : decode cX6_ranked 0 = .ok (.aload_n 0, 1) := by decide +kernel
theorem dX6_ranked_1 : decode cX6_ranked 1 = .ok (.getfield 26, 3) := by decide +kernel
theorem dX6_ranked_4 : decode cX6_ranked 4 = .ok (.iload_n 1, 1) := by decide +kernel
theorem dX6_ranked_5 : decode cX6_ranked 5 = .ok (.invokevirtual 58, 3) := by decide +kernel
theorem dX6_ranked_8 : decode cX6_ranked 8 = .ok (.astore 4, 2) := by decide +kernel
theorem dX6_ranked_10 : decode cX6_ranked 10 = .ok (.aload 4, 2) := by decide +kernel
theorem dX6_ranked_12 : decode cX6_ranked 12 = .ok (.ifnull 16, 3) := by decide +kernel
theorem dX6_ranked_15 : decode cX6_ranked 15 = .ok (.iload_n 2, 1) := by decide +kernel
theorem dX6_ranked_16 : decode cX6_ranked 16 = .ok (.ifCond .lt 12, 3) := by decide +kernel
theorem dX6_ranked_19 : decode cX6_ranked 19 = .ok (.iload_n 3, 1) := by decide +kernel
theorem dX6_ranked_20 : decode cX6_ranked 20 = .ok (.ifCond .lt 8, 3) := by decide +kernel
theorem dX6_ranked_23 : decode cX6_ranked 23 = .ok (.iload_n 3, 1) := by decide +kernel
theorem dX6_ranked_24 : decode cX6_ranked 24 = .ok (.iconst 1, 1) := by decide +kernel
theorem dX6_ranked_25 : decode cX6_ranked 25 = .ok (.if_icmp .le 6, 3) := by decide +kernel
theorem dX6_ranked_28 : decode cX6_ranked 28 = .ok (.ldc 45, 2) := by decide +kernel
theorem dX6_ranked_30 : decode cX6_ranked 30 = .ok (.ireturn, 1) := by decide +kernel
theorem dX6_ranked_31 : decode cX6_ranked 31 = .ok (.iload_n 2, 1) := by decide +kernel
theorem dX6_ranked_32 : decode cX6_ranked 32 = .ok (.aload 4, 2) := by decide +kernel
theorem dX6_ranked_34 : decode cX6_ranked 34 = .ok (.getfield 62, 3) := by decide +kernel
theorem dX6_ranked_37 : decode cX6_ranked 37 = .ok (.getfield 151, 3) := by decide +kernel
theorem dX6_ranked_40 : decode cX6_ranked 40 = .ok (.if_icmp .lt 6, 3) := by decide +kernel
theorem dX6_ranked_43 : decode cX6_ranked 43 = .ok (.ldc 132, 2) := by decide +kernel
theorem dX6_ranked_45 : decode cX6_ranked 45 = .ok (.ireturn, 1) := by decide +kernel
theorem dX6_ranked_46 : decode cX6_ranked 46 = .ok (.iload_n 3, 1) := by decide +kernel
theorem dX6_ranked_47 : decode cX6_ranked 47 = .ok (.ifCond .ne 15, 3) := by decide +kernel
theorem dX6_ranked_50 : decode cX6_ranked 50 = .ok (.aload 4, 2) := by decide +kernel
theorem dX6_ranked_52 : decode cX6_ranked 52 = .ok (.getfield 62, 3) := by decide +kernel
theorem dX6_ranked_55 : decode cX6_ranked 55 = .ok (.iload_n 2, 1) := by decide +kernel
theorem dX6_ranked_56 : decode cX6_ranked 56 = .ok (.invokevirtual 102, 3) := by decide +kernel
theorem dX6_ranked_59 : decode cX6_ranked 59 = .ok (.goto 12, 3) := by decide +kernel
theorem dX6_ranked_62 : decode cX6_ranked 62 = .ok (.aload 4, 2) := by decide +kernel
theorem dX6_ranked_64 : decode cX6_ranked 64 = .ok (.getfield 62, 3) := by decide +kernel
theorem dX6_ranked_67 : decode cX6_ranked 67 = .ok (.iload_n 2, 1) := by decide +kernel
theorem dX6_ranked_68 : decode cX6_ranked 68 = .ok (.invokevirtual 105, 3) := by decide +kernel
theorem dX6_ranked_71 : decode cX6_ranked 71 = .ok (.ireturn, 1) := by decide +kernel
theorem dX6_ofDistance_0 : decode cX6_ofDistance 0 = .ok (.aload_n 0, 1) := by decide +kernel
theorem dX6_ofDistance_1 : decode cX6_ofDistance 1 = .ok (.getfield 26, 3) := by decide +kernel
theorem dX6_ofDistance_4 : decode cX6_ofDistance 4 = .ok (.iload_n 1, 1) := by decide +kernel
theorem dX6_ofDistance_5 : decode cX6_ofDistance 5 = .ok (.invokevirtual 58, 3) := by decide +kernel
theorem dX6_ofDistance_8 : decode cX6_ofDistance 8 = .ok (.astore_n 3, 1) := by decide +kernel
theorem dX6_ofDistance_9 : decode cX6_ofDistance 9 = .ok (.aload_n 3, 1) := by decide +kernel
theorem dX6_ofDistance_10 : decode cX6_ofDistance 10 = .ok (.ifnull 13, 3) := by decide +kernel
theorem dX6_ofDistance_13 : decode cX6_ofDistance 13 = .ok (.iload_n 2, 1) := by decide +kernel
theorem dX6_ofDistance_14 : decode cX6_ofDistance 14 = .ok (.ifCond .lt 9, 3) := by decide +kernel
theorem dX6_ofDistance_17 : decode cX6_ofDistance 17 = .ok (.iload_n 2, 1) := by decide +kernel
theorem dX6_ofDistance_18 : decode cX6_ofDistance 18 = .ok (.bipush 12, 2) := by decide +kernel
theorem dX6_ofDistance_20 : decode cX6_ofDistance 20 = .ok (.if_icmp .le 6, 3) := by decide +kernel
theorem dX6_ofDistance_23 : decode cX6_ofDistance 23 = .ok (.ldc 45, 2) := by decide +kernel
theorem dX6_ofDistance_25 : decode cX6_ofDistance 25 = .ok (.ireturn, 1) := by decide +kernel
theorem dX6_ofDistance_26 : decode cX6_ofDistance 26 = .ok (.aload_n 3, 1) := by decide +kernel
theorem dX6_ofDistance_27 : decode cX6_ofDistance 27 = .ok (.invokevirtual 123, 3) := by decide +kernel
theorem dX6_ofDistance_30 : decode cX6_ofDistance 30 = .ok (.iload_n 2, 1) := by decide +kernel
theorem dX6_ofDistance_31 : decode cX6_ofDistance 31 = .ok (.invokevirtual 154, 3) := by decide +kernel
theorem dX6_ofDistance_34 : decode cX6_ofDistance 34 = .ok (.ireturn, 1) := by decide +kernel
theorem dX6_count_0 : decode cX6_count 0 = .ok (.iload_n 1, 1) := by decide +kernel
theorem dX6_count_1 : decode cX6_count 1 = .ok (.tableswitch 149 0 12 #[67, 75, 83, 91, 99, 99, 99, 113, 113, 113, 128, 136, 141], 67) := by decide +kernel
theorem dX6_count_68 : decode cX6_count 68 = .ok (.aload_n 0, 1) := by decide +kernel
theorem dX6_count_69 : decode cX6_count 69 = .ok (.getfield 26, 3) := by decide +kernel
theorem dX6_count_72 : decode cX6_count 72 = .ok (.getfield 157, 3) := by decide +kernel
theorem dX6_count_75 : decode cX6_count 75 = .ok (.ireturn, 1) := by decide +kernel
theorem dX6_count_76 : decode cX6_count 76 = .ok (.aload_n 0, 1) := by decide +kernel
theorem dX6_count_77 : decode cX6_count 77 = .ok (.getfield 26, 3) := by decide +kernel
theorem dX6_count_80 : decode cX6_count 80 = .ok (.invokevirtual 160, 3) := by decide +kernel
theorem dX6_count_83 : decode cX6_count 83 = .ok (.ireturn, 1) := by decide +kernel
theorem dX6_count_84 : decode cX6_count 84 = .ok (.aload_n 0, 1) := by decide +kernel
theorem dX6_count_85 : decode cX6_count 85 = .ok (.getfield 26, 3) := by decide +kernel
theorem dX6_count_88 : decode cX6_count 88 = .ok (.invokevirtual 164, 3) := by decide +kernel
theorem dX6_count_91 : decode cX6_count 91 = .ok (.ireturn, 1) := by decide +kernel
theorem dX6_count_92 : decode cX6_count 92 = .ok (.aload_n 0, 1) := by decide +kernel
theorem dX6_count_93 : decode cX6_count 93 = .ok (.getfield 26, 3) := by decide +kernel
theorem dX6_count_96 : decode cX6_count 96 = .ok (.getfield 167, 3) := by decide +kernel
theorem dX6_count_99 : decode cX6_count 99 = .ok (.ireturn, 1) := by decide +kernel
theorem dX6_count_100 : decode cX6_count 100 = .ok (.aload_n 0, 1) := by decide +kernel
theorem dX6_count_101 : decode cX6_count 101 = .ok (.getfield 26, 3) := by decide +kernel
theorem dX6_count_104 : decode cX6_count 104 = .ok (.getfield 170, 3) := by decide +kernel
theorem dX6_count_107 : decode cX6_count 107 = .ok (.iload_n 1, 1) := by decide +kernel
theorem dX6_count_108 : decode cX6_count 108 = .ok (.iconst 4, 1) := by decide +kernel
theorem dX6_count_109 : decode cX6_count 109 = .ok (.isub, 1) := by decide +kernel
theorem dX6_count_110 : decode cX6_count 110 = .ok (.invokestatic 174, 3) := by decide +kernel
theorem dX6_count_113 : decode cX6_count 113 = .ok (.ireturn, 1) := by decide +kernel
theorem dX6_count_114 : decode cX6_count 114 = .ok (.aload_n 0, 1) := by decide +kernel
theorem dX6_count_115 : decode cX6_count 115 = .ok (.getfield 26, 3) := by decide +kernel
theorem dX6_count_118 : decode cX6_count 118 = .ok (.getfield 178, 3) := by decide +kernel
theorem dX6_count_121 : decode cX6_count 121 = .ok (.iload_n 1, 1) := by decide +kernel
theorem dX6_count_122 : decode cX6_count 122 = .ok (.bipush 7, 2) := by decide +kernel
theorem dX6_count_124 : decode cX6_count 124 = .ok (.isub, 1) := by decide +kernel
theorem dX6_count_125 : decode cX6_count 125 = .ok (.invokestatic 174, 3) := by decide +kernel
theorem dX6_count_128 : decode cX6_count 128 = .ok (.ireturn, 1) := by decide +kernel
theorem dX6_count_129 : decode cX6_count 129 = .ok (.aload_n 0, 1) := by decide +kernel
theorem dX6_count_130 : decode cX6_count 130 = .ok (.getfield 26, 3) := by decide +kernel
theorem dX6_count_133 : decode cX6_count 133 = .ok (.invokevirtual 181, 3) := by decide +kernel
theorem dX6_count_136 : decode cX6_count 136 = .ok (.ireturn, 1) := by decide +kernel
theorem dX6_count_137 : decode cX6_count 137 = .ok (.aload_n 0, 1) := by decide +kernel
theorem dX6_count_138 : decode cX6_count 138 = .ok (.getfield 37, 3) := by decide +kernel
theorem dX6_count_141 : decode cX6_count 141 = .ok (.ireturn, 1) := by decide +kernel
theorem dX6_count_142 : decode cX6_count 142 = .ok (.aload_n 0, 1) := by decide +kernel
theorem dX6_count_143 : decode cX6_count 143 = .ok (.getfield 19, 3) := by decide +kernel
theorem dX6_count_146 : decode cX6_count 146 = .ok (.getfield 184, 3) := by decide +kernel
theorem dX6_count_149 : decode cX6_count 149 = .ok (.ireturn, 1) := by decide +kernel
theorem dX6_count_150 : decode cX6_count 150 = .ok (.ldc 45, 2) := by decide +kernel
theorem dX6_count_152 : decode cX6_count 152 = .ok (.ireturn, 1) := by decide +kernel
theorem dX6_undo_0 : decode cX6_undo 0 = .ok (.aload_n 0, 1) := by decide +kernel
theorem dX6_undo_1 : decode cX6_undo 1 = .ok (.aload_n 0, 1) := by decide +kernel
theorem dX6_undo_2 : decode cX6_undo 2 = .ok (.getfield 37, 3) := by decide +kernel
theorem dX6_undo_5 : decode cX6_undo 5 = .ok (.iconst 1, 1) := by decide +kernel
theorem dX6_undo_6 : decode cX6_undo 6 = .ok (.isub, 1) := by decide +kernel
theorem dX6_undo_7 : decode cX6_undo 7 = .ok (.invokevirtual 187, 3) := by decide +kernel
theorem dX6_undo_10 : decode cX6_undo 10 = .ok (.astore_n 1, 1) := by decide +kernel
theorem dX6_undo_11 : decode cX6_undo 11 = .ok (.aload_n 1, 1) := by decide +kernel
theorem dX6_undo_12 : decode cX6_undo 12 = .ok (.ifnonnull 6, 3) := by decide +kernel
theorem dX6_undo_15 : decode cX6_undo 15 = .ok (.ldc 89, 2) := by decide +kernel
theorem dX6_undo_17 : decode cX6_undo 17 = .ok (.ireturn, 1) := by decide +kernel
theorem dX6_undo_18 : decode cX6_undo 18 = .ok (.aload_n 0, 1) := by decide +kernel
theorem dX6_undo_19 : decode cX6_undo 19 = .ok (.dup, 1) := by decide +kernel
theorem dX6_undo_20 : decode cX6_undo 20 = .ok (.getfield 37, 3) := by decide +kernel
theorem dX6_undo_23 : decode cX6_undo 23 = .ok (.iconst 1, 1) := by decide +kernel
theorem dX6_undo_24 : decode cX6_undo 24 = .ok (.isub, 1) := by decide +kernel
theorem dX6_undo_25 : decode cX6_undo 25 = .ok (.putfield 37, 3) := by decide +kernel
theorem dX6_undo_28 : decode cX6_undo 28 = .ok (.aload_n 0, 1) := by decide +kernel
theorem dX6_undo_29 : decode cX6_undo 29 = .ok (.getfield 26, 3) := by decide +kernel
theorem dX6_undo_32 : decode cX6_undo 32 = .ok (.aload_n 1, 1) := by decide +kernel
theorem dX6_undo_33 : decode cX6_undo 33 = .ok (.invokevirtual 46, 3) := by decide +kernel
theorem dX6_undo_36 : decode cX6_undo 36 = .ok (.aload_n 0, 1) := by decide +kernel
theorem dX6_undo_37 : decode cX6_undo 37 = .ok (.getfield 37, 3) := by decide +kernel
theorem dX6_undo_40 : decode cX6_undo 40 = .ok (.ireturn, 1) := by decide +kernel
theorem dX6_keepTrial_0 : decode cX6_keepTrial 0 = .ok (.aload_n 0, 1) := by decide +kernel
theorem dX6_keepTrial_1 : decode cX6_keepTrial 1 = .ok (.getfield 37, 3) := by decide +kernel
theorem dX6_keepTrial_4 : decode cX6_keepTrial 4 = .ok (.aload_n 0, 1) := by decide +kernel
theorem dX6_keepTrial_5 : decode cX6_keepTrial 5 = .ok (.getfield 33, 3) := by decide +kernel
theorem dX6_keepTrial_8 : decode cX6_keepTrial 8 = .ok (.arraylength, 1) := by decide +kernel
theorem dX6_keepTrial_9 : decode cX6_keepTrial 9 = .ok (.if_icmp .lt 7, 3) := by decide +kernel
theorem dX6_keepTrial_12 : decode cX6_keepTrial 12 = .ok (.aload_n 0, 1) := by decide +kernel
theorem dX6_keepTrial_13 : decode cX6_keepTrial 13 = .ok (.invokevirtual 210, 3) := by decide +kernel
theorem dX6_keepTrial_16 : decode cX6_keepTrial 16 = .ok (.aload_n 0, 1) := by decide +kernel
theorem dX6_keepTrial_17 : decode cX6_keepTrial 17 = .ok (.aload_n 0, 1) := by decide +kernel
theorem dX6_keepTrial_18 : decode cX6_keepTrial 18 = .ok (.getfield 37, 3) := by decide +kernel
theorem dX6_keepTrial_21 : decode cX6_keepTrial 21 = .ok (.invokevirtual 187, 3) := by decide +kernel
theorem dX6_keepTrial_24 : decode cX6_keepTrial 24 = .ok (.astore_n 1, 1) := by decide +kernel
theorem dX6_keepTrial_25 : decode cX6_keepTrial 25 = .ok (.aload_n 1, 1) := by decide +kernel
theorem dX6_keepTrial_26 : decode cX6_keepTrial 26 = .ok (.ifnull 21, 3) := by decide +kernel
theorem dX6_keepTrial_29 : decode cX6_keepTrial 29 = .ok (.aload_n 1, 1) := by decide +kernel
theorem dX6_keepTrial_30 : decode cX6_keepTrial 30 = .ok (.aload_n 0, 1) := by decide +kernel
theorem dX6_keepTrial_31 : decode cX6_keepTrial 31 = .ok (.getfield 26, 3) := by decide +kernel
theorem dX6_keepTrial_34 : decode cX6_keepTrial 34 = .ok (.invokevirtual 46, 3) := by decide +kernel
theorem dX6_keepTrial_37 : decode cX6_keepTrial 37 = .ok (.aload_n 0, 1) := by decide +kernel
theorem dX6_keepTrial_38 : decode cX6_keepTrial 38 = .ok (.dup, 1) := by decide +kernel
theorem dX6_keepTrial_39 : decode cX6_keepTrial 39 = .ok (.getfield 37, 3) := by decide +kernel
theorem dX6_keepTrial_42 : decode cX6_keepTrial 42 = .ok (.iconst 1, 1) := by decide +kernel
theorem dX6_keepTrial_43 : decode cX6_keepTrial 43 = .ok (.iadd, 1) := by decide +kernel
theorem dX6_keepTrial_44 : decode cX6_keepTrial 44 = .ok (.putfield 37, 3) := by decide +kernel
theorem dX6_keepTrial_47 : decode cX6_keepTrial 47 = .ok (.aload_n 0, 1) := by decide +kernel
theorem dX6_keepTrial_48 : decode cX6_keepTrial 48 = .ok (.getfield 26, 3) := by decide +kernel
theorem dX6_keepTrial_51 : decode cX6_keepTrial 51 = .ok (.aload_n 0, 1) := by decide +kernel
theorem dX6_keepTrial_52 : decode cX6_keepTrial 52 = .ok (.getfield 30, 3) := by decide +kernel
theorem dX6_keepTrial_55 : decode cX6_keepTrial 55 = .ok (.invokevirtual 46, 3) := by decide +kernel
theorem dX6_keepTrial_58 : decode cX6_keepTrial 58 = .ok (.return_, 1) := by decide +kernel
theorem dX6_dropOldestState_0 : decode cX6_dropOldestState 0 = .ok (.iconst 1, 1) := by decide +kernel
theorem dX6_dropOldestState_1 : decode cX6_dropOldestState 1 = .ok (.istore_n 1, 1) := by decide +kernel
theorem dX6_dropOldestState_2 : decode cX6_dropOldestState 2 = .ok (.iload_n 1, 1) := by decide +kernel
theorem dX6_dropOldestState_3 : decode cX6_dropOldestState 3 = .ok (.aload_n 0, 1) := by decide +kernel
theorem dX6_dropOldestState_4 : decode cX6_dropOldestState 4 = .ok (.getfield 33, 3) := by decide +kernel
theorem dX6_dropOldestState_7 : decode cX6_dropOldestState 7 = .ok (.arraylength, 1) := by decide +kernel
theorem dX6_dropOldestState_8 : decode cX6_dropOldestState 8 = .ok (.if_icmp .ge 39, 3) := by decide +kernel
theorem dX6_dropOldestState_11 : decode cX6_dropOldestState 11 = .ok (.aload_n 0, 1) := by decide +kernel
theorem dX6_dropOldestState_12 : decode cX6_dropOldestState 12 = .ok (.getfield 33, 3) := by decide +kernel
theorem dX6_dropOldestState_15 : decode cX6_dropOldestState 15 = .ok (.iload_n 1, 1) := by decide +kernel
theorem dX6_dropOldestState_16 : decode cX6_dropOldestState 16 = .ok (.iconst 1, 1) := by decide +kernel
theorem dX6_dropOldestState_17 : decode cX6_dropOldestState 17 = .ok (.isub, 1) := by decide +kernel
theorem dX6_dropOldestState_18 : decode cX6_dropOldestState 18 = .ok (.aaload, 1) := by decide +kernel
theorem dX6_dropOldestState_19 : decode cX6_dropOldestState 19 = .ok (.astore_n 2, 1) := by decide +kernel
theorem dX6_dropOldestState_20 : decode cX6_dropOldestState 20 = .ok (.aload_n 0, 1) := by decide +kernel
theorem dX6_dropOldestState_21 : decode cX6_dropOldestState 21 = .ok (.getfield 33, 3) := by decide +kernel
theorem dX6_dropOldestState_24 : decode cX6_dropOldestState 24 = .ok (.iload_n 1, 1) := by decide +kernel
theorem dX6_dropOldestState_25 : decode cX6_dropOldestState 25 = .ok (.iconst 1, 1) := by decide +kernel
theorem dX6_dropOldestState_26 : decode cX6_dropOldestState 26 = .ok (.isub, 1) := by decide +kernel
theorem dX6_dropOldestState_27 : decode cX6_dropOldestState 27 = .ok (.aload_n 0, 1) := by decide +kernel
theorem dX6_dropOldestState_28 : decode cX6_dropOldestState 28 = .ok (.getfield 33, 3) := by decide +kernel
theorem dX6_dropOldestState_31 : decode cX6_dropOldestState 31 = .ok (.iload_n 1, 1) := by decide +kernel
theorem dX6_dropOldestState_32 : decode cX6_dropOldestState 32 = .ok (.aaload, 1) := by decide +kernel
theorem dX6_dropOldestState_33 : decode cX6_dropOldestState 33 = .ok (.aastore, 1) := by decide +kernel
theorem dX6_dropOldestState_34 : decode cX6_dropOldestState 34 = .ok (.aload_n 0, 1) := by decide +kernel
theorem dX6_dropOldestState_35 : decode cX6_dropOldestState 35 = .ok (.getfield 33, 3) := by decide +kernel
theorem dX6_dropOldestState_38 : decode cX6_dropOldestState 38 = .ok (.iload_n 1, 1) := by decide +kernel
theorem dX6_dropOldestState_39 : decode cX6_dropOldestState 39 = .ok (.aload_n 2, 1) := by decide +kernel
theorem dX6_dropOldestState_40 : decode cX6_dropOldestState 40 = .ok (.aastore, 1) := by decide +kernel
theorem dX6_dropOldestState_41 : decode cX6_dropOldestState 41 = .ok (.iinc 1 1, 3) := by decide +kernel
theorem dX6_dropOldestState_44 : decode cX6_dropOldestState 44 = .ok (.goto (-42), 3) := by decide +kernel
theorem dX6_dropOldestState_47 : decode cX6_dropOldestState 47 = .ok (.aload_n 0, 1) := by decide +kernel
theorem dX6_dropOldestState_48 : decode cX6_dropOldestState 48 = .ok (.aload_n 0, 1) := by decide +kernel
theorem dX6_dropOldestState_49 : decode cX6_dropOldestState 49 = .ok (.getfield 33, 3) := by decide +kernel
theorem dX6_dropOldestState_52 : decode cX6_dropOldestState 52 = .ok (.arraylength, 1) := by decide +kernel
theorem dX6_dropOldestState_53 : decode cX6_dropOldestState 53 = .ok (.iconst 1, 1) := by decide +kernel
theorem dX6_dropOldestState_54 : decode cX6_dropOldestState 54 = .ok (.isub, 1) := by decide +kernel
theorem dX6_dropOldestState_55 : decode cX6_dropOldestState 55 = .ok (.putfield 37, 3) := by decide +kernel
theorem dX6_dropOldestState_58 : decode cX6_dropOldestState 58 = .ok (.return_, 1) := by decide +kernel
theorem dX6_stateAt_0 : decode cX6_stateAt 0 = .ok (.iload_n 1, 1) := by decide +kernel
theorem dX6_stateAt_1 : decode cX6_stateAt 1 = .ok (.ifCond .lt 21, 3) := by decide +kernel
theorem dX6_stateAt_4 : decode cX6_stateAt 4 = .ok (.iload_n 1, 1) := by decide +kernel
theorem dX6_stateAt_5 : decode cX6_stateAt 5 = .ok (.aload_n 0, 1) := by decide +kernel
theorem dX6_stateAt_6 : decode cX6_stateAt 6 = .ok (.getfield 33, 3) := by decide +kernel
theorem dX6_stateAt_9 : decode cX6_stateAt 9 = .ok (.arraylength, 1) := by decide +kernel
theorem dX6_stateAt_10 : decode cX6_stateAt 10 = .ok (.if_icmp .ge 12, 3) := by decide +kernel
theorem dX6_stateAt_13 : decode cX6_stateAt 13 = .ok (.aload_n 0, 1) := by decide +kernel
theorem dX6_stateAt_14 : decode cX6_stateAt 14 = .ok (.getfield 33, 3) := by decide +kernel
theorem dX6_stateAt_17 : decode cX6_stateAt 17 = .ok (.iload_n 1, 1) := by decide +kernel
theorem dX6_stateAt_18 : decode cX6_stateAt 18 = .ok (.aaload, 1) := by decide +kernel
theorem dX6_stateAt_19 : decode cX6_stateAt 19 = .ok (.goto 4, 3) := by decide +kernel
theorem dX6_stateAt_22 : decode cX6_stateAt 22 = .ok (.aconst_null, 1) := by decide +kernel
theorem dX6_stateAt_23 : decode cX6_stateAt 23 = .ok (.areturn, 1) := by decide +kernel
theorem dX6_at_0 : decode cX6_at 0 = .ok (.iload_n 1, 1) := by decide +kernel
theorem dX6_at_1 : decode cX6_at 1 = .ok (.ifCond .lt 15, 3) := by decide +kernel
theorem dX6_at_4 : decode cX6_at 4 = .ok (.iload_n 1, 1) := by decide +kernel
theorem dX6_at_5 : decode cX6_at 5 = .ok (.aload_n 0, 1) := by decide +kernel
theorem dX6_at_6 : decode cX6_at 6 = .ok (.arraylength, 1) := by decide +kernel
theorem dX6_at_7 : decode cX6_at 7 = .ok (.if_icmp .ge 9, 3) := by decide +kernel
theorem dX6_at_10 : decode cX6_at 10 = .ok (.aload_n 0, 1) := by decide +kernel
theorem dX6_at_11 : decode cX6_at 11 = .ok (.iload_n 1, 1) := by decide +kernel
theorem dX6_at_12 : decode cX6_at 12 = .ok (.iaload, 1) := by decide +kernel
theorem dX6_at_13 : decode cX6_at 13 = .ok (.goto 4, 3) := by decide +kernel
theorem dX6_at_16 : decode cX6_at 16 = .ok (.iconst 0, 1) := by decide +kernel
theorem dX6_at_17 : decode cX6_at 17 = .ok (.ireturn, 1) := by decide +kernel
theorem dX6_put_0 : decode cX6_put 0 = .ok (.iload_n 1, 1) := by decide +kernel
theorem dX6_put_1 : decode cX6_put 1 = .ok (.ifCond .lt 13, 3) := by decide +kernel
theorem dX6_put_4 : decode cX6_put 4 = .ok (.iload_n 1, 1) := by decide +kernel
theorem dX6_put_5 : decode cX6_put 5 = .ok (.aload_n 0, 1) := by decide +kernel
theorem dX6_put_6 : decode cX6_put 6 = .ok (.arraylength, 1) := by decide +kernel
theorem dX6_put_7 : decode cX6_put 7 = .ok (.if_icmp .ge 7, 3) := by decide +kernel
theorem dX6_put_10 : decode cX6_put 10 = .ok (.aload_n 0, 1) := by decide +kernel
theorem dX6_put_11 : decode cX6_put 11 = .ok (.iload_n 1, 1) := by decide +kernel
theorem dX6_put_12 : decode cX6_put 12 = .ok (.iload_n 2, 1) := by decide +kernel
theorem dX6_put_13 : decode cX6_put 13 = .ok (.iastore, 1) := by decide +kernel
theorem dX6_put_14 : decode cX6_put 14 = .ok (.return_, 1) := by decide +kernel
theorem dX6_newRow_0 : decode cX6_newRow 0 = .ok (.iload_n 0, 1) := by decide +kernel
theorem dX6_newRow_1 : decode cX6_newRow 1 = .ok (.iconst 0, 1) := by decide +kernel
theorem dX6_newRow_2 : decode cX6_newRow 2 = .ok (.invokestatic 213, 3) := by decide +kernel
theorem dX6_newRow_5 : decode cX6_newRow 5 = .ok (.newarray .int, 2) := by decide +kernel
theorem dX6_newRow_7 : decode cX6_newRow 7 = .ok (.areturn, 1) := by decide +kernel
theorem dX6_copy_0 : decode cX6_copy 0 = .ok (.iconst 0, 1) := by decide +kernel
theorem dX6_copy_1 : decode cX6_copy 1 = .ok (.istore_n 2, 1) := by decide +kernel
theorem dX6_copy_2 : decode cX6_copy 2 = .ok (.iload_n 2, 1) := by decide +kernel
theorem dX6_copy_3 : decode cX6_copy 3 = .ok (.aload_n 0, 1) := by decide +kernel
theorem dX6_copy_4 : decode cX6_copy 4 = .ok (.arraylength, 1) := by decide +kernel
theorem dX6_copy_5 : decode cX6_copy 5 = .ok (.if_icmp .ge 21, 3) := by decide +kernel
theorem dX6_copy_8 : decode cX6_copy 8 = .ok (.iload_n 2, 1) := by decide +kernel
theorem dX6_copy_9 : decode cX6_copy 9 = .ok (.aload_n 1, 1) := by decide +kernel
theorem dX6_copy_10 : decode cX6_copy 10 = .ok (.arraylength, 1) := by decide +kernel
theorem dX6_copy_11 : decode cX6_copy 11 = .ok (.if_icmp .ge 15, 3) := by decide +kernel
theorem dX6_copy_14 : decode cX6_copy 14 = .ok (.aload_n 1, 1) := by decide +kernel
theorem dX6_copy_15 : decode cX6_copy 15 = .ok (.iload_n 2, 1) := by decide +kernel
theorem dX6_copy_16 : decode cX6_copy 16 = .ok (.aload_n 0, 1) := by decide +kernel
theorem dX6_copy_17 : decode cX6_copy 17 = .ok (.iload_n 2, 1) := by decide +kernel
theorem dX6_copy_18 : decode cX6_copy 18 = .ok (.iaload, 1) := by decide +kernel
theorem dX6_copy_19 : decode cX6_copy 19 = .ok (.iastore, 1) := by decide +kernel
theorem dX6_copy_20 : decode cX6_copy 20 = .ok (.iinc 2 1, 3) := by decide +kernel
theorem dX6_copy_23 : decode cX6_copy 23 = .ok (.goto (-21), 3) := by decide +kernel
theorem dX6_copy_26 : decode cX6_copy 26 = .ok (.return_, 1) := by decide +kernel
theorem dJ6_bitCount_0f7a4_0 : decode cJ6_bitCount_0f7a4 0 = .ok (.iload_n 0, 1) := by decide +kernel
theorem dJ6_bitCount_0f7a4_1 : decode cJ6_bitCount_0f7a4 1 = .ok (.iload_n 0, 1) := by decide +kernel
theorem dJ6_bitCount_0f7a4_2 : decode cJ6_bitCount_0f7a4 2 = .ok (.iconst 1, 1) := by decide +kernel
theorem dJ6_bitCount_0f7a4_3 : decode cJ6_bitCount_0f7a4 3 = .ok (.iushr, 1) := by decide +kernel
theorem dJ6_bitCount_0f7a4_4 : decode cJ6_bitCount_0f7a4 4 = .ok (.ldc_w 265, 3) := by decide +kernel
theorem dJ6_bitCount_0f7a4_7 : decode cJ6_bitCount_0f7a4 7 = .ok (.iand, 1) := by decide +kernel
theorem dJ6_bitCount_0f7a4_8 : decode cJ6_bitCount_0f7a4 8 = .ok (.isub, 1) := by decide +kernel
theorem dJ6_bitCount_0f7a4_9 : decode cJ6_bitCount_0f7a4 9 = .ok (.istore_n 0, 1) := by decide +kernel
theorem dJ6_bitCount_0f7a4_10 : decode cJ6_bitCount_0f7a4 10 = .ok (.iload_n 0, 1) := by decide +kernel
theorem dJ6_bitCount_0f7a4_11 : decode cJ6_bitCount_0f7a4 11 = .ok (.ldc_w 266, 3) := by decide +kernel
theorem dJ6_bitCount_0f7a4_14 : decode cJ6_bitCount_0f7a4 14 = .ok (.iand, 1) := by decide +kernel
theorem dJ6_bitCount_0f7a4_15 : decode cJ6_bitCount_0f7a4 15 = .ok (.iload_n 0, 1) := by decide +kernel
theorem dJ6_bitCount_0f7a4_16 : decode cJ6_bitCount_0f7a4 16 = .ok (.iconst 2, 1) := by decide +kernel
theorem dJ6_bitCount_0f7a4_17 : decode cJ6_bitCount_0f7a4 17 = .ok (.iushr, 1) := by decide +kernel
theorem dJ6_bitCount_0f7a4_18 : decode cJ6_bitCount_0f7a4 18 = .ok (.ldc_w 266, 3) := by decide +kernel
theorem dJ6_bitCount_0f7a4_21 : decode cJ6_bitCount_0f7a4 21 = .ok (.iand, 1) := by decide +kernel
theorem dJ6_bitCount_0f7a4_22 : decode cJ6_bitCount_0f7a4 22 = .ok (.iadd, 1) := by decide +kernel
theorem dJ6_bitCount_0f7a4_23 : decode cJ6_bitCount_0f7a4 23 = .ok (.istore_n 0, 1) := by decide +kernel
theorem dJ6_bitCount_0f7a4_24 : decode cJ6_bitCount_0f7a4 24 = .ok (.iload_n 0, 1) := by decide +kernel
theorem dJ6_bitCount_0f7a4_25 : decode cJ6_bitCount_0f7a4 25 = .ok (.iload_n 0, 1) := by decide +kernel
theorem dJ6_bitCount_0f7a4_26 : decode cJ6_bitCount_0f7a4 26 = .ok (.iconst 4, 1) := by decide +kernel
theorem dJ6_bitCount_0f7a4_27 : decode cJ6_bitCount_0f7a4 27 = .ok (.iushr, 1) := by decide +kernel
theorem dJ6_bitCount_0f7a4_28 : decode cJ6_bitCount_0f7a4 28 = .ok (.iadd, 1) := by decide +kernel
theorem dJ6_bitCount_0f7a4_29 : decode cJ6_bitCount_0f7a4 29 = .ok (.ldc_w 267, 3) := by decide +kernel
theorem dJ6_bitCount_0f7a4_32 : decode cJ6_bitCount_0f7a4 32 = .ok (.iand, 1) := by decide +kernel
theorem dJ6_bitCount_0f7a4_33 : decode cJ6_bitCount_0f7a4 33 = .ok (.istore_n 0, 1) := by decide +kernel
theorem dJ6_bitCount_0f7a4_34 : decode cJ6_bitCount_0f7a4 34 = .ok (.iload_n 0, 1) := by decide +kernel
theorem dJ6_bitCount_0f7a4_35 : decode cJ6_bitCount_0f7a4 35 = .ok (.iload_n 0, 1) := by decide +kernel
theorem dJ6_bitCount_0f7a4_36 : decode cJ6_bitCount_0f7a4 36 = .ok (.bipush 8, 2) := by decide +kernel
theorem dJ6_bitCount_0f7a4_38 : decode cJ6_bitCount_0f7a4 38 = .ok (.iushr, 1) := by decide +kernel
theorem dJ6_bitCount_0f7a4_39 : decode cJ6_bitCount_0f7a4 39 = .ok (.iadd, 1) := by decide +kernel
theorem dJ6_bitCount_0f7a4_40 : decode cJ6_bitCount_0f7a4 40 = .ok (.istore_n 0, 1) := by decide +kernel
theorem dJ6_bitCount_0f7a4_41 : decode cJ6_bitCount_0f7a4 41 = .ok (.iload_n 0, 1) := by decide +kernel
theorem dJ6_bitCount_0f7a4_42 : decode cJ6_bitCount_0f7a4 42 = .ok (.iload_n 0, 1) := by decide +kernel
theorem dJ6_bitCount_0f7a4_43 : decode cJ6_bitCount_0f7a4 43 = .ok (.bipush 16, 2) := by decide +kernel
theorem dJ6_bitCount_0f7a4_45 : decode cJ6_bitCount_0f7a4 45 = .ok (.iushr, 1) := by decide +kernel
