theorem dX3_append_33 : decode cX3_append 33 = .ok (.iadd, 1) := by decide +kernel
theorem dX3_append_34 : decode cX3_append 34 = .ok (.putfield 22, 3) := by decide +kernel
theorem dX3_append_37 : decode cX3_append 37 = .ok (.aload_n 0, 1) := by decide +kernel
theorem dX3_append_38 : decode cX3_append 38 = .ok (.getfield 22, 3) := by decide +kernel
theorem dX3_append_41 : decode cX3_append 41 = .ok (.iconst 1, 1) := by decide +kernel
theorem dX3_append_42 : decode cX3_append 42 = .ok (.isub, 1) := by decide +kernel
theorem dX3_append_43 : decode cX3_append 43 = .ok (.ireturn, 1) := by decide +kernel
theorem dX3_removeAt_0 : decode cX3_removeAt 0 = .ok (.aload_n 0, 1) := by decide +kernel
theorem dX3_removeAt_1 : decode cX3_removeAt 1 = .ok (.iload_n 1, 1) := by decide +kernel
theorem dX3_removeAt_2 : decode cX3_removeAt 2 = .ok (.invokevirtual 26, 3) := by decide +kernel
theorem dX3_removeAt_5 : decode cX3_removeAt 5 = .ok (.ifCond .eq 57, 3) := by decide +kernel
theorem dX3_removeAt_8 : decode cX3_removeAt 8 = .ok (.aload_n 0, 1) := by decide +kernel
theorem dX3_removeAt_9 : decode cX3_removeAt 9 = .ok (.dup, 1) := by decide +kernel
theorem dX3_removeAt_10 : decode cX3_removeAt 10 = .ok (.getfield 22, 3) := by decide +kernel
theorem dX3_removeAt_13 : decode cX3_removeAt 13 = .ok (.iconst 1, 1) := by decide +kernel
theorem dX3_removeAt_14 : decode cX3_removeAt 14 = .ok (.isub, 1) := by decide +kernel
theorem dX3_removeAt_15 : decode cX3_removeAt 15 = .ok (.putfield 22, 3) := by decide +kernel
theorem dX3_removeAt_18 : decode cX3_removeAt 18 = .ok (.iload_n 1, 1) := by decide +kernel
theorem dX3_removeAt_19 : decode cX3_removeAt 19 = .ok (.istore_n 2, 1) := by decide +kernel
theorem dX3_removeAt_20 : decode cX3_removeAt 20 = .ok (.iload_n 2, 1) := by decide +kernel
theorem dX3_removeAt_21 : decode cX3_removeAt 21 = .ok (.aload_n 0, 1) := by decide +kernel
theorem dX3_removeAt_22 : decode cX3_removeAt 22 = .ok (.getfield 22, 3) := by decide +kernel
theorem dX3_removeAt_25 : decode cX3_removeAt 25 = .ok (.if_icmp .ge 37, 3) := by decide +kernel
theorem dX3_removeAt_28 : decode cX3_removeAt 28 = .ok (.aload_n 0, 1) := by decide +kernel
theorem dX3_removeAt_29 : decode cX3_removeAt 29 = .ok (.getfield 13, 3) := by decide +kernel
theorem dX3_removeAt_32 : decode cX3_removeAt 32 = .ok (.iload_n 2, 1) := by decide +kernel
theorem dX3_removeAt_33 : decode cX3_removeAt 33 = .ok (.aload_n 0, 1) := by decide +kernel
theorem dX3_removeAt_34 : decode cX3_removeAt 34 = .ok (.getfield 13, 3) := by decide +kernel
theorem dX3_removeAt_37 : decode cX3_removeAt 37 = .ok (.iload_n 2, 1) := by decide +kernel
theorem dX3_removeAt_38 : decode cX3_removeAt 38 = .ok (.iconst 1, 1) := by decide +kernel
theorem dX3_removeAt_39 : decode cX3_removeAt 39 = .ok (.iadd, 1) := by decide +kernel
theorem dX3_removeAt_40 : decode cX3_removeAt 40 = .ok (.iaload, 1) := by decide +kernel
theorem dX3_removeAt_41 : decode cX3_removeAt 41 = .ok (.iastore, 1) := by decide +kernel
theorem dX3_removeAt_42 : decode cX3_removeAt 42 = .ok (.aload_n 0, 1) := by decide +kernel
theorem dX3_removeAt_43 : decode cX3_removeAt 43 = .ok (.getfield 19, 3) := by decide +kernel
theorem dX3_removeAt_46 : decode cX3_removeAt 46 = .ok (.iload_n 2, 1) := by decide +kernel
theorem dX3_removeAt_47 : decode cX3_removeAt 47 = .ok (.aload_n 0, 1) := by decide +kernel
theorem dX3_removeAt_48 : decode cX3_removeAt 48 = .ok (.getfield 19, 3) := by decide +kernel
theorem dX3_removeAt_51 : decode cX3_removeAt 51 = .ok (.iload_n 2, 1) := by decide +kernel
theorem dX3_removeAt_52 : decode cX3_removeAt 52 = .ok (.iconst 1, 1) := by decide +kernel
theorem dX3_removeAt_53 : decode cX3_removeAt 53 = .ok (.iadd, 1) := by decide +kernel
theorem dX3_removeAt_54 : decode cX3_removeAt 54 = .ok (.iaload, 1) := by decide +kernel
theorem dX3_removeAt_55 : decode cX3_removeAt 55 = .ok (.iastore, 1) := by decide +kernel
theorem dX3_removeAt_56 : decode cX3_removeAt 56 = .ok (.iinc 2 1, 3) := by decide +kernel
theorem dX3_removeAt_59 : decode cX3_removeAt 59 = .ok (.goto (-39), 3) := by decide +kernel
theorem dX3_removeAt_62 : decode cX3_removeAt 62 = .ok (.return_, 1) := by decide +kernel
theorem dX3_clear_0 : decode cX3_clear 0 = .ok (.aload_n 0, 1) := by decide +kernel
theorem dX3_clear_1 : decode cX3_clear 1 = .ok (.iconst 0, 1) := by decide +kernel
theorem dX3_clear_2 : decode cX3_clear 2 = .ok (.putfield 22, 3) := by decide +kernel
theorem dX3_clear_5 : decode cX3_clear 5 = .ok (.return_, 1) := by decide +kernel
theorem dX3_copyFrom_0 : decode cX3_copyFrom 0 = .ok (.aload_n 0, 1) := by decide +kernel
theorem dX3_copyFrom_1 : decode cX3_copyFrom 1 = .ok (.invokevirtual 34, 3) := by decide +kernel
theorem dX3_copyFrom_4 : decode cX3_copyFrom 4 = .ok (.iconst 0, 1) := by decide +kernel
theorem dX3_copyFrom_5 : decode cX3_copyFrom 5 = .ok (.istore_n 2, 1) := by decide +kernel
theorem dX3_copyFrom_6 : decode cX3_copyFrom 6 = .ok (.iload_n 2, 1) := by decide +kernel
theorem dX3_copyFrom_7 : decode cX3_copyFrom 7 = .ok (.aload_n 1, 1) := by decide +kernel
theorem dX3_copyFrom_8 : decode cX3_copyFrom 8 = .ok (.getfield 22, 3) := by decide +kernel
theorem dX3_copyFrom_11 : decode cX3_copyFrom 11 = .ok (.if_icmp .ge 26, 3) := by decide +kernel
theorem dX3_copyFrom_14 : decode cX3_copyFrom 14 = .ok (.aload_n 0, 1) := by decide +kernel
theorem dX3_copyFrom_15 : decode cX3_copyFrom 15 = .ok (.aload_n 1, 1) := by decide +kernel
theorem dX3_copyFrom_16 : decode cX3_copyFrom 16 = .ok (.getfield 13, 3) := by decide +kernel
theorem dX3_copyFrom_19 : decode cX3_copyFrom 19 = .ok (.iload_n 2, 1) := by decide +kernel
theorem dX3_copyFrom_20 : decode cX3_copyFrom 20 = .ok (.iaload, 1) := by decide +kernel
theorem dX3_copyFrom_21 : decode cX3_copyFrom 21 = .ok (.aload_n 1, 1) := by decide +kernel
theorem dX3_copyFrom_22 : decode cX3_copyFrom 22 = .ok (.getfield 19, 3) := by decide +kernel
theorem dX3_copyFrom_25 : decode cX3_copyFrom 25 = .ok (.iload_n 2, 1) := by decide +kernel
theorem dX3_copyFrom_26 : decode cX3_copyFrom 26 = .ok (.iaload, 1) := by decide +kernel
theorem dX3_copyFrom_27 : decode cX3_copyFrom 27 = .ok (.invokevirtual 37, 3) := by decide +kernel
theorem dX3_copyFrom_30 : decode cX3_copyFrom 30 = .ok (.pop, 1) := by decide +kernel
theorem dX3_copyFrom_31 : decode cX3_copyFrom 31 = .ok (.iinc 2 1, 3) := by decide +kernel
theorem dX3_copyFrom_34 : decode cX3_copyFrom 34 = .ok (.goto (-28), 3) := by decide +kernel
theorem dX3_copyFrom_37 : decode cX3_copyFrom 37 = .ok (.return_, 1) := by decide +kernel
theorem dX4_init_0 : decode cX4_init 0 = .ok (.aload_n 0, 1) := by decide +kernel
theorem dX4_init_1 : decode cX4_init 1 = .ok (.invokespecial 3, 3) := by decide +kernel
theorem dX4_init_4 : decode cX4_init 4 = .ok (.aload_n 0, 1) := by decide +kernel
theorem dX4_init_5 : decode cX4_init 5 = .ok (.bipush 9, 2) := by decide +kernel
theorem dX4_init_7 : decode cX4_init 7 = .ok (.newarray .long, 2) := by decide +kernel
theorem dX4_init_9 : decode cX4_init 9 = .ok (.putfield 11, 3) := by decide +kernel
theorem dX4_init_12 : decode cX4_init 12 = .ok (.aload_n 0, 1) := by decide +kernel
theorem dX4_init_13 : decode cX4_init 13 = .ok (.bipush 81, 2) := by decide +kernel
theorem dX4_init_15 : decode cX4_init 15 = .ok (.newarray .long, 2) := by decide +kernel
theorem dX4_init_17 : decode cX4_init 17 = .ok (.putfield 15, 3) := by decide +kernel
theorem dX4_init_20 : decode cX4_init 20 = .ok (.aload_n 0, 1) := by decide +kernel
theorem dX4_init_21 : decode cX4_init 21 = .ok (.iconst 5, 1) := by decide +kernel
theorem dX4_init_22 : decode cX4_init 22 = .ok (.newarray .int, 2) := by decide +kernel
theorem dX4_init_24 : decode cX4_init 24 = .ok (.putfield 18, 3) := by decide +kernel
theorem dX4_init_27 : decode cX4_init 27 = .ok (.aload_n 0, 1) := by decide +kernel
theorem dX4_init_28 : decode cX4_init 28 = .ok (.bipush 32, 2) := by decide +kernel
theorem dX4_init_30 : decode cX4_init 30 = .ok (.newarray .long, 2) := by decide +kernel
theorem dX4_init_32 : decode cX4_init 32 = .ok (.putfield 22, 3) := by decide +kernel
theorem dX4_init_35 : decode cX4_init 35 = .ok (.return_, 1) := by decide +kernel
theorem dX4_gather_0 : decode cX4_gather 0 = .ok (.aload_n 0, 1) := by decide +kernel
theorem dX4_gather_1 : decode cX4_gather 1 = .ok (.getfield 15, 3) := by decide +kernel
theorem dX4_gather_4 : decode cX4_gather 4 = .ok (.lconst 0, 1) := by decide +kernel
theorem dX4_gather_5 : decode cX4_gather 5 = .ok (.invokestatic 25, 3) := by decide +kernel
theorem dX4_gather_8 : decode cX4_gather 8 = .ok (.iconst 0, 1) := by decide +kernel
theorem dX4_gather_9 : decode cX4_gather 9 = .ok (.istore_n 2, 1) := by decide +kernel
theorem dX4_gather_10 : decode cX4_gather 10 = .ok (.iload_n 2, 1) := by decide +kernel
theorem dX4_gather_11 : decode cX4_gather 11 = .ok (.aload_n 1, 1) := by decide +kernel
theorem dX4_gather_12 : decode cX4_gather 12 = .ok (.getfield 31, 3) := by decide +kernel
theorem dX4_gather_15 : decode cX4_gather 15 = .ok (.invokevirtual 37, 3) := by decide +kernel
theorem dX4_gather_18 : decode cX4_gather 18 = .ok (.if_icmp .ge 16, 3) := by decide +kernel
theorem dX4_gather_21 : decode cX4_gather 21 = .ok (.aload_n 0, 1) := by decide +kernel
theorem dX4_gather_22 : decode cX4_gather 22 = .ok (.iload_n 2, 1) := by decide +kernel
theorem dX4_gather_23 : decode cX4_gather 23 = .ok (.aload_n 1, 1) := by decide +kernel
theorem dX4_gather_24 : decode cX4_gather 24 = .ok (.iconst 1, 1) := by decide +kernel
theorem dX4_gather_25 : decode cX4_gather 25 = .ok (.invokevirtual 43, 3) := by decide +kernel
theorem dX4_gather_28 : decode cX4_gather 28 = .ok (.iinc 2 1, 3) := by decide +kernel
theorem dX4_gather_31 : decode cX4_gather 31 = .ok (.goto (-21), 3) := by decide +kernel
theorem dX4_gather_34 : decode cX4_gather 34 = .ok (.return_, 1) := by decide +kernel
theorem dX4_weigh_0 : decode cX4_weigh 0 = .ok (.aload_n 2, 1) := by decide +kernel
theorem dX4_weigh_1 : decode cX4_weigh 1 = .ok (.getfield 31, 3) := by decide +kernel
theorem dX4_weigh_4 : decode cX4_weigh 4 = .ok (.iload_n 1, 1) := by decide +kernel
theorem dX4_weigh_5 : decode cX4_weigh 5 = .ok (.invokevirtual 47, 3) := by decide +kernel
theorem dX4_weigh_8 : decode cX4_weigh 8 = .ok (.istore 4, 2) := by decide +kernel
theorem dX4_weigh_10 : decode cX4_weigh 10 = .ok (.iconst 0, 1) := by decide +kernel
theorem dX4_weigh_11 : decode cX4_weigh 11 = .ok (.istore 5, 2) := by decide +kernel
theorem dX4_weigh_13 : decode cX4_weigh 13 = .ok (.iload 5, 2) := by decide +kernel
theorem dX4_weigh_15 : decode cX4_weigh 15 = .ok (.bipush 8, 2) := by decide +kernel
theorem dX4_weigh_17 : decode cX4_weigh 17 = .ok (.if_icmp .ge 28, 3) := by decide +kernel
theorem dX4_weigh_20 : decode cX4_weigh 20 = .ok (.aload_n 0, 1) := by decide +kernel
theorem dX4_weigh_21 : decode cX4_weigh 21 = .ok (.getfield 11, 3) := by decide +kernel
theorem dX4_weigh_24 : decode cX4_weigh 24 = .ok (.iload 5, 2) := by decide +kernel
theorem dX4_weigh_26 : decode cX4_weigh 26 = .ok (.aload_n 2, 1) := by decide +kernel
theorem dX4_weigh_27 : decode cX4_weigh 27 = .ok (.getfield 51, 3) := by decide +kernel
theorem dX4_weigh_30 : decode cX4_weigh 30 = .ok (.iload 5, 2) := by decide +kernel
theorem dX4_weigh_32 : decode cX4_weigh 32 = .ok (.iload 4, 2) := by decide +kernel
theorem dX4_weigh_34 : decode cX4_weigh 34 = .ok (.invokevirtual 55, 3) := by decide +kernel
theorem dX4_weigh_37 : decode cX4_weigh 37 = .ok (.i2l, 1) := by decide +kernel
theorem dX4_weigh_38 : decode cX4_weigh 38 = .ok (.lastore, 1) := by decide +kernel
theorem dX4_weigh_39 : decode cX4_weigh 39 = .ok (.iinc 5 1, 3) := by decide +kernel
theorem dX4_weigh_42 : decode cX4_weigh 42 = .ok (.goto (-29), 3) := by decide +kernel
theorem dX4_weigh_45 : decode cX4_weigh 45 = .ok (.aload_n 0, 1) := by decide +kernel
theorem dX4_weigh_46 : decode cX4_weigh 46 = .ok (.getfield 11, 3) := by decide +kernel
theorem dX4_weigh_49 : decode cX4_weigh 49 = .ok (.bipush 8, 2) := by decide +kernel
theorem dX4_weigh_51 : decode cX4_weigh 51 = .ok (.aload_n 2, 1) := by decide +kernel
theorem dX4_weigh_52 : decode cX4_weigh 52 = .ok (.getfield 31, 3) := by decide +kernel
theorem dX4_weigh_55 : decode cX4_weigh 55 = .ok (.iload_n 1, 1) := by decide +kernel
theorem dX4_weigh_56 : decode cX4_weigh 56 = .ok (.invokevirtual 61, 3) := by decide +kernel
theorem dX4_weigh_59 : decode cX4_weigh 59 = .ok (.i2l, 1) := by decide +kernel
theorem dX4_weigh_60 : decode cX4_weigh 60 = .ok (.lastore, 1) := by decide +kernel
theorem dX4_weigh_61 : decode cX4_weigh 61 = .ok (.iconst 0, 1) := by decide +kernel
theorem dX4_weigh_62 : decode cX4_weigh 62 = .ok (.istore 5, 2) := by decide +kernel
theorem dX4_weigh_64 : decode cX4_weigh 64 = .ok (.iload 5, 2) := by decide +kernel
theorem dX4_weigh_66 : decode cX4_weigh 66 = .ok (.bipush 9, 2) := by decide +kernel
theorem dX4_weigh_68 : decode cX4_weigh 68 = .ok (.if_icmp .ge 70, 3) := by decide +kernel
theorem dX4_weigh_71 : decode cX4_weigh 71 = .ok (.iload_n 3, 1) := by decide +kernel
theorem dX4_weigh_72 : decode cX4_weigh 72 = .ok (.i2l, 1) := by decide +kernel
theorem dX4_weigh_73 : decode cX4_weigh 73 = .ok (.aload_n 0, 1) := by decide +kernel
theorem dX4_weigh_74 : decode cX4_weigh 74 = .ok (.getfield 11, 3) := by decide +kernel
theorem dX4_weigh_77 : decode cX4_weigh 77 = .ok (.iload 5, 2) := by decide +kernel
theorem dX4_weigh_79 : decode cX4_weigh 79 = .ok (.laload, 1) := by decide +kernel
theorem dX4_weigh_80 : decode cX4_weigh 80 = .ok (.lmul, 1) := by decide +kernel
theorem dX4_weigh_81 : decode cX4_weigh 81 = .ok (.lstore 6, 2) := by decide +kernel
theorem dX4_weigh_83 : decode cX4_weigh 83 = .ok (.iconst 0, 1) := by decide +kernel
theorem dX4_weigh_84 : decode cX4_weigh 84 = .ok (.istore 8, 2) := by decide +kernel
theorem dX4_weigh_86 : decode cX4_weigh 86 = .ok (.lload 6, 2) := by decide +kernel
theorem dX4_weigh_88 : decode cX4_weigh 88 = .ok (.lconst 0, 1) := by decide +kernel
theorem dX4_weigh_89 : decode cX4_weigh 89 = .ok (.lcmp, 1) := by decide +kernel
theorem dX4_weigh_90 : decode cX4_weigh 90 = .ok (.ifCond .eq 42, 3) := by decide +kernel
theorem dX4_weigh_93 : decode cX4_weigh 93 = .ok (.iload 8, 2) := by decide +kernel
theorem dX4_weigh_95 : decode cX4_weigh 95 = .ok (.bipush 9, 2) := by decide +kernel
theorem dX4_weigh_97 : decode cX4_weigh 97 = .ok (.if_icmp .ge 35, 3) := by decide +kernel
theorem dX4_weigh_100 : decode cX4_weigh 100 = .ok (.aload_n 0, 1) := by decide +kernel
theorem dX4_weigh_101 : decode cX4_weigh 101 = .ok (.getfield 15, 3) := by decide +kernel
theorem dX4_weigh_104 : decode cX4_weigh 104 = .ok (.iload 5, 2) := by decide +kernel
theorem dX4_weigh_106 : decode cX4_weigh 106 = .ok (.bipush 9, 2) := by decide +kernel
theorem dX4_weigh_108 : decode cX4_weigh 108 = .ok (.imul, 1) := by decide +kernel
theorem dX4_weigh_109 : decode cX4_weigh 109 = .ok (.iload 8, 2) := by decide +kernel
theorem dX4_weigh_111 : decode cX4_weigh 111 = .ok (.iadd, 1) := by decide +kernel
theorem dX4_weigh_112 : decode cX4_weigh 112 = .ok (.dup2, 1) := by decide +kernel
theorem dX4_weigh_113 : decode cX4_weigh 113 = .ok (.laload, 1) := by decide +kernel
theorem dX4_weigh_114 : decode cX4_weigh 114 = .ok (.lload 6, 2) := by decide +kernel
theorem dX4_weigh_116 : decode cX4_weigh 116 = .ok (.aload_n 0, 1) := by decide +kernel
theorem dX4_weigh_117 : decode cX4_weigh 117 = .ok (.getfield 11, 3) := by decide +kernel
theorem dX4_weigh_120 : decode cX4_weigh 120 = .ok (.iload 8, 2) := by decide +kernel
theorem dX4_weigh_122 : decode cX4_weigh 122 = .ok (.laload, 1) := by decide +kernel
theorem dX4_weigh_123 : decode cX4_weigh 123 = .ok (.lmul, 1) := by decide +kernel
theorem dX4_weigh_124 : decode cX4_weigh 124 = .ok (.ladd, 1) := by decide +kernel
theorem dX4_weigh_125 : decode cX4_weigh 125 = .ok (.lastore, 1) := by decide +kernel
theorem dX4_weigh_126 : decode cX4_weigh 126 = .ok (.iinc 8 1, 3) := by decide +kernel
theorem dX4_weigh_129 : decode cX4_weigh 129 = .ok (.goto (-43), 3) := by decide +kernel
theorem dX4_weigh_132 : decode cX4_weigh 132 = .ok (.iinc 5 1, 3) := by decide +kernel
theorem dX4_weigh_135 : decode cX4_weigh 135 = .ok (.goto (-71), 3) := by decide +kernel
theorem dX4_weigh_138 : decode cX4_weigh 138 = .ok (.return_, 1) := by decide +kernel
theorem dX4_solve_0 : decode cX4_solve 0 = .ok (.aload_n 0, 1) := by decide +kernel
theorem dX4_solve_1 : decode cX4_solve 1 = .ok (.iload_n 1, 1) := by decide +kernel
theorem dX4_solve_2 : decode cX4_solve 2 = .ok (.invokevirtual 64, 3) := by decide +kernel
theorem dX4_solve_5 : decode cX4_solve 5 = .ok (.aload_n 0, 1) := by decide +kernel
theorem dX4_solve_6 : decode cX4_solve 6 = .ok (.getfield 22, 3) := by decide +kernel
theorem dX4_solve_9 : decode cX4_solve 9 = .ok (.iconst 0, 1) := by decide +kernel
theorem dX4_solve_10 : decode cX4_solve 10 = .ok (.lconst 1, 1) := by decide +kernel
theorem dX4_solve_11 : decode cX4_solve 11 = .ok (.lastore, 1) := by decide +kernel
theorem dX4_solve_12 : decode cX4_solve 12 = .ok (.iconst 1, 1) := by decide +kernel
theorem dX4_solve_13 : decode cX4_solve 13 = .ok (.aload_n 0, 1) := by decide +kernel
theorem dX4_solve_14 : decode cX4_solve 14 = .ok (.getfield 68, 3) := by decide +kernel
theorem dX4_solve_17 : decode cX4_solve 17 = .ok (.iconst 1, 1) := by decide +kernel
theorem dX4_solve_18 : decode cX4_solve 18 = .ok (.iadd, 1) := by decide +kernel
theorem dX4_solve_19 : decode cX4_solve 19 = .ok (.ishl, 1) := by decide +kernel
theorem dX4_solve_20 : decode cX4_solve 20 = .ok (.istore_n 2, 1) := by decide +kernel
theorem dX4_solve_21 : decode cX4_solve 21 = .ok (.iconst 1, 1) := by decide +kernel
theorem dX4_solve_22 : decode cX4_solve 22 = .ok (.istore_n 3, 1) := by decide +kernel
theorem dX4_solve_23 : decode cX4_solve 23 = .ok (.iload_n 3, 1) := by decide +kernel
theorem dX4_solve_24 : decode cX4_solve 24 = .ok (.iload_n 2, 1) := by decide +kernel
theorem dX4_solve_25 : decode cX4_solve 25 = .ok (.if_icmp .ge 29, 3) := by decide +kernel
theorem dX4_solve_28 : decode cX4_solve 28 = .ok (.iload_n 3, 1) := by decide +kernel
theorem dX4_solve_29 : decode cX4_solve 29 = .ok (.aload_n 0, 1) := by decide +kernel
theorem dX4_solve_30 : decode cX4_solve 30 = .ok (.getfield 22, 3) := by decide +kernel
theorem dX4_solve_33 : decode cX4_solve 33 = .ok (.arraylength, 1) := by decide +kernel
theorem dX4_solve_34 : decode cX4_solve 34 = .ok (.if_icmp .ge 20, 3) := by decide +kernel
theorem dX4_solve_37 : decode cX4_solve 37 = .ok (.aload_n 0, 1) := by decide +kernel
theorem dX4_solve_38 : decode cX4_solve 38 = .ok (.getfield 22, 3) := by decide +kernel
theorem dX4_solve_41 : decode cX4_solve 41 = .ok (.iload_n 3, 1) := by decide +kernel
theorem dX4_solve_42 : decode cX4_solve 42 = .ok (.aload_n 0, 1) := by decide +kernel
theorem dX4_solve_43 : decode cX4_solve 43 = .ok (.iload_n 3, 1) := by decide +kernel
theorem dX4_solve_44 : decode cX4_solve 44 = .ok (.invokevirtual 72, 3) := by decide +kernel
theorem dX4_solve_47 : decode cX4_solve 47 = .ok (.lastore, 1) := by decide +kernel
theorem dX4_solve_48 : decode cX4_solve 48 = .ok (.iinc 3 1, 3) := by decide +kernel
theorem dX4_solve_51 : decode cX4_solve 51 = .ok (.goto (-28), 3) := by decide +kernel
theorem dX4_solve_54 : decode cX4_solve 54 = .ok (.aload_n 0, 1) := by decide +kernel
theorem dX4_solve_55 : decode cX4_solve 55 = .ok (.invokevirtual 76, 3) := by decide +kernel
theorem dX4_solve_58 : decode cX4_solve 58 = .ok (.lconst 0, 1) := by decide +kernel
theorem dX4_solve_59 : decode cX4_solve 59 = .ok (.lcmp, 1) := by decide +kernel
theorem dX4_solve_60 : decode cX4_solve 60 = .ok (.ifCond .eq 7, 3) := by decide +kernel
theorem dX4_solve_63 : decode cX4_solve 63 = .ok (.iconst 1, 1) := by decide +kernel
theorem dX4_solve_64 : decode cX4_solve 64 = .ok (.goto 4, 3) := by decide +kernel
theorem dX4_solve_67 : decode cX4_solve 67 = .ok (.iconst 0, 1) := by decide +kernel
theorem dX4_solve_68 : decode cX4_solve 68 = .ok (.ireturn, 1) := by decide +kernel
theorem dX4_solveWithout_0 : decode cX4_solveWithout 0 = .ok (.aload_n 0, 1) := by decide +kernel
theorem dX4_solveWithout_1 : decode cX4_solveWithout 1 = .ok (.iload_n 1, 1) := by decide +kernel
theorem dX4_solveWithout_2 : decode cX4_solveWithout 2 = .ok (.aload_n 3, 1) := by decide +kernel
theorem dX4_solveWithout_3 : decode cX4_solveWithout 3 = .ok (.iconst (-1), 1) := by decide +kernel
theorem dX4_solveWithout_4 : decode cX4_solveWithout 4 = .ok (.invokevirtual 43, 3) := by decide +kernel
theorem dX4_solveWithout_7 : decode cX4_solveWithout 7 = .ok (.aload_n 0, 1) := by decide +kernel
theorem dX4_solveWithout_8 : decode cX4_solveWithout 8 = .ok (.iload_n 2, 1) := by decide +kernel
theorem dX4_solveWithout_9 : decode cX4_solveWithout 9 = .ok (.invokevirtual 80, 3) := by decide +kernel
theorem dX4_solveWithout_12 : decode cX4_solveWithout 12 = .ok (.istore 4, 2) := by decide +kernel
theorem dX4_solveWithout_14 : decode cX4_solveWithout 14 = .ok (.aload_n 0, 1) := by decide +kernel
theorem dX4_solveWithout_15 : decode cX4_solveWithout 15 = .ok (.iload_n 1, 1) := by decide +kernel
theorem dX4_solveWithout_16 : decode cX4_solveWithout 16 = .ok (.aload_n 3, 1) := by decide +kernel
theorem dX4_solveWithout_17 : decode cX4_solveWithout 17 = .ok (.iconst 1, 1) := by decide +kernel
theorem dX4_solveWithout_18 : decode cX4_solveWithout 18 = .ok (.invokevirtual 43, 3) := by decide +kernel
theorem dX4_solveWithout_21 : decode cX4_solveWithout 21 = .ok (.iload 4, 2) := by decide +kernel
theorem dX4_solveWithout_23 : decode cX4_solveWithout 23 = .ok (.ireturn, 1) := by decide +kernel
theorem dX4_pickColumns_0 : decode cX4_pickColumns 0 = .ok (.aload_n 0, 1) := by decide +kernel
theorem dX4_pickColumns_1 : decode cX4_pickColumns 1 = .ok (.iconst 0, 1) := by decide +kernel
theorem dX4_pickColumns_2 : decode cX4_pickColumns 2 = .ok (.putfield 68, 3) := by decide +kernel
theorem dX4_pickColumns_5 : decode cX4_pickColumns 5 = .ok (.iconst 0, 1) := by decide +kernel
theorem dX4_pickColumns_6 : decode cX4_pickColumns 6 = .ok (.istore_n 2, 1) := by decide +kernel
theorem dX4_pickColumns_7 : decode cX4_pickColumns 7 = .ok (.iload_n 2, 1) := by decide +kernel
theorem dX4_pickColumns_8 : decode cX4_pickColumns 8 = .ok (.bipush 8, 2) := by decide +kernel
theorem dX4_pickColumns_10 : decode cX4_pickColumns 10 = .ok (.if_icmp .ge 45, 3) := by decide +kernel
theorem dX4_pickColumns_13 : decode cX4_pickColumns 13 = .ok (.aload_n 0, 1) := by decide +kernel
theorem dX4_pickColumns_14 : decode cX4_pickColumns 14 = .ok (.getfield 68, 3) := by decide +kernel
theorem dX4_pickColumns_17 : decode cX4_pickColumns 17 = .ok (.iconst 4, 1) := by decide +kernel
theorem dX4_pickColumns_18 : decode cX4_pickColumns 18 = .ok (.if_icmp .ge 37, 3) := by decide +kernel
theorem dX4_pickColumns_21 : decode cX4_pickColumns 21 = .ok (.iload_n 1, 1) := by decide +kernel
theorem dX4_pickColumns_22 : decode cX4_pickColumns 22 = .ok (.iload_n 2, 1) := by decide +kernel
theorem dX4_pickColumns_23 : decode cX4_pickColumns 23 = .ok (.ishr, 1) := by decide +kernel
theorem dX4_pickColumns_24 : decode cX4_pickColumns 24 = .ok (.iconst 1, 1) := by decide +kernel
theorem dX4_pickColumns_25 : decode cX4_pickColumns 25 = .ok (.iand, 1) := by decide +kernel
theorem dX4_pickColumns_26 : decode cX4_pickColumns 26 = .ok (.ifCond .eq 23, 3) := by decide +kernel
theorem dX4_pickColumns_29 : decode cX4_pickColumns 29 = .ok (.aload_n 0, 1) := by decide +kernel
theorem dX4_pickColumns_30 : decode cX4_pickColumns 30 = .ok (.getfield 18, 3) := by decide +kernel
theorem dX4_pickColumns_33 : decode cX4_pickColumns 33 = .ok (.aload_n 0, 1) := by decide +kernel
theorem dX4_pickColumns_34 : decode cX4_pickColumns 34 = .ok (.getfield 68, 3) := by decide +kernel
theorem dX4_pickColumns_37 : decode cX4_pickColumns 37 = .ok (.iload_n 2, 1) := by decide +kernel
theorem dX4_pickColumns_38 : decode cX4_pickColumns 38 = .ok (.iastore, 1) := by decide +kernel
theorem dX4_pickColumns_39 : decode cX4_pickColumns 39 = .ok (.aload_n 0, 1) := by decide +kernel
theorem dX4_pickColumns_40 : decode cX4_pickColumns 40 = .ok (.dup, 1) := by decide +kernel
theorem dX4_pickColumns_41 : decode cX4_pickColumns 41 = .ok (.getfield 68, 3) := by decide +kernel
theorem dX4_pickColumns_44 : decode cX4_pickColumns 44 = .ok (.iconst 1, 1) := by decide +kernel
theorem dX4_pickColumns_45 : decode cX4_pickColumns 45 = .ok (.iadd, 1) := by decide +kernel
theorem dX4_pickColumns_46 : decode cX4_pickColumns 46 = .ok (.putfield 68, 3) := by decide +kernel
theorem dX4_pickColumns_49 : decode cX4_pickColumns 49 = .ok (.iinc 2 1, 3) := by decide +kernel
theorem dX4_pickColumns_52 : decode cX4_pickColumns 52 = .ok (.goto (-45), 3) := by decide +kernel
theorem dX4_pickColumns_55 : decode cX4_pickColumns 55 = .ok (.aload_n 0, 1) := by decide +kernel
theorem dX4_pickColumns_56 : decode cX4_pickColumns 56 = .ok (.getfield 18, 3) := by decide +kernel
theorem dX4_pickColumns_59 : decode cX4_pickColumns 59 = .ok (.aload_n 0, 1) := by decide +kernel
theorem dX4_pickColumns_60 : decode cX4_pickColumns 60 = .ok (.getfield 68, 3) := by decide +kernel
theorem dX4_pickColumns_63 : decode cX4_pickColumns 63 = .ok (.bipush 8, 2) := by decide +kernel
theorem dX4_pickColumns_65 : decode cX4_pickColumns 65 = .ok (.iastore, 1) := by decide +kernel
theorem dX4_pickColumns_66 : decode cX4_pickColumns 66 = .ok (.return_, 1) := by decide +kernel
theorem dX4_minorOf_0 : decode cX4_minorOf 0 = .ok (.iload_n 1, 1) := by decide +kernel
theorem dX4_minorOf_1 : decode cX4_minorOf 1 = .ok (.invokestatic 84, 3) := by decide +kernel
theorem dX4_minorOf_4 : decode cX4_minorOf 4 = .ok (.istore_n 2, 1) := by decide +kernel
theorem dX4_minorOf_5 : decode cX4_minorOf 5 = .ok (.aload_n 0, 1) := by decide +kernel
theorem dX4_minorOf_6 : decode cX4_minorOf 6 = .ok (.getfield 18, 3) := by decide +kernel
theorem dX4_minorOf_9 : decode cX4_minorOf 9 = .ok (.iload_n 2, 1) := by decide +kernel
theorem dX4_minorOf_10 : decode cX4_minorOf 10 = .ok (.iconst 1, 1) := by decide +kernel
theorem dX4_minorOf_11 : decode cX4_minorOf 11 = .ok (.isub, 1) := by decide +kernel
theorem dX4_minorOf_12 : decode cX4_minorOf 12 = .ok (.iaload, 1) := by decide +kernel
theorem dX4_minorOf_13 : decode cX4_minorOf 13 = .ok (.istore_n 3, 1) := by decide +kernel
theorem dX4_minorOf_14 : decode cX4_minorOf 14 = .ok (.iload_n 2, 1) := by decide +kernel
theorem dX4_minorOf_15 : decode cX4_minorOf 15 = .ok (.iconst 2, 1) := by decide +kernel
theorem dX4_minorOf_16 : decode cX4_minorOf 16 = .ok (.irem, 1) := by decide +kernel
theorem dX4_minorOf_17 : decode cX4_minorOf 17 = .ok (.ifCond .ne 9, 3) := by decide +kernel
theorem dX4_minorOf_20 : decode cX4_minorOf 20 = .ok (.ldc2_w 89, 3) := by decide +kernel
theorem dX4_minorOf_23 : decode cX4_minorOf 23 = .ok (.goto 4, 3) := by decide +kernel
theorem dX4_minorOf_26 : decode cX4_minorOf 26 = .ok (.lconst 1, 1) := by decide +kernel
theorem dX4_minorOf_27 : decode cX4_minorOf 27 = .ok (.lstore 4, 2) := by decide +kernel
theorem dX4_minorOf_29 : decode cX4_minorOf 29 = .ok (.lconst 0, 1) := by decide +kernel
theorem dX4_minorOf_30 : decode cX4_minorOf 30 = .ok (.lstore 6, 2) := by decide +kernel
theorem dX4_minorOf_32 : decode cX4_minorOf 32 = .ok (.iconst 0, 1) := by decide +kernel
theorem dX4_minorOf_33 : decode cX4_minorOf 33 = .ok (.istore 8, 2) := by decide +kernel
theorem dX4_minorOf_35 : decode cX4_minorOf 35 = .ok (.iload 8, 2) := by decide +kernel
theorem dX4_minorOf_37 : decode cX4_minorOf 37 = .ok (.aload_n 0, 1) := by decide +kernel
theorem dX4_minorOf_38 : decode cX4_minorOf 38 = .ok (.getfield 68, 3) := by decide +kernel
theorem dX4_minorOf_41 : decode cX4_minorOf 41 = .ok (.if_icmp .gt 62, 3) := by decide +kernel
theorem dX4_minorOf_44 : decode cX4_minorOf 44 = .ok (.iconst 1, 1) := by decide +kernel
theorem dX4_minorOf_45 : decode cX4_minorOf 45 = .ok (.iload 8, 2) := by decide +kernel
theorem dX4_minorOf_47 : decode cX4_minorOf 47 = .ok (.ishl, 1) := by decide +kernel
theorem dX4_minorOf_48 : decode cX4_minorOf 48 = .ok (.istore 9, 2) := by decide +kernel
theorem dX4_minorOf_50 : decode cX4_minorOf 50 = .ok (.iload_n 1, 1) := by decide +kernel
theorem dX4_minorOf_51 : decode cX4_minorOf 51 = .ok (.iload 9, 2) := by decide +kernel
theorem dX4_minorOf_53 : decode cX4_minorOf 53 = .ok (.iand, 1) := by decide +kernel
theorem dX4_minorOf_54 : decode cX4_minorOf 54 = .ok (.ifCond .eq 43, 3) := by decide +kernel
theorem dX4_minorOf_57 : decode cX4_minorOf 57 = .ok (.lload 6, 2) := by decide +kernel
theorem dX4_minorOf_59 : decode cX4_minorOf 59 = .ok (.lload 4, 2) := by decide +kernel
theorem dX4_minorOf_61 : decode cX4_minorOf 61 = .ok (.aload_n 0, 1) := by decide +kernel
theorem dX4_minorOf_62 : decode cX4_minorOf 62 = .ok (.getfield 15, 3) := by decide +kernel
theorem dX4_minorOf_65 : decode cX4_minorOf 65 = .ok (.iload_n 3, 1) := by decide +kernel
theorem dX4_minorOf_66 : decode cX4_minorOf 66 = .ok (.bipush 9, 2) := by decide +kernel
theorem dX4_minorOf_68 : decode cX4_minorOf 68 = .ok (.imul, 1) := by decide +kernel
theorem dX4_minorOf_69 : decode cX4_minorOf 69 = .ok (.aload_n 0, 1) := by decide +kernel
theorem dX4_minorOf_70 : decode cX4_minorOf 70 = .ok (.getfield 18, 3) := by decide +kernel
theorem dX4_minorOf_73 : decode cX4_minorOf 73 = .ok (.iload 8, 2) := by decide +kernel
theorem dX4_minorOf_75 : decode cX4_minorOf 75 = .ok (.iaload, 1) := by decide +kernel
theorem dX4_minorOf_76 : decode cX4_minorOf 76 = .ok (.iadd, 1) := by decide +kernel
theorem dX4_minorOf_77 : decode cX4_minorOf 77 = .ok (.laload, 1) := by decide +kernel
theorem dX4_minorOf_78 : decode cX4_minorOf 78 = .ok (.lmul, 1) := by decide +kernel
theorem dX4_minorOf_79 : decode cX4_minorOf 79 = .ok (.aload_n 0, 1) := by decide +kernel
theorem dX4_minorOf_80 : decode cX4_minorOf 80 = .ok (.getfield 22, 3) := by decide +kernel
theorem dX4_minorOf_83 : decode cX4_minorOf 83 = .ok (.iload_n 1, 1) := by decide +kernel
theorem dX4_minorOf_84 : decode cX4_minorOf 84 = .ok (.iload 9, 2) := by decide +kernel
theorem dX4_minorOf_86 : decode cX4_minorOf 86 = .ok (.ixor, 1) := by decide +kernel
theorem dX4_minorOf_87 : decode cX4_minorOf 87 = .ok (.laload, 1) := by decide +kernel
theorem dX4_minorOf_88 : decode cX4_minorOf 88 = .ok (.lmul, 1) := by decide +kernel
theorem dX4_minorOf_89 : decode cX4_minorOf 89 = .ok (.ladd, 1) := by decide +kernel
theorem dX4_minorOf_90 : decode cX4_minorOf 90 = .ok (.lstore 6, 2) := by decide +kernel
theorem dX4_minorOf_92 : decode cX4_minorOf 92 = .ok (.lload 4, 2) := by decide +kernel
theorem dX4_minorOf_94 : decode cX4_minorOf 94 = .ok (.lneg, 1) := by decide +kernel
theorem dX4_minorOf_95 : decode cX4_minorOf 95 = .ok (.lstore 4, 2) := by decide +kernel
theorem dX4_minorOf_97 : decode cX4_minorOf 97 = .ok (.iinc 8 1, 3) := by decide +kernel
theorem dX4_minorOf_100 : decode cX4_minorOf 100 = .ok (.goto (-65), 3) := by decide +kernel
theorem dX4_minorOf_103 : decode cX4_minorOf 103 = .ok (.lload 6, 2) := by decide +kernel
theorem dX4_minorOf_105 : decode cX4_minorOf 105 = .ok (.lreturn, 1) := by decide +kernel
theorem dX4_below_0 : decode cX4_below 0 = .ok (.aload_n 0, 1) := by decide +kernel
theorem dX4_below_1 : decode cX4_below 1 = .ok (.getfield 22, 3) := by decide +kernel
theorem dX4_below_4 : decode cX4_below 4 = .ok (.iconst 1, 1) := by decide +kernel
theorem dX4_below_5 : decode cX4_below 5 = .ok (.aload_n 0, 1) := by decide +kernel
theorem dX4_below_6 : decode cX4_below 6 = .ok (.getfield 68, 3) := by decide +kernel
theorem dX4_below_9 : decode cX4_below 9 = .ok (.ishl, 1) := by decide +kernel
theorem dX4_below_10 : decode cX4_below 10 = .ok (.iconst 1, 1) := by decide +kernel
theorem dX4_below_11 : decode cX4_below 11 = .ok (.isub, 1) := by decide +kernel
theorem dX4_below_12 : decode cX4_below 12 = .ok (.laload, 1) := by decide +kernel
theorem dX4_below_13 : decode cX4_below 13 = .ok (.lreturn, 1) := by decide +kernel
theorem dX4_squares_0 : decode cX4_squares 0 = .ok (.aload_n 0, 1) := by decide +kernel
theorem dX4_squares_1 : decode cX4_squares 1 = .ok (.getfield 22, 3) := by decide +kernel
theorem dX4_squares_4 : decode cX4_squares 4 = .ok (.iconst 1, 1) := by decide +kernel
theorem dX4_squares_5 : decode cX4_squares 5 = .ok (.aload_n 0, 1) := by decide +kernel
theorem dX4_squares_6 : decode cX4_squares 6 = .ok (.getfield 68, 3) := by decide +kernel
theorem dX4_squares_9 : decode cX4_squares 9 = .ok (.iconst 1, 1) := by decide +kernel
theorem dX4_squares_10 : decode cX4_squares 10 = .ok (.iadd, 1) := by decide +kernel
theorem dX4_squares_11 : decode cX4_squares 11 = .ok (.ishl, 1) := by decide +kernel
theorem dX4_squares_12 : decode cX4_squares 12 = .ok (.iconst 1, 1) := by decide +kernel
theorem dX4_squares_13 : decode cX4_squares 13 = .ok (.isub, 1) := by decide +kernel
theorem dX4_squares_14 : decode cX4_squares 14 = .ok (.laload, 1) := by decide +kernel
theorem dX4_squares_15 : decode cX4_squares 15 = .ok (.lreturn, 1) := by decide +kernel
theorem dX4_above_0 : decode cX4_above 0 = .ok (.iload_n 1, 1) := by decide +kernel
theorem dX4_above_1 : decode cX4_above 1 = .ok (.ifCond .lt 11, 3) := by decide +kernel
theorem dX4_above_4 : decode cX4_above 4 = .ok (.iload_n 1, 1) := by decide +kernel
theorem dX4_above_5 : decode cX4_above 5 = .ok (.aload_n 0, 1) := by decide +kernel
theorem dX4_above_6 : decode cX4_above 6 = .ok (.getfield 68, 3) := by decide +kernel
theorem dX4_above_9 : decode cX4_above 9 = .ok (.if_icmp .lt 5, 3) := by decide +kernel
theorem dX4_above_12 : decode cX4_above 12 = .ok (.lconst 0, 1) := by decide +kernel
theorem dX4_above_13 : decode cX4_above 13 = .ok (.lreturn, 1) := by decide +kernel
theorem dX4_above_14 : decode cX4_above 14 = .ok (.aload_n 0, 1) := by decide +kernel
theorem dX4_above_15 : decode cX4_above 15 = .ok (.getfield 22, 3) := by decide +kernel
theorem dX4_above_18 : decode cX4_above 18 = .ok (.iconst 1, 1) := by decide +kernel
theorem dX4_above_19 : decode cX4_above 19 = .ok (.aload_n 0, 1) := by decide +kernel
theorem dX4_above_20 : decode cX4_above 20 = .ok (.getfield 68, 3) := by decide +kernel
theorem dX4_above_23 : decode cX4_above 23 = .ok (.iconst 1, 1) := by decide +kernel
theorem dX4_above_24 : decode cX4_above 24 = .ok (.iadd, 1) := by decide +kernel
theorem dX4_above_25 : decode cX4_above 25 = .ok (.ishl, 1) := by decide +kernel
theorem dX4_above_26 : decode cX4_above 26 = .ok (.iconst 1, 1) := by decide +kernel
theorem dX4_above_27 : decode cX4_above 27 = .ok (.isub, 1) := by decide +kernel
theorem dX4_above_28 : decode cX4_above 28 = .ok (.iconst 1, 1) := by decide +kernel
theorem dX4_above_29 : decode cX4_above 29 = .ok (.iload_n 1, 1) := by decide +kernel
theorem dX4_above_30 : decode cX4_above 30 = .ok (.ishl, 1) := by decide +kernel
theorem dX4_above_31 : decode cX4_above 31 = .ok (.ixor, 1) := by decide +kernel
theorem dX4_above_32 : decode cX4_above 32 = .ok (.laload, 1) := by decide +kernel
theorem dX4_above_33 : decode cX4_above 33 = .ok (.lstore_n 2, 1) := by decide +kernel
theorem dX4_above_34 : decode cX4_above 34 = .ok (.aload_n 0, 1) := by decide +kernel
theorem dX4_above_35 : decode cX4_above 35 = .ok (.getfield 68, 3) := by decide +kernel
theorem dX4_above_38 : decode cX4_above 38 = .ok (.iconst 1, 1) := by decide +kernel
theorem dX4_above_39 : decode cX4_above 39 = .ok (.isub, 1) := by decide +kernel
theorem dX4_above_40 : decode cX4_above 40 = .ok (.iload_n 1, 1) := by decide +kernel
theorem dX4_above_41 : decode cX4_above 41 = .ok (.isub, 1) := by decide +kernel
theorem dX4_above_42 : decode cX4_above 42 = .ok (.iconst 2, 1) := by decide +kernel
theorem dX4_above_43 : decode cX4_above 43 = .ok (.irem, 1) := by decide +kernel
theorem dX4_above_44 : decode cX4_above 44 = .ok (.ifCond .ne 7, 3) := by decide +kernel
theorem dX4_above_47 : decode cX4_above 47 = .ok (.lload_n 2, 1) := by decide +kernel
theorem dX4_above_48 : decode cX4_above 48 = .ok (.goto 5, 3) := by decide +kernel
theorem dX4_above_51 : decode cX4_above 51 = .ok (.lload_n 2, 1) := by decide +kernel
theorem dX4_above_52 : decode cX4_above 52 = .ok (.lneg, 1) := by decide +kernel
theorem dX4_above_53 : decode cX4_above 53 = .ok (.lreturn, 1) := by decide +kernel
theorem dX4_looseOf_0 : decode cX4_looseOf 0 = .ok (.iconst 0, 1) := by decide +kernel
theorem dX4_looseOf_1 : decode cX4_looseOf 1 = .ok (.istore_n 2, 1) := by decide +kernel
theorem dX4_looseOf_2 : decode cX4_looseOf 2 = .ok (.iload_n 1, 1) := by decide +kernel
theorem dX4_looseOf_3 : decode cX4_looseOf 3 = .ok (.istore_n 3, 1) := by decide +kernel
theorem dX4_looseOf_4 : decode cX4_looseOf 4 = .ok (.iconst 1, 1) := by decide +kernel
theorem dX4_looseOf_5 : decode cX4_looseOf 5 = .ok (.istore 4, 2) := by decide +kernel
theorem dX4_looseOf_7 : decode cX4_looseOf 7 = .ok (.iload 4, 2) := by decide +kernel
theorem dX4_looseOf_9 : decode cX4_looseOf 9 = .ok (.iload_n 1, 1) := by decide +kernel
theorem dX4_looseOf_10 : decode cX4_looseOf 10 = .ok (.if_icmp .gt 75, 3) := by decide +kernel
theorem dX4_looseOf_13 : decode cX4_looseOf 13 = .ok (.iload 4, 2) := by decide +kernel
theorem dX4_looseOf_15 : decode cX4_looseOf 15 = .ok (.sipush 256, 3) := by decide +kernel
theorem dX4_looseOf_18 : decode cX4_looseOf 18 = .ok (.if_icmp .ge 67, 3) := by decide +kernel
theorem dX4_looseOf_21 : decode cX4_looseOf 21 = .ok (.iload 4, 2) := by decide +kernel
theorem dX4_looseOf_23 : decode cX4_looseOf 23 = .ok (.invokestatic 84, 3) := by decide +kernel
theorem dX4_looseOf_26 : decode cX4_looseOf 26 = .ok (.istore 5, 2) := by decide +kernel
theorem dX4_looseOf_28 : decode cX4_looseOf 28 = .ok (.iload 4, 2) := by decide +kernel
theorem dX4_looseOf_30 : decode cX4_looseOf 30 = .ok (.iload_n 1, 1) := by decide +kernel
theorem dX4_looseOf_31 : decode cX4_looseOf 31 = .ok (.iconst (-1), 1) := by decide +kernel
theorem dX4_looseOf_32 : decode cX4_looseOf 32 = .ok (.ixor, 1) := by decide +kernel
theorem dX4_looseOf_33 : decode cX4_looseOf 33 = .ok (.iand, 1) := by decide +kernel
theorem dX4_looseOf_34 : decode cX4_looseOf 34 = .ok (.ifCond .ne 45, 3) := by decide +kernel
theorem dX4_looseOf_37 : decode cX4_looseOf 37 = .ok (.iload 5, 2) := by decide +kernel
theorem dX4_looseOf_39 : decode cX4_looseOf 39 = .ok (.iload_n 2, 1) := by decide +kernel
theorem dX4_looseOf_40 : decode cX4_looseOf 40 = .ok (.if_icmp .lt 39, 3) := by decide +kernel
theorem dX4_looseOf_43 : decode cX4_looseOf 43 = .ok (.aload_n 0, 1) := by decide +kernel
theorem dX4_looseOf_44 : decode cX4_looseOf 44 = .ok (.iload 4, 2) := by decide +kernel
theorem dX4_looseOf_46 : decode cX4_looseOf 46 = .ok (.invokevirtual 80, 3) := by decide +kernel
theorem dX4_looseOf_49 : decode cX4_looseOf 49 = .ok (.ifCond .eq 30, 3) := by decide +kernel
theorem dX4_looseOf_52 : decode cX4_looseOf 52 = .ok (.iload_n 1, 1) := by decide +kernel
theorem dX4_looseOf_53 : decode cX4_looseOf 53 = .ok (.iload 4, 2) := by decide +kernel
theorem dX4_looseOf_55 : decode cX4_looseOf 55 = .ok (.iconst (-1), 1) := by decide +kernel
theorem dX4_looseOf_56 : decode cX4_looseOf 56 = .ok (.ixor, 1) := by decide +kernel
theorem dX4_looseOf_57 : decode cX4_looseOf 57 = .ok (.iand, 1) := by decide +kernel
theorem dX4_looseOf_58 : decode cX4_looseOf 58 = .ok (.istore 6, 2) := by decide +kernel
theorem dX4_looseOf_60 : decode cX4_looseOf 60 = .ok (.iload 5, 2) := by decide +kernel
theorem dX4_looseOf_62 : decode cX4_looseOf 62 = .ok (.iload_n 2, 1) := by decide +kernel
theorem dX4_looseOf_63 : decode cX4_looseOf 63 = .ok (.if_icmp .le 8, 3) := by decide +kernel
theorem dX4_looseOf_66 : decode cX4_looseOf 66 = .ok (.iload 6, 2) := by decide +kernel
theorem dX4_looseOf_68 : decode cX4_looseOf 68 = .ok (.goto 7, 3) := by decide +kernel
theorem dX4_looseOf_71 : decode cX4_looseOf 71 = .ok (.iload_n 3, 1) := by decide +kernel
theorem dX4_looseOf_72 : decode cX4_looseOf 72 = .ok (.iload 6, 2) := by decide +kernel
theorem dX4_looseOf_74 : decode cX4_looseOf 74 = .ok (.ior, 1) := by decide +kernel
theorem dX4_looseOf_75 : decode cX4_looseOf 75 = .ok (.istore_n 3, 1) := by decide +kernel
theorem dX4_looseOf_76 : decode cX4_looseOf 76 = .ok (.iload 5, 2) := by decide +kernel
theorem dX4_looseOf_78 : decode cX4_looseOf 78 = .ok (.istore_n 2, 1) := by decide +kernel
theorem dX4_looseOf_79 : decode cX4_looseOf 79 = .ok (.iinc 4 1, 3) := by decide +kernel
theorem dX4_looseOf_82 : decode cX4_looseOf 82 = .ok (.goto (-75), 3) := by decide +kernel
theorem dX4_looseOf_85 : decode cX4_looseOf 85 = .ok (.iload_n 3, 1) := by decide +kernel
theorem dX4_looseOf_86 : decode cX4_looseOf 86 = .ok (.ireturn, 1) := by decide +kernel
theorem dX4_fewestOf_0 : decode cX4_fewestOf 0 = .ok (.iconst 0, 1) := by decide +kernel
theorem dX4_fewestOf_1 : decode cX4_fewestOf 1 = .ok (.istore_n 3, 1) := by decide +kernel
theorem dX4_fewestOf_2 : decode cX4_fewestOf 2 = .ok (.lconst 0, 1) := by decide +kernel
theorem dX4_fewestOf_3 : decode cX4_fewestOf 3 = .ok (.lstore 4, 2) := by decide +kernel
theorem dX4_fewestOf_5 : decode cX4_fewestOf 5 = .ok (.lconst 1, 1) := by decide +kernel
theorem dX4_fewestOf_6 : decode cX4_fewestOf 6 = .ok (.lstore 6, 2) := by decide +kernel
theorem dX4_fewestOf_8 : decode cX4_fewestOf 8 = .ok (.iconst 1, 1) := by decide +kernel
theorem dX4_fewestOf_9 : decode cX4_fewestOf 9 = .ok (.istore 8, 2) := by decide +kernel
theorem dX4_fewestOf_11 : decode cX4_fewestOf 11 = .ok (.iload 8, 2) := by decide +kernel
theorem dX4_fewestOf_13 : decode cX4_fewestOf 13 = .ok (.iload_n 2, 1) := by decide +kernel
theorem dX4_fewestOf_14 : decode cX4_fewestOf 14 = .ok (.if_icmp .gt 94, 3) := by decide +kernel
theorem dX4_fewestOf_17 : decode cX4_fewestOf 17 = .ok (.iload 8, 2) := by decide +kernel
theorem dX4_fewestOf_19 : decode cX4_fewestOf 19 = .ok (.iconst 3, 1) := by decide +kernel
theorem dX4_fewestOf_20 : decode cX4_fewestOf 20 = .ok (.if_icmp .gt 88, 3) := by decide +kernel
theorem dX4_fewestOf_23 : decode cX4_fewestOf 23 = .ok (.iconst 1, 1) := by decide +kernel
theorem dX4_fewestOf_24 : decode cX4_fewestOf 24 = .ok (.istore 9, 2) := by decide +kernel
theorem dX4_fewestOf_26 : decode cX4_fewestOf 26 = .ok (.iload 9, 2) := by decide +kernel
theorem dX4_fewestOf_28 : decode cX4_fewestOf 28 = .ok (.iload_n 1, 1) := by decide +kernel
theorem dX4_fewestOf_29 : decode cX4_fewestOf 29 = .ok (.if_icmp .gt 73, 3) := by decide +kernel
theorem dX4_fewestOf_32 : decode cX4_fewestOf 32 = .ok (.iload 9, 2) := by decide +kernel
theorem dX4_fewestOf_34 : decode cX4_fewestOf 34 = .ok (.sipush 256, 3) := by decide +kernel
theorem dX4_fewestOf_37 : decode cX4_fewestOf 37 = .ok (.if_icmp .ge 65, 3) := by decide +kernel
theorem dX4_fewestOf_40 : decode cX4_fewestOf 40 = .ok (.iload 9, 2) := by decide +kernel
theorem dX4_fewestOf_42 : decode cX4_fewestOf 42 = .ok (.invokestatic 84, 3) := by decide +kernel
theorem dX4_fewestOf_45 : decode cX4_fewestOf 45 = .ok (.iload 8, 2) := by decide +kernel
theorem dX4_fewestOf_47 : decode cX4_fewestOf 47 = .ok (.if_icmp .ne 49, 3) := by decide +kernel
theorem dX4_fewestOf_50 : decode cX4_fewestOf 50 = .ok (.aload_n 0, 1) := by decide +kernel
theorem dX4_fewestOf_51 : decode cX4_fewestOf 51 = .ok (.iload 9, 2) := by decide +kernel
theorem dX4_fewestOf_53 : decode cX4_fewestOf 53 = .ok (.invokevirtual 80, 3) := by decide +kernel
theorem dX4_fewestOf_56 : decode cX4_fewestOf 56 = .ok (.ifCond .eq 40, 3) := by decide +kernel
theorem dX4_fewestOf_59 : decode cX4_fewestOf 59 = .ok (.iload_n 3, 1) := by decide +kernel
theorem dX4_fewestOf_60 : decode cX4_fewestOf 60 = .ok (.ifCond .eq 21, 3) := by decide +kernel
theorem dX4_fewestOf_63 : decode cX4_fewestOf 63 = .ok (.aload_n 0, 1) := by decide +kernel
theorem dX4_fewestOf_64 : decode cX4_fewestOf 64 = .ok (.invokevirtual 91, 3) := by decide +kernel
theorem dX4_fewestOf_67 : decode cX4_fewestOf 67 = .ok (.aload_n 0, 1) := by decide +kernel
theorem dX4_fewestOf_68 : decode cX4_fewestOf 68 = .ok (.invokevirtual 76, 3) := by decide +kernel
theorem dX4_fewestOf_71 : decode cX4_fewestOf 71 = .ok (.lload 4, 2) := by decide +kernel
theorem dX4_fewestOf_73 : decode cX4_fewestOf 73 = .ok (.lload 6, 2) := by decide +kernel
theorem dX4_fewestOf_75 : decode cX4_fewestOf 75 = .ok (.invokestatic 94, 3) := by decide +kernel
theorem dX4_fewestOf_78 : decode cX4_fewestOf 78 = .ok (.ifCond .ge 18, 3) := by decide +kernel
theorem dX4_fewestOf_81 : decode cX4_fewestOf 81 = .ok (.iload 9, 2) := by decide +kernel
theorem dX4_fewestOf_83 : decode cX4_fewestOf 83 = .ok (.istore_n 3, 1) := by decide +kernel
theorem dX4_fewestOf_84 : decode cX4_fewestOf 84 = .ok (.aload_n 0, 1) := by decide +kernel
theorem dX4_fewestOf_85 : decode cX4_fewestOf 85 = .ok (.invokevirtual 91, 3) := by decide +kernel
theorem dX4_fewestOf_88 : decode cX4_fewestOf 88 = .ok (.lstore 4, 2) := by decide +kernel
theorem dX4_fewestOf_90 : decode cX4_fewestOf 90 = .ok (.aload_n 0, 1) := by decide +kernel
theorem dX4_fewestOf_91 : decode cX4_fewestOf 91 = .ok (.invokevirtual 76, 3) := by decide +kernel
theorem dX4_fewestOf_94 : decode cX4_fewestOf 94 = .ok (.lstore 6, 2) := by decide +kernel
theorem dX4_fewestOf_96 : decode cX4_fewestOf 96 = .ok (.iinc 9 1, 3) := by decide +kernel
theorem dX4_fewestOf_99 : decode cX4_fewestOf 99 = .ok (.goto (-73), 3) := by decide +kernel
theorem dX4_fewestOf_102 : decode cX4_fewestOf 102 = .ok (.iinc 8 1, 3) := by decide +kernel
theorem dX4_fewestOf_105 : decode cX4_fewestOf 105 = .ok (.goto (-94), 3) := by decide +kernel
theorem dX4_fewestOf_108 : decode cX4_fewestOf 108 = .ok (.iload_n 3, 1) := by decide +kernel
theorem dX4_fewestOf_109 : decode cX4_fewestOf 109 = .ok (.ireturn, 1) := by decide +kernel
theorem dX5_init_0 : decode cX5_init 0 = .ok (.aload_n 0, 1) := by decide +kernel
theorem dX5_init_1 : decode cX5_init 1 = .ok (.invokespecial 3, 3) := by decide +kernel
theorem dX5_init_4 : decode cX5_init 4 = .ok (.aload_n 0, 1) := by decide +kernel
theorem dX5_init_5 : decode cX5_init 5 = .ok (.iconst 3, 1) := by decide +kernel
theorem dX5_init_6 : decode cX5_init 6 = .ok (.newarray .int, 2) := by decide +kernel
theorem dX5_init_8 : decode cX5_init 8 = .ok (.putfield 11, 3) := by decide +kernel
theorem dX5_init_11 : decode cX5_init 11 = .ok (.aload_n 0, 1) := by decide +kernel
theorem dX5_init_12 : decode cX5_init 12 = .ok (.iconst 3, 1) := by decide +kernel
theorem dX5_init_13 : decode cX5_init 13 = .ok (.bipush 36, 2) := by decide +kernel
theorem dX5_init_15 : decode cX5_init 15 = .ok (.multianewarray 15 2, 4) := by decide +kernel
theorem dX5_init_19 : decode cX5_init 19 = .ok (.putfield 17, 3) := by decide +kernel
theorem dX5_init_22 : decode cX5_init 22 = .ok (.aload_n 0, 1) := by decide +kernel
theorem dX5_init_23 : decode cX5_init 23 = .ok (.getfield 11, 3) := by decide +kernel
theorem dX5_init_26 : decode cX5_init 26 = .ok (.iconst (-1), 1) := by decide +kernel
theorem dX5_init_27 : decode cX5_init 27 = .ok (.invokestatic 20, 3) := by decide +kernel
theorem dX5_init_30 : decode cX5_init 30 = .ok (.return_, 1) := by decide +kernel
theorem dX5_isSheet_0 : decode cX5_isSheet 0 = .ok (.iload_n 0, 1) := by decide +kernel
theorem dX5_isSheet_1 : decode cX5_isSheet 1 = .ok (.iconst 0, 1) := by decide +kernel
theorem dX5_isSheet_2 : decode cX5_isSheet 2 = .ok (.iconst 2, 1) := by decide +kernel
theorem dX5_isSheet_3 : decode cX5_isSheet 3 = .ok (.invokestatic 26, 3) := by decide +kernel
theorem dX5_isSheet_6 : decode cX5_isSheet 6 = .ok (.ireturn, 1) := by decide +kernel
theorem dX5_placesOf_0 : decode cX5_placesOf 0 = .ok (.iload_n 1, 1) := by decide +kernel
theorem dX5_placesOf_1 : decode cX5_placesOf 1 = .ok (.invokestatic 32, 3) := by decide +kernel
theorem dX5_placesOf_4 : decode cX5_placesOf 4 = .ok (.ifCond .eq 12, 3) := by decide +kernel
theorem dX5_placesOf_7 : decode cX5_placesOf 7 = .ok (.aload_n 0, 1) := by decide +kernel
theorem dX5_placesOf_8 : decode cX5_placesOf 8 = .ok (.getfield 11, 3) := by decide +kernel
theorem dX5_placesOf_11 : decode cX5_placesOf 11 = .ok (.iload_n 1, 1) := by decide +kernel
theorem dX5_placesOf_12 : decode cX5_placesOf 12 = .ok (.iaload, 1) := by decide +kernel
theorem dX5_placesOf_13 : decode cX5_placesOf 13 = .ok (.goto 4, 3) := by decide +kernel
theorem dX5_placesOf_16 : decode cX5_placesOf 16 = .ok (.iconst (-1), 1) := by decide +kernel
theorem dX5_placesOf_17 : decode cX5_placesOf 17 = .ok (.ireturn, 1) := by decide +kernel
theorem dX5_isMissing_0 : decode cX5_isMissing 0 = .ok (.aload_n 0, 1) := by decide +kernel
theorem dX5_isMissing_1 : decode cX5_isMissing 1 = .ok (.iload_n 1, 1) := by decide +kernel
theorem dX5_isMissing_2 : decode cX5_isMissing 2 = .ok (.invokevirtual 36, 3) := by decide +kernel
theorem dX5_isMissing_5 : decode cX5_isMissing 5 = .ok (.iconst (-1), 1) := by decide +kernel
theorem dX5_isMissing_6 : decode cX5_isMissing 6 = .ok (.if_icmp .ne 7, 3) := by decide +kernel
theorem dX5_isMissing_9 : decode cX5_isMissing 9 = .ok (.iconst 1, 1) := by decide +kernel
theorem dX5_isMissing_10 : decode cX5_isMissing 10 = .ok (.goto 4, 3) := by decide +kernel
theorem dX5_isMissing_13 : decode cX5_isMissing 13 = .ok (.iconst 0, 1) := by decide +kernel
theorem dX5_isMissing_14 : decode cX5_isMissing 14 = .ok (.ireturn, 1) := by decide +kernel
theorem dX5_hasPlace_0 : decode cX5_hasPlace 0 = .ok (.iload_n 2, 1) := by decide +kernel
theorem dX5_hasPlace_1 : decode cX5_hasPlace 1 = .ok (.ifCond .lt 22, 3) := by decide +kernel
theorem dX5_hasPlace_4 : decode cX5_hasPlace 4 = .ok (.iload_n 2, 1) := by decide +kernel
theorem dX5_hasPlace_5 : decode cX5_hasPlace 5 = .ok (.aload_n 0, 1) := by decide +kernel
theorem dX5_hasPlace_6 : decode cX5_hasPlace 6 = .ok (.iload_n 1, 1) := by decide +kernel
theorem dX5_hasPlace_7 : decode cX5_hasPlace 7 = .ok (.invokevirtual 36, 3) := by decide +kernel
theorem dX5_hasPlace_10 : decode cX5_hasPlace 10 = .ok (.if_icmp .ge 13, 3) := by decide +kernel
theorem dX5_hasPlace_13 : decode cX5_hasPlace 13 = .ok (.iload_n 2, 1) := by decide +kernel
theorem dX5_hasPlace_14 : decode cX5_hasPlace 14 = .ok (.bipush 36, 2) := by decide +kernel
theorem dX5_hasPlace_16 : decode cX5_hasPlace 16 = .ok (.if_icmp .ge 7, 3) := by decide +kernel
theorem dX5_hasPlace_19 : decode cX5_hasPlace 19 = .ok (.iconst 1, 1) := by decide +kernel
theorem dX5_hasPlace_20 : decode cX5_hasPlace 20 = .ok (.goto 4, 3) := by decide +kernel
theorem dX5_hasPlace_23 : decode cX5_hasPlace 23 = .ok (.iconst 0, 1) := by decide +kernel
theorem dX5_hasPlace_24 : decode cX5_hasPlace 24 = .ok (.ireturn, 1) := by decide +kernel
theorem dX5_layOut_0 : decode cX5_layOut 0 = .ok (.iload_n 1, 1) := by decide +kernel
theorem dX5_layOut_1 : decode cX5_layOut 1 = .ok (.invokestatic 32, 3) := by decide +kernel
theorem dX5_layOut_4 : decode cX5_layOut 4 = .ok (.ifCond .eq 32, 3) := by decide +kernel
theorem dX5_layOut_7 : decode cX5_layOut 7 = .ok (.iload_n 2, 1) := by decide +kernel
theorem dX5_layOut_8 : decode cX5_layOut 8 = .ok (.iconst (-1), 1) := by decide +kernel
theorem dX5_layOut_9 : decode cX5_layOut 9 = .ok (.bipush 36, 2) := by decide +kernel
theorem dX5_layOut_11 : decode cX5_layOut 11 = .ok (.invokestatic 26, 3) := by decide +kernel
theorem dX5_layOut_14 : decode cX5_layOut 14 = .ok (.ifCond .eq 22, 3) := by decide +kernel
theorem dX5_layOut_17 : decode cX5_layOut 17 = .ok (.aload_n 0, 1) := by decide +kernel
theorem dX5_layOut_18 : decode cX5_layOut 18 = .ok (.getfield 11, 3) := by decide +kernel
theorem dX5_layOut_21 : decode cX5_layOut 21 = .ok (.iload_n 1, 1) := by decide +kernel
theorem dX5_layOut_22 : decode cX5_layOut 22 = .ok (.iload_n 2, 1) := by decide +kernel
theorem dX5_layOut_23 : decode cX5_layOut 23 = .ok (.iastore, 1) := by decide +kernel
theorem dX5_layOut_24 : decode cX5_layOut 24 = .ok (.aload_n 0, 1) := by decide +kernel
theorem dX5_layOut_25 : decode cX5_layOut 25 = .ok (.getfield 17, 3) := by decide +kernel
theorem dX5_layOut_28 : decode cX5_layOut 28 = .ok (.iload_n 1, 1) := by decide +kernel
theorem dX5_layOut_29 : decode cX5_layOut 29 = .ok (.aaload, 1) := by decide +kernel
theorem dX5_layOut_30 : decode cX5_layOut 30 = .ok (.sipush (-32768), 3) := by decide +kernel
theorem dX5_layOut_33 : decode cX5_layOut 33 = .ok (.invokestatic 40, 3) := by decide +kernel
theorem dX5_layOut_36 : decode cX5_layOut 36 = .ok (.return_, 1) := by decide +kernel
theorem dX5_write_0 : decode cX5_write 0 = .ok (.aload_n 0, 1) := by decide +kernel
theorem dX5_write_1 : decode cX5_write 1 = .ok (.iload_n 1, 1) := by decide +kernel
theorem dX5_write_2 : decode cX5_write 2 = .ok (.iload_n 2, 1) := by decide +kernel
theorem dX5_write_3 : decode cX5_write 3 = .ok (.invokevirtual 43, 3) := by decide +kernel
theorem dX5_write_6 : decode cX5_write 6 = .ok (.ifCond .eq 13, 3) := by decide +kernel
theorem dX5_write_9 : decode cX5_write 9 = .ok (.aload_n 0, 1) := by decide +kernel
theorem dX5_write_10 : decode cX5_write 10 = .ok (.getfield 17, 3) := by decide +kernel
theorem dX5_write_13 : decode cX5_write 13 = .ok (.iload_n 1, 1) := by decide +kernel
theorem dX5_write_14 : decode cX5_write 14 = .ok (.aaload, 1) := by decide +kernel
theorem dX5_write_15 : decode cX5_write 15 = .ok (.iload_n 2, 1) := by decide +kernel
theorem dX5_write_16 : decode cX5_write 16 = .ok (.iload_n 3, 1) := by decide +kernel
theorem dX5_write_17 : decode cX5_write 17 = .ok (.i2s, 1) := by decide +kernel
theorem dX5_write_18 : decode cX5_write 18 = .ok (.sastore, 1) := by decide +kernel
theorem dX5_write_19 : decode cX5_write 19 = .ok (.aload_n 0, 1) := by decide +kernel
theorem dX5_write_20 : decode cX5_write 20 = .ok (.iload_n 1, 1) := by decide +kernel
theorem dX5_write_21 : decode cX5_write 21 = .ok (.iload_n 2, 1) := by decide +kernel
theorem dX5_write_22 : decode cX5_write 22 = .ok (.invokevirtual 47, 3) := by decide +kernel
theorem dX5_write_25 : decode cX5_write 25 = .ok (.ireturn, 1) := by decide +kernel
theorem dX5_rateAt_0 : decode cX5_rateAt 0 = .ok (.aload_n 0, 1) := by decide +kernel
theorem dX5_rateAt_1 : decode cX5_rateAt 1 = .ok (.iload_n 1, 1) := by decide +kernel
theorem dX5_rateAt_2 : decode cX5_rateAt 2 = .ok (.iload_n 2, 1) := by decide +kernel
theorem dX5_rateAt_3 : decode cX5_rateAt 3 = .ok (.invokevirtual 43, 3) := by decide +kernel
theorem dX5_rateAt_6 : decode cX5_rateAt 6 = .ok (.ifCond .eq 14, 3) := by decide +kernel
theorem dX5_rateAt_9 : decode cX5_rateAt 9 = .ok (.aload_n 0, 1) := by decide +kernel
theorem dX5_rateAt_10 : decode cX5_rateAt 10 = .ok (.getfield 17, 3) := by decide +kernel
theorem dX5_rateAt_13 : decode cX5_rateAt 13 = .ok (.iload_n 1, 1) := by decide +kernel
theorem dX5_rateAt_14 : decode cX5_rateAt 14 = .ok (.aaload, 1) := by decide +kernel
theorem dX5_rateAt_15 : decode cX5_rateAt 15 = .ok (.iload_n 2, 1) := by decide +kernel
theorem dX5_rateAt_16 : decode cX5_rateAt 16 = .ok (.saload, 1) := by decide +kernel
theorem dX5_rateAt_17 : decode cX5_rateAt 17 = .ok (.goto 6, 3) := by decide +kernel
theorem dX5_rateAt_20 : decode cX5_rateAt 20 = .ok (.sipush (-32768), 3) := by decide +kernel
theorem dX5_rateAt_23 : decode cX5_rateAt 23 = .ok (.ireturn, 1) := by decide +kernel
theorem dX5_wasRead_0 : decode cX5_wasRead 0 = .ok (.aload_n 0, 1) := by decide +kernel
theorem dX5_wasRead_1 : decode cX5_wasRead 1 = .ok (.iload_n 1, 1) := by decide +kernel
theorem dX5_wasRead_2 : decode cX5_wasRead 2 = .ok (.iload_n 2, 1) := by decide +kernel
theorem dX5_wasRead_3 : decode cX5_wasRead 3 = .ok (.invokevirtual 47, 3) := by decide +kernel
theorem dX5_wasRead_6 : decode cX5_wasRead 6 = .ok (.sipush (-32768), 3) := by decide +kernel
theorem dX5_wasRead_9 : decode cX5_wasRead 9 = .ok (.if_icmp .eq 7, 3) := by decide +kernel
theorem dX5_wasRead_12 : decode cX5_wasRead 12 = .ok (.iconst 1, 1) := by decide +kernel
theorem dX5_wasRead_13 : decode cX5_wasRead 13 = .ok (.goto 4, 3) := by decide +kernel
theorem dX5_wasRead_16 : decode cX5_wasRead 16 = .ok (.iconst 0, 1) := by decide +kernel
theorem dX5_wasRead_17 : decode cX5_wasRead 17 = .ok (.ireturn, 1) := by decide +kernel
theorem dX5_howManyRead_0 : decode cX5_howManyRead 0 = .ok (.iconst 0, 1) := by decide +kernel
theorem dX5_howManyRead_1 : decode cX5_howManyRead 1 = .ok (.istore_n 3, 1) := by decide +kernel
theorem dX5_howManyRead_2 : decode cX5_howManyRead 2 = .ok (.iconst 0, 1) := by decide +kernel
theorem dX5_howManyRead_3 : decode cX5_howManyRead 3 = .ok (.istore 4, 2) := by decide +kernel
theorem dX5_howManyRead_5 : decode cX5_howManyRead 5 = .ok (.iload 4, 2) := by decide +kernel
theorem dX5_howManyRead_7 : decode cX5_howManyRead 7 = .ok (.iload_n 2, 1) := by decide +kernel
theorem dX5_howManyRead_8 : decode cX5_howManyRead 8 = .ok (.if_icmp .ge 22, 3) := by decide +kernel
theorem dX5_howManyRead_11 : decode cX5_howManyRead 11 = .ok (.aload_n 0, 1) := by decide +kernel
theorem dX5_howManyRead_12 : decode cX5_howManyRead 12 = .ok (.iload_n 1, 1) := by decide +kernel
theorem dX5_howManyRead_13 : decode cX5_howManyRead 13 = .ok (.iload 4, 2) := by decide +kernel
theorem dX5_howManyRead_15 : decode cX5_howManyRead 15 = .ok (.invokevirtual 51, 3) := by decide +kernel
theorem dX5_howManyRead_18 : decode cX5_howManyRead 18 = .ok (.ifCond .eq 6, 3) := by decide +kernel
theorem dX5_howManyRead_21 : decode cX5_howManyRead 21 = .ok (.iinc 3 1, 3) := by decide +kernel
theorem dX5_howManyRead_24 : decode cX5_howManyRead 24 = .ok (.iinc 4 1, 3) := by decide +kernel
theorem dX5_howManyRead_27 : decode cX5_howManyRead 27 = .ok (.goto (-22), 3) := by decide +kernel
theorem dX5_howManyRead_30 : decode cX5_howManyRead 30 = .ok (.iload_n 3, 1) := by decide +kernel
theorem dX5_howManyRead_31 : decode cX5_howManyRead 31 = .ok (.ireturn, 1) := by decide +kernel
theorem dX5_holdsRates_0 : decode cX5_holdsRates 0 = .ok (.iconst 0, 1) := by decide +kernel
theorem dX5_holdsRates_1 : decode cX5_holdsRates 1 = .ok (.istore_n 3, 1) := by decide +kernel
theorem dX5_holdsRates_2 : decode cX5_holdsRates 2 = .ok (.iload_n 3, 1) := by decide +kernel
theorem dX5_holdsRates_3 : decode cX5_holdsRates 3 = .ok (.iload_n 2, 1) := by decide +kernel
theorem dX5_holdsRates_4 : decode cX5_holdsRates 4 = .ok (.if_icmp .ge 32, 3) := by decide +kernel
theorem dX5_holdsRates_7 : decode cX5_holdsRates 7 = .ok (.aload_n 0, 1) := by decide +kernel
theorem dX5_holdsRates_8 : decode cX5_holdsRates 8 = .ok (.iload_n 1, 1) := by decide +kernel
theorem dX5_holdsRates_9 : decode cX5_holdsRates 9 = .ok (.iload_n 3, 1) := by decide +kernel
theorem dX5_holdsRates_10 : decode cX5_holdsRates 10 = .ok (.invokevirtual 51, 3) := by decide +kernel
theorem dX5_holdsRates_13 : decode cX5_holdsRates 13 = .ok (.ifCond .eq 17, 3) := by decide +kernel
theorem dX5_holdsRates_16 : decode cX5_holdsRates 16 = .ok (.aload_n 0, 1) := by decide +kernel
theorem dX5_holdsRates_17 : decode cX5_holdsRates 17 = .ok (.iload_n 1, 1) := by decide +kernel
theorem dX5_holdsRates_18 : decode cX5_holdsRates 18 = .ok (.iload_n 3, 1) := by decide +kernel
theorem dX5_holdsRates_19 : decode cX5_holdsRates 19 = .ok (.invokevirtual 47, 3) := by decide +kernel
theorem dX5_holdsRates_22 : decode cX5_holdsRates 22 = .ok (.invokestatic 54, 3) := by decide +kernel
theorem dX5_holdsRates_25 : decode cX5_holdsRates 25 = .ok (.ifCond .ne 5, 3) := by decide +kernel
theorem dX5_holdsRates_28 : decode cX5_holdsRates 28 = .ok (.iconst 0, 1) := by decide +kernel
theorem dX5_holdsRates_29 : decode cX5_holdsRates 29 = .ok (.ireturn, 1) := by decide +kernel
theorem dX5_holdsRates_30 : decode cX5_holdsRates 30 = .ok (.iinc 3 1, 3) := by decide +kernel
theorem dX5_holdsRates_33 : decode cX5_holdsRates 33 = .ok (.goto (-31), 3) := by decide +kernel
theorem dX5_holdsRates_36 : decode cX5_holdsRates 36 = .ok (.iconst 1, 1) := by decide +kernel
theorem dX5_holdsRates_37 : decode cX5_holdsRates 37 = .ok (.ireturn, 1) := by decide +kernel
theorem dX6_init_0 : decode cX6_init 0 = .ok (.aload_n 0, 1) := by decide +kernel
theorem dX6_init_1 : decode cX6_init 1 = .ok (.invokespecial 3, 3) := by decide +kernel
theorem dX6_init_4 : decode cX6_init 4 = .ok (.aload_n 0, 1) := by decide +kernel
theorem dX6_init_5 : decode cX6_init 5 = .ok (.bipush 8, 2) := by decide +kernel
theorem dX6_init_7 : decode cX6_init 7 = .ok (.newarray .long, 2) := by decide +kernel
theorem dX6_init_9 : decode cX6_init 9 = .ok (.putfield 9, 3) := by decide +kernel
theorem dX6_init_12 : decode cX6_init 12 = .ok (.aload_n 0, 1) := by decide +kernel
theorem dX6_init_13 : decode cX6_init 13 = .ok (.lconst 1, 1) := by decide +kernel
theorem dX6_init_14 : decode cX6_init 14 = .ok (.putfield 15, 3) := by decide +kernel
theorem dX6_init_17 : decode cX6_init 17 = .ok (.return_, 1) := by decide +kernel
theorem dX6_take_0 : decode cX6_take 0 = .ok (.aload_n 0, 1) := by decide +kernel
theorem dX6_take_1 : decode cX6_take 1 = .ok (.iconst 1, 1) := by decide +kernel
theorem dX6_take_2 : decode cX6_take 2 = .ok (.putfield 19, 3) := by decide +kernel
theorem dX6_take_5 : decode cX6_take 5 = .ok (.aload_n 0, 1) := by decide +kernel
theorem dX6_take_6 : decode cX6_take 6 = .ok (.iconst 0, 1) := by decide +kernel
theorem dX6_take_7 : decode cX6_take 7 = .ok (.putfield 23, 3) := by decide +kernel
theorem dX6_take_10 : decode cX6_take 10 = .ok (.aload_n 0, 1) := by decide +kernel
theorem dX6_take_11 : decode cX6_take 11 = .ok (.iload_n 1, 1) := by decide +kernel
theorem dX6_take_12 : decode cX6_take 12 = .ok (.putfield 26, 3) := by decide +kernel
theorem dX6_take_15 : decode cX6_take 15 = .ok (.aload_n 0, 1) := by decide +kernel
theorem dX6_take_16 : decode cX6_take 16 = .ok (.aload_n 2, 1) := by decide +kernel
theorem dX6_take_17 : decode cX6_take 17 = .ok (.invokevirtual 30, 3) := by decide +kernel
theorem dX6_take_20 : decode cX6_take 20 = .ok (.putfield 15, 3) := by decide +kernel
theorem dX6_take_23 : decode cX6_take 23 = .ok (.aload_n 0, 1) := by decide +kernel
theorem dX6_take_24 : decode cX6_take 24 = .ok (.aload_n 2, 1) := by decide +kernel
theorem dX6_take_25 : decode cX6_take 25 = .ok (.invokevirtual 35, 3) := by decide +kernel
theorem dX6_take_28 : decode cX6_take 28 = .ok (.putfield 38, 3) := by decide +kernel
theorem dX6_take_31 : decode cX6_take 31 = .ok (.iconst 0, 1) := by decide +kernel
theorem dX6_take_32 : decode cX6_take 32 = .ok (.istore_n 3, 1) := by decide +kernel
theorem dX6_take_33 : decode cX6_take 33 = .ok (.iload_n 3, 1) := by decide +kernel
theorem dX6_take_34 : decode cX6_take 34 = .ok (.bipush 8, 2) := by decide +kernel
theorem dX6_take_36 : decode cX6_take 36 = .ok (.if_icmp .ge 36, 3) := by decide +kernel
theorem dX6_take_39 : decode cX6_take 39 = .ok (.aload_n 0, 1) := by decide +kernel
theorem dX6_take_40 : decode cX6_take 40 = .ok (.getfield 9, 3) := by decide +kernel
theorem dX6_take_43 : decode cX6_take 43 = .ok (.iload_n 3, 1) := by decide +kernel
