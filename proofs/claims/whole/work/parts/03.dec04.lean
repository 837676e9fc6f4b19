theorem dX10_worst_74 : decode cX10_worst 74 = .ok (.getfield 36, 3) := by decide +kernel
theorem dX10_worst_77 : decode cX10_worst 77 = .ok (.invokevirtual 207, 3) := by decide +kernel
theorem dX10_worst_80 : decode cX10_worst 80 = .ok (.iload_n 1, 1) := by decide +kernel
theorem dX10_worst_81 : decode cX10_worst 81 = .ok (.invokestatic 211, 3) := by decide +kernel
theorem dX10_worst_84 : decode cX10_worst 84 = .ok (.lreturn, 1) := by decide +kernel
theorem dX10_best_0 : decode cX10_best 0 = .ok (.aload_n 0, 1) := by decide +kernel
theorem dX10_best_1 : decode cX10_best 1 = .ok (.invokevirtual 262, 3) := by decide +kernel
theorem dX10_best_4 : decode cX10_best 4 = .ok (.istore_n 1, 1) := by decide +kernel
theorem dX10_best_5 : decode cX10_best 5 = .ok (.iload_n 1, 1) := by decide +kernel
theorem dX10_best_6 : decode cX10_best 6 = .ok (.ifCond .eq 9, 3) := by decide +kernel
theorem dX10_best_9 : decode cX10_best 9 = .ok (.aload_n 0, 1) := by decide +kernel
theorem dX10_best_10 : decode cX10_best 10 = .ok (.iload_n 1, 1) := by decide +kernel
theorem dX10_best_11 : decode cX10_best 11 = .ok (.invokevirtual 67, 3) := by decide +kernel
theorem dX10_best_14 : decode cX10_best 14 = .ok (.lreturn, 1) := by decide +kernel
theorem dX10_best_15 : decode cX10_best 15 = .ok (.aload_n 0, 1) := by decide +kernel
theorem dX10_best_16 : decode cX10_best 16 = .ok (.getfield 43, 3) := by decide +kernel
theorem dX10_best_19 : decode cX10_best 19 = .ok (.aload_n 0, 1) := by decide +kernel
theorem dX10_best_20 : decode cX10_best 20 = .ok (.getfield 10, 3) := by decide +kernel
theorem dX10_best_23 : decode cX10_best 23 = .ok (.aload_n 0, 1) := by decide +kernel
theorem dX10_best_24 : decode cX10_best 24 = .ok (.getfield 36, 3) := by decide +kernel
theorem dX10_best_27 : decode cX10_best 27 = .ok (.invokevirtual 275, 3) := by decide +kernel
theorem dX10_best_30 : decode cX10_best 30 = .ok (.aload_n 0, 1) := by decide +kernel
theorem dX10_best_31 : decode cX10_best 31 = .ok (.getfield 43, 3) := by decide +kernel
theorem dX10_best_34 : decode cX10_best 34 = .ok (.invokevirtual 279, 3) := by decide +kernel
theorem dX10_best_37 : decode cX10_best 37 = .ok (.lreturn, 1) := by decide +kernel
theorem dX10_paper_0 : decode cX10_paper 0 = .ok (.aload_n 0, 1) := by decide +kernel
theorem dX10_paper_1 : decode cX10_paper 1 = .ok (.invokevirtual 262, 3) := by decide +kernel
theorem dX10_paper_4 : decode cX10_paper 4 = .ok (.istore_n 1, 1) := by decide +kernel
theorem dX10_paper_5 : decode cX10_paper 5 = .ok (.iload_n 1, 1) := by decide +kernel
theorem dX10_paper_6 : decode cX10_paper 6 = .ok (.ifCond .eq 9, 3) := by decide +kernel
theorem dX10_paper_9 : decode cX10_paper 9 = .ok (.aload_n 0, 1) := by decide +kernel
theorem dX10_paper_10 : decode cX10_paper 10 = .ok (.iload_n 1, 1) := by decide +kernel
theorem dX10_paper_11 : decode cX10_paper 11 = .ok (.invokevirtual 67, 3) := by decide +kernel
theorem dX10_paper_14 : decode cX10_paper 14 = .ok (.lreturn, 1) := by decide +kernel
theorem dX10_paper_15 : decode cX10_paper 15 = .ok (.iconst 0, 1) := by decide +kernel
theorem dX10_paper_16 : decode cX10_paper 16 = .ok (.istore_n 2, 1) := by decide +kernel
theorem dX10_paper_17 : decode cX10_paper 17 = .ok (.iload_n 2, 1) := by decide +kernel
theorem dX10_paper_18 : decode cX10_paper 18 = .ok (.bipush 36, 2) := by decide +kernel
theorem dX10_paper_20 : decode cX10_paper 20 = .ok (.if_icmp .ge 68, 3) := by decide +kernel
theorem dX10_paper_23 : decode cX10_paper 23 = .ok (.aload_n 0, 1) := by decide +kernel
theorem dX10_paper_24 : decode cX10_paper 24 = .ok (.getfield 10, 3) := by decide +kernel
theorem dX10_paper_27 : decode cX10_paper 27 = .ok (.getfield 245, 3) := by decide +kernel
theorem dX10_paper_30 : decode cX10_paper 30 = .ok (.iload_n 2, 1) := by decide +kernel
theorem dX10_paper_31 : decode cX10_paper 31 = .ok (.invokevirtual 254, 3) := by decide +kernel
theorem dX10_paper_34 : decode cX10_paper 34 = .ok (.ifCond .eq 48, 3) := by decide +kernel
theorem dX10_paper_37 : decode cX10_paper 37 = .ok (.aload_n 0, 1) := by decide +kernel
theorem dX10_paper_38 : decode cX10_paper 38 = .ok (.getfield 36, 3) := by decide +kernel
theorem dX10_paper_41 : decode cX10_paper 41 = .ok (.iload_n 2, 1) := by decide +kernel
theorem dX10_paper_42 : decode cX10_paper 42 = .ok (.aload_n 0, 1) := by decide +kernel
theorem dX10_paper_43 : decode cX10_paper 43 = .ok (.getfield 10, 3) := by decide +kernel
theorem dX10_paper_46 : decode cX10_paper 46 = .ok (.getfield 71, 3) := by decide +kernel
theorem dX10_paper_49 : decode cX10_paper 49 = .ok (.invokevirtual 215, 3) := by decide +kernel
theorem dX10_paper_52 : decode cX10_paper 52 = .ok (.lstore_n 3, 1) := by decide +kernel
theorem dX10_paper_53 : decode cX10_paper 53 = .ok (.aload_n 0, 1) := by decide +kernel
theorem dX10_paper_54 : decode cX10_paper 54 = .ok (.getfield 10, 3) := by decide +kernel
theorem dX10_paper_57 : decode cX10_paper 57 = .ok (.getfield 245, 3) := by decide +kernel
theorem dX10_paper_60 : decode cX10_paper 60 = .ok (.iload_n 2, 1) := by decide +kernel
theorem dX10_paper_61 : decode cX10_paper 61 = .ok (.lload_n 3, 1) := by decide +kernel
theorem dX10_paper_62 : decode cX10_paper 62 = .ok (.aload_n 0, 1) := by decide +kernel
theorem dX10_paper_63 : decode cX10_paper 63 = .ok (.getfield 36, 3) := by decide +kernel
theorem dX10_paper_66 : decode cX10_paper 66 = .ok (.invokevirtual 207, 3) := by decide +kernel
theorem dX10_paper_69 : decode cX10_paper 69 = .ok (.invokevirtual 282, 3) := by decide +kernel
theorem dX10_paper_72 : decode cX10_paper 72 = .ok (.ifCond .ne 10, 3) := by decide +kernel
theorem dX10_paper_75 : decode cX10_paper 75 = .ok (.iload_n 2, 1) := by decide +kernel
theorem dX10_paper_76 : decode cX10_paper 76 = .ok (.sipush 1000, 3) := by decide +kernel
theorem dX10_paper_79 : decode cX10_paper 79 = .ok (.isub, 1) := by decide +kernel
theorem dX10_paper_80 : decode cX10_paper 80 = .ok (.i2l, 1) := by decide +kernel
theorem dX10_paper_81 : decode cX10_paper 81 = .ok (.lreturn, 1) := by decide +kernel
theorem dX10_paper_82 : decode cX10_paper 82 = .ok (.iinc 2 1, 3) := by decide +kernel
theorem dX10_paper_85 : decode cX10_paper 85 = .ok (.goto (-68), 3) := by decide +kernel
theorem dX10_paper_88 : decode cX10_paper 88 = .ok (.lconst 1, 1) := by decide +kernel
theorem dX10_paper_89 : decode cX10_paper 89 = .ok (.lreturn, 1) := by decide +kernel
theorem dX10_day_0 : decode cX10_day 0 = .ok (.iload_n 1, 1) := by decide +kernel
theorem dX10_day_1 : decode cX10_day 1 = .ok (.invokestatic 90, 3) := by decide +kernel
theorem dX10_day_4 : decode cX10_day 4 = .ok (.ifCond .eq 16, 3) := by decide +kernel
theorem dX10_day_7 : decode cX10_day 7 = .ok (.iload_n 2, 1) := by decide +kernel
theorem dX10_day_8 : decode cX10_day 8 = .ok (.sipush (-1000), 3) := by decide +kernel
theorem dX10_day_11 : decode cX10_day 11 = .ok (.sipush 1000, 3) := by decide +kernel
theorem dX10_day_14 : decode cX10_day 14 = .ok (.invokestatic 129, 3) := by decide +kernel
theorem dX10_day_17 : decode cX10_day 17 = .ok (.ifCond .ne 9, 3) := by decide +kernel
theorem dX10_day_20 : decode cX10_day 20 = .ok (.aload_n 0, 1) := by decide +kernel
theorem dX10_day_21 : decode cX10_day 21 = .ok (.iconst 1, 1) := by decide +kernel
theorem dX10_day_22 : decode cX10_day 22 = .ok (.invokevirtual 67, 3) := by decide +kernel
theorem dX10_day_25 : decode cX10_day 25 = .ok (.lreturn, 1) := by decide +kernel
theorem dX10_day_26 : decode cX10_day 26 = .ok (.aload_n 0, 1) := by decide +kernel
theorem dX10_day_27 : decode cX10_day 27 = .ok (.getfield 50, 3) := by decide +kernel
theorem dX10_day_30 : decode cX10_day 30 = .ok (.getfield 286, 3) := by decide +kernel
theorem dX10_day_33 : decode cX10_day 33 = .ok (.invokevirtual 115, 3) := by decide +kernel
theorem dX10_day_36 : decode cX10_day 36 = .ok (.ifCond .eq 9, 3) := by decide +kernel
theorem dX10_day_39 : decode cX10_day 39 = .ok (.aload_n 0, 1) := by decide +kernel
theorem dX10_day_40 : decode cX10_day 40 = .ok (.iconst 5, 1) := by decide +kernel
theorem dX10_day_41 : decode cX10_day 41 = .ok (.invokevirtual 67, 3) := by decide +kernel
theorem dX10_day_44 : decode cX10_day 44 = .ok (.lreturn, 1) := by decide +kernel
theorem dX10_day_45 : decode cX10_day 45 = .ok (.aload_n 0, 1) := by decide +kernel
theorem dX10_day_46 : decode cX10_day 46 = .ok (.getfield 50, 3) := by decide +kernel
theorem dX10_day_49 : decode cX10_day 49 = .ok (.getfield 286, 3) := by decide +kernel
theorem dX10_day_52 : decode cX10_day 52 = .ok (.iload_n 1, 1) := by decide +kernel
theorem dX10_day_53 : decode cX10_day 53 = .ok (.iload_n 2, 1) := by decide +kernel
theorem dX10_day_54 : decode cX10_day 54 = .ok (.invokevirtual 118, 3) := by decide +kernel
theorem dX10_day_57 : decode cX10_day 57 = .ok (.iconst 1, 1) := by decide +kernel
theorem dX10_day_58 : decode cX10_day 58 = .ok (.iadd, 1) := by decide +kernel
theorem dX10_day_59 : decode cX10_day 59 = .ok (.i2l, 1) := by decide +kernel
theorem dX10_day_60 : decode cX10_day 60 = .ok (.lreturn, 1) := by decide +kernel
theorem dX10_anew_0 : decode cX10_anew 0 = .ok (.aload_n 0, 1) := by decide +kernel
theorem dX10_anew_1 : decode cX10_anew 1 = .ok (.getfield 50, 3) := by decide +kernel
theorem dX10_anew_4 : decode cX10_anew 4 = .ok (.getfield 286, 3) := by decide +kernel
theorem dX10_anew_7 : decode cX10_anew 7 = .ok (.invokevirtual 125, 3) := by decide +kernel
theorem dX10_anew_10 : decode cX10_anew 10 = .ok (.istore_n 1, 1) := by decide +kernel
theorem dX10_anew_11 : decode cX10_anew 11 = .ok (.aload_n 0, 1) := by decide +kernel
theorem dX10_anew_12 : decode cX10_anew 12 = .ok (.getfield 50, 3) := by decide +kernel
theorem dX10_anew_15 : decode cX10_anew 15 = .ok (.getfield 286, 3) := by decide +kernel
theorem dX10_anew_18 : decode cX10_anew 18 = .ok (.invokevirtual 289, 3) := by decide +kernel
theorem dX10_anew_21 : decode cX10_anew 21 = .ok (.iload_n 1, 1) := by decide +kernel
theorem dX10_anew_22 : decode cX10_anew 22 = .ok (.i2l, 1) := by decide +kernel
theorem dX10_anew_23 : decode cX10_anew 23 = .ok (.lreturn, 1) := by decide +kernel
theorem dX10_mean_0 : decode cX10_mean 0 = .ok (.iload_n 1, 1) := by decide +kernel
theorem dX10_mean_1 : decode cX10_mean 1 = .ok (.invokestatic 292, 3) := by decide +kernel
theorem dX10_mean_4 : decode cX10_mean 4 = .ok (.ifCond .ne 9, 3) := by decide +kernel
theorem dX10_mean_7 : decode cX10_mean 7 = .ok (.aload_n 0, 1) := by decide +kernel
theorem dX10_mean_8 : decode cX10_mean 8 = .ok (.iconst 1, 1) := by decide +kernel
theorem dX10_mean_9 : decode cX10_mean 9 = .ok (.invokevirtual 67, 3) := by decide +kernel
theorem dX10_mean_12 : decode cX10_mean 12 = .ok (.lreturn, 1) := by decide +kernel
theorem dX10_mean_13 : decode cX10_mean 13 = .ok (.aload_n 0, 1) := by decide +kernel
theorem dX10_mean_14 : decode cX10_mean 14 = .ok (.getfield 50, 3) := by decide +kernel
theorem dX10_mean_17 : decode cX10_mean 17 = .ok (.iload_n 1, 1) := by decide +kernel
theorem dX10_mean_18 : decode cX10_mean 18 = .ok (.invokevirtual 295, 3) := by decide +kernel
theorem dX10_mean_21 : decode cX10_mean 21 = .ok (.istore_n 3, 1) := by decide +kernel
theorem dX10_mean_22 : decode cX10_mean 22 = .ok (.iload_n 3, 1) := by decide +kernel
theorem dX10_mean_23 : decode cX10_mean 23 = .ok (.ifCond .ne 10, 3) := by decide +kernel
theorem dX10_mean_26 : decode cX10_mean 26 = .ok (.aload_n 0, 1) := by decide +kernel
theorem dX10_mean_27 : decode cX10_mean 27 = .ok (.bipush 6, 2) := by decide +kernel
theorem dX10_mean_29 : decode cX10_mean 29 = .ok (.invokevirtual 67, 3) := by decide +kernel
theorem dX10_mean_32 : decode cX10_mean 32 = .ok (.lreturn, 1) := by decide +kernel
theorem dX10_mean_33 : decode cX10_mean 33 = .ok (.aload_n 0, 1) := by decide +kernel
theorem dX10_mean_34 : decode cX10_mean 34 = .ok (.getfield 50, 3) := by decide +kernel
theorem dX10_mean_37 : decode cX10_mean 37 = .ok (.iload_n 1, 1) := by decide +kernel
theorem dX10_mean_38 : decode cX10_mean 38 = .ok (.invokevirtual 298, 3) := by decide +kernel
theorem dX10_mean_41 : decode cX10_mean 41 = .ok (.i2l, 1) := by decide +kernel
theorem dX10_mean_42 : decode cX10_mean 42 = .ok (.iload_n 3, 1) := by decide +kernel
theorem dX10_mean_43 : decode cX10_mean 43 = .ok (.i2l, 1) := by decide +kernel
theorem dX10_mean_44 : decode cX10_mean 44 = .ok (.iload_n 2, 1) := by decide +kernel
theorem dX10_mean_45 : decode cX10_mean 45 = .ok (.invokestatic 211, 3) := by decide +kernel
theorem dX10_mean_48 : decode cX10_mean 48 = .ok (.lreturn, 1) := by decide +kernel
theorem dX10_change_0 : decode cX10_change 0 = .ok (.iload_n 1, 1) := by decide +kernel
theorem dX10_change_1 : decode cX10_change 1 = .ok (.invokestatic 292, 3) := by decide +kernel
theorem dX10_change_4 : decode cX10_change 4 = .ok (.ifCond .ne 9, 3) := by decide +kernel
theorem dX10_change_7 : decode cX10_change 7 = .ok (.aload_n 0, 1) := by decide +kernel
theorem dX10_change_8 : decode cX10_change 8 = .ok (.iconst 1, 1) := by decide +kernel
theorem dX10_change_9 : decode cX10_change 9 = .ok (.invokevirtual 67, 3) := by decide +kernel
theorem dX10_change_12 : decode cX10_change 12 = .ok (.lreturn, 1) := by decide +kernel
theorem dX10_change_13 : decode cX10_change 13 = .ok (.aload_n 0, 1) := by decide +kernel
theorem dX10_change_14 : decode cX10_change 14 = .ok (.getfield 50, 3) := by decide +kernel
theorem dX10_change_17 : decode cX10_change 17 = .ok (.iload_n 1, 1) := by decide +kernel
theorem dX10_change_18 : decode cX10_change 18 = .ok (.invokevirtual 295, 3) := by decide +kernel
theorem dX10_change_21 : decode cX10_change 21 = .ok (.iconst 2, 1) := by decide +kernel
theorem dX10_change_22 : decode cX10_change 22 = .ok (.if_icmp .ge 10, 3) := by decide +kernel
theorem dX10_change_25 : decode cX10_change 25 = .ok (.aload_n 0, 1) := by decide +kernel
theorem dX10_change_26 : decode cX10_change 26 = .ok (.bipush 6, 2) := by decide +kernel
theorem dX10_change_28 : decode cX10_change 28 = .ok (.invokevirtual 67, 3) := by decide +kernel
theorem dX10_change_31 : decode cX10_change 31 = .ok (.lreturn, 1) := by decide +kernel
theorem dX10_change_32 : decode cX10_change 32 = .ok (.aload_n 0, 1) := by decide +kernel
theorem dX10_change_33 : decode cX10_change 33 = .ok (.getfield 50, 3) := by decide +kernel
theorem dX10_change_36 : decode cX10_change 36 = .ok (.iload_n 1, 1) := by decide +kernel
theorem dX10_change_37 : decode cX10_change 37 = .ok (.invokevirtual 301, 3) := by decide +kernel
theorem dX10_change_40 : decode cX10_change 40 = .ok (.i2l, 1) := by decide +kernel
theorem dX10_change_41 : decode cX10_change 41 = .ok (.lreturn, 1) := by decide +kernel
theorem dX10_tell_0 : decode cX10_tell 0 = .ok (.aload_n 0, 1) := by decide +kernel
theorem dX10_tell_1 : decode cX10_tell 1 = .ok (.getfield 304, 3) := by decide +kernel
theorem dX10_tell_4 : decode cX10_tell 4 = .ok (.bipush 16, 2) := by decide +kernel
theorem dX10_tell_6 : decode cX10_tell 6 = .ok (.if_icmp .lt 9, 3) := by decide +kernel
theorem dX10_tell_9 : decode cX10_tell 9 = .ok (.aload_n 0, 1) := by decide +kernel
theorem dX10_tell_10 : decode cX10_tell 10 = .ok (.iconst 5, 1) := by decide +kernel
theorem dX10_tell_11 : decode cX10_tell 11 = .ok (.invokevirtual 67, 3) := by decide +kernel
theorem dX10_tell_14 : decode cX10_tell 14 = .ok (.lreturn, 1) := by decide +kernel
theorem dX10_tell_15 : decode cX10_tell 15 = .ok (.aload_n 0, 1) := by decide +kernel
theorem dX10_tell_16 : decode cX10_tell 16 = .ok (.getfield 54, 3) := by decide +kernel
theorem dX10_tell_19 : decode cX10_tell 19 = .ok (.aload_n 0, 1) := by decide +kernel
theorem dX10_tell_20 : decode cX10_tell 20 = .ok (.getfield 304, 3) := by decide +kernel
theorem dX10_tell_23 : decode cX10_tell 23 = .ok (.iload_n 1, 1) := by decide +kernel
theorem dX10_tell_24 : decode cX10_tell 24 = .ok (.iastore, 1) := by decide +kernel
theorem dX10_tell_25 : decode cX10_tell 25 = .ok (.aload_n 0, 1) := by decide +kernel
theorem dX10_tell_26 : decode cX10_tell 26 = .ok (.dup, 1) := by decide +kernel
theorem dX10_tell_27 : decode cX10_tell 27 = .ok (.getfield 304, 3) := by decide +kernel
theorem dX10_tell_30 : decode cX10_tell 30 = .ok (.iconst 1, 1) := by decide +kernel
theorem dX10_tell_31 : decode cX10_tell 31 = .ok (.iadd, 1) := by decide +kernel
theorem dX10_tell_32 : decode cX10_tell 32 = .ok (.putfield 304, 3) := by decide +kernel
theorem dX10_tell_35 : decode cX10_tell 35 = .ok (.aload_n 0, 1) := by decide +kernel
theorem dX10_tell_36 : decode cX10_tell 36 = .ok (.getfield 304, 3) := by decide +kernel
theorem dX10_tell_39 : decode cX10_tell 39 = .ok (.i2l, 1) := by decide +kernel
theorem dX10_tell_40 : decode cX10_tell 40 = .ok (.lreturn, 1) := by decide +kernel
theorem dX10_check_0 : decode cX10_check 0 = .ok (.aload_n 0, 1) := by decide +kernel
theorem dX10_check_1 : decode cX10_check 1 = .ok (.getfield 304, 3) := by decide +kernel
theorem dX10_check_4 : decode cX10_check 4 = .ok (.istore_n 1, 1) := by decide +kernel
theorem dX10_check_5 : decode cX10_check 5 = .ok (.aload_n 0, 1) := by decide +kernel
theorem dX10_check_6 : decode cX10_check 6 = .ok (.iconst 0, 1) := by decide +kernel
theorem dX10_check_7 : decode cX10_check 7 = .ok (.putfield 304, 3) := by decide +kernel
theorem dX10_check_10 : decode cX10_check 10 = .ok (.aload_n 0, 1) := by decide +kernel
theorem dX10_check_11 : decode cX10_check 11 = .ok (.invokevirtual 200, 3) := by decide +kernel
theorem dX10_check_14 : decode cX10_check 14 = .ok (.istore_n 2, 1) := by decide +kernel
theorem dX10_check_15 : decode cX10_check 15 = .ok (.iload_n 2, 1) := by decide +kernel
theorem dX10_check_16 : decode cX10_check 16 = .ok (.ifCond .eq 9, 3) := by decide +kernel
theorem dX10_check_19 : decode cX10_check 19 = .ok (.aload_n 0, 1) := by decide +kernel
theorem dX10_check_20 : decode cX10_check 20 = .ok (.iload_n 2, 1) := by decide +kernel
theorem dX10_check_21 : decode cX10_check 21 = .ok (.invokevirtual 67, 3) := by decide +kernel
theorem dX10_check_24 : decode cX10_check 24 = .ok (.lreturn, 1) := by decide +kernel
theorem dX10_check_25 : decode cX10_check 25 = .ok (.aload_n 0, 1) := by decide +kernel
theorem dX10_check_26 : decode cX10_check 26 = .ok (.iload_n 1, 1) := by decide +kernel
theorem dX10_check_27 : decode cX10_check 27 = .ok (.invokevirtual 307, 3) := by decide +kernel
theorem dX10_check_30 : decode cX10_check 30 = .ok (.i2l, 1) := by decide +kernel
theorem dX10_check_31 : decode cX10_check 31 = .ok (.lreturn, 1) := by decide +kernel
theorem dX10_judge_0 : decode cX10_judge 0 = .ok (.iconst 0, 1) := by decide +kernel
theorem dX10_judge_1 : decode cX10_judge 1 = .ok (.istore_n 2, 1) := by decide +kernel
theorem dX10_judge_2 : decode cX10_judge 2 = .ok (.iconst 0, 1) := by decide +kernel
theorem dX10_judge_3 : decode cX10_judge 3 = .ok (.istore_n 3, 1) := by decide +kernel
theorem dX10_judge_4 : decode cX10_judge 4 = .ok (.iconst 0, 1) := by decide +kernel
theorem dX10_judge_5 : decode cX10_judge 5 = .ok (.istore 4, 2) := by decide +kernel
theorem dX10_judge_7 : decode cX10_judge 7 = .ok (.iload 4, 2) := by decide +kernel
theorem dX10_judge_9 : decode cX10_judge 9 = .ok (.bipush 8, 2) := by decide +kernel
theorem dX10_judge_11 : decode cX10_judge 11 = .ok (.if_icmp .ge 72, 3) := by decide +kernel
theorem dX10_judge_14 : decode cX10_judge 14 = .ok (.aload_n 0, 1) := by decide +kernel
theorem dX10_judge_15 : decode cX10_judge 15 = .ok (.getfield 36, 3) := by decide +kernel
theorem dX10_judge_18 : decode cX10_judge 18 = .ok (.iload 4, 2) := by decide +kernel
theorem dX10_judge_20 : decode cX10_judge 20 = .ok (.invokevirtual 203, 3) := by decide +kernel
theorem dX10_judge_23 : decode cX10_judge 23 = .ok (.ifCond .eq 54, 3) := by decide +kernel
theorem dX10_judge_26 : decode cX10_judge 26 = .ok (.iload_n 3, 1) := by decide +kernel
theorem dX10_judge_27 : decode cX10_judge 27 = .ok (.iconst 1, 1) := by decide +kernel
theorem dX10_judge_28 : decode cX10_judge 28 = .ok (.iadd, 1) := by decide +kernel
theorem dX10_judge_29 : decode cX10_judge 29 = .ok (.iload_n 1, 1) := by decide +kernel
theorem dX10_judge_30 : decode cX10_judge 30 = .ok (.if_icmp .ge 37, 3) := by decide +kernel
theorem dX10_judge_33 : decode cX10_judge 33 = .ok (.iload_n 3, 1) := by decide +kernel
theorem dX10_judge_34 : decode cX10_judge 34 = .ok (.iconst 1, 1) := by decide +kernel
theorem dX10_judge_35 : decode cX10_judge 35 = .ok (.iadd, 1) := by decide +kernel
theorem dX10_judge_36 : decode cX10_judge 36 = .ok (.bipush 16, 2) := by decide +kernel
theorem dX10_judge_38 : decode cX10_judge 38 = .ok (.if_icmp .ge 29, 3) := by decide +kernel
theorem dX10_judge_41 : decode cX10_judge 41 = .ok (.aload_n 0, 1) := by decide +kernel
theorem dX10_judge_42 : decode cX10_judge 42 = .ok (.getfield 36, 3) := by decide +kernel
theorem dX10_judge_45 : decode cX10_judge 45 = .ok (.iload 4, 2) := by decide +kernel
theorem dX10_judge_47 : decode cX10_judge 47 = .ok (.aload_n 0, 1) := by decide +kernel
theorem dX10_judge_48 : decode cX10_judge 48 = .ok (.getfield 54, 3) := by decide +kernel
theorem dX10_judge_51 : decode cX10_judge 51 = .ok (.iload_n 3, 1) := by decide +kernel
theorem dX10_judge_52 : decode cX10_judge 52 = .ok (.iaload, 1) := by decide +kernel
theorem dX10_judge_53 : decode cX10_judge 53 = .ok (.aload_n 0, 1) := by decide +kernel
theorem dX10_judge_54 : decode cX10_judge 54 = .ok (.getfield 54, 3) := by decide +kernel
theorem dX10_judge_57 : decode cX10_judge 57 = .ok (.iload_n 3, 1) := by decide +kernel
theorem dX10_judge_58 : decode cX10_judge 58 = .ok (.iconst 1, 1) := by decide +kernel
theorem dX10_judge_59 : decode cX10_judge 59 = .ok (.iadd, 1) := by decide +kernel
theorem dX10_judge_60 : decode cX10_judge 60 = .ok (.iaload, 1) := by decide +kernel
theorem dX10_judge_61 : decode cX10_judge 61 = .ok (.invokevirtual 310, 3) := by decide +kernel
theorem dX10_judge_64 : decode cX10_judge 64 = .ok (.ifCond .ne 7, 3) := by decide +kernel
theorem dX10_judge_67 : decode cX10_judge 67 = .ok (.iconst 1, 1) := by decide +kernel
theorem dX10_judge_68 : decode cX10_judge 68 = .ok (.iload_n 2, 1) := by decide +kernel
theorem dX10_judge_69 : decode cX10_judge 69 = .ok (.iadd, 1) := by decide +kernel
theorem dX10_judge_70 : decode cX10_judge 70 = .ok (.ireturn, 1) := by decide +kernel
theorem dX10_judge_71 : decode cX10_judge 71 = .ok (.iinc 2 1, 3) := by decide +kernel
theorem dX10_judge_74 : decode cX10_judge 74 = .ok (.iinc 3 2, 3) := by decide +kernel
theorem dX10_judge_77 : decode cX10_judge 77 = .ok (.iinc 4 1, 3) := by decide +kernel
theorem dX10_judge_80 : decode cX10_judge 80 = .ok (.goto (-73), 3) := by decide +kernel
theorem dX10_judge_83 : decode cX10_judge 83 = .ok (.iload_n 3, 1) := by decide +kernel
theorem dX10_judge_84 : decode cX10_judge 84 = .ok (.iload_n 1, 1) := by decide +kernel
theorem dX10_judge_85 : decode cX10_judge 85 = .ok (.if_icmp .ge 8, 3) := by decide +kernel
theorem dX10_judge_88 : decode cX10_judge 88 = .ok (.bipush 100, 2) := by decide +kernel
theorem dX10_judge_90 : decode cX10_judge 90 = .ok (.goto 4, 3) := by decide +kernel
theorem dX10_judge_93 : decode cX10_judge 93 = .ok (.iconst 0, 1) := by decide +kernel
theorem dX10_judge_94 : decode cX10_judge 94 = .ok (.ireturn, 1) := by decide +kernel
theorem dX10_keep_0 : decode cX10_keep 0 = .ok (.aload_n 0, 1) := by decide +kernel
theorem dX10_keep_1 : decode cX10_keep 1 = .ok (.getfield 16, 3) := by decide +kernel
theorem dX10_keep_4 : decode cX10_keep 4 = .ok (.aload_n 0, 1) := by decide +kernel
theorem dX10_keep_5 : decode cX10_keep 5 = .ok (.getfield 10, 3) := by decide +kernel
theorem dX10_keep_8 : decode cX10_keep 8 = .ok (.invokevirtual 313, 3) := by decide +kernel
theorem dX10_keep_11 : decode cX10_keep 11 = .ok (.aload_n 0, 1) := by decide +kernel
theorem dX10_keep_12 : decode cX10_keep 12 = .ok (.iconst 1, 1) := by decide +kernel
theorem dX10_keep_13 : decode cX10_keep 13 = .ok (.putfield 316, 3) := by decide +kernel
theorem dX10_keep_16 : decode cX10_keep 16 = .ok (.lconst 1, 1) := by decide +kernel
theorem dX10_keep_17 : decode cX10_keep 17 = .ok (.lreturn, 1) := by decide +kernel
theorem dX10_back_0 : decode cX10_back 0 = .ok (.aload_n 0, 1) := by decide +kernel
theorem dX10_back_1 : decode cX10_back 1 = .ok (.getfield 316, 3) := by decide +kernel
theorem dX10_back_4 : decode cX10_back 4 = .ok (.ifCond .ne 9, 3) := by decide +kernel
theorem dX10_back_7 : decode cX10_back 7 = .ok (.aload_n 0, 1) := by decide +kernel
theorem dX10_back_8 : decode cX10_back 8 = .ok (.iconst 2, 1) := by decide +kernel
theorem dX10_back_9 : decode cX10_back 9 = .ok (.invokevirtual 67, 3) := by decide +kernel
theorem dX10_back_12 : decode cX10_back 12 = .ok (.lreturn, 1) := by decide +kernel
theorem dX10_back_13 : decode cX10_back 13 = .ok (.aload_n 0, 1) := by decide +kernel
theorem dX10_back_14 : decode cX10_back 14 = .ok (.getfield 10, 3) := by decide +kernel
theorem dX10_back_17 : decode cX10_back 17 = .ok (.aload_n 0, 1) := by decide +kernel
theorem dX10_back_18 : decode cX10_back 18 = .ok (.getfield 16, 3) := by decide +kernel
theorem dX10_back_21 : decode cX10_back 21 = .ok (.invokevirtual 313, 3) := by decide +kernel
theorem dX10_back_24 : decode cX10_back 24 = .ok (.aload_n 0, 1) := by decide +kernel
theorem dX10_back_25 : decode cX10_back 25 = .ok (.getfield 36, 3) := by decide +kernel
theorem dX10_back_28 : decode cX10_back 28 = .ok (.invokevirtual 320, 3) := by decide +kernel
theorem dX10_back_31 : decode cX10_back 31 = .ok (.lconst 1, 1) := by decide +kernel
theorem dX10_back_32 : decode cX10_back 32 = .ok (.lreturn, 1) := by decide +kernel
theorem dX10_count_0 : decode cX10_count 0 = .ok (.iload_n 1, 1) := by decide +kernel
theorem dX10_count_1 : decode cX10_count 1 = .ok (.tableswitch 105 0 5 #[39, 51, 63, 75, 87, 99], 39) := by decide +kernel
theorem dX10_count_40 : decode cX10_count 40 = .ok (.aload_n 0, 1) := by decide +kernel
theorem dX10_count_41 : decode cX10_count 41 = .ok (.getfield 10, 3) := by decide +kernel
theorem dX10_count_44 : decode cX10_count 44 = .ok (.getfield 71, 3) := by decide +kernel
theorem dX10_count_47 : decode cX10_count 47 = .ok (.invokevirtual 225, 3) := by decide +kernel
theorem dX10_count_50 : decode cX10_count 50 = .ok (.i2l, 1) := by decide +kernel
theorem dX10_count_51 : decode cX10_count 51 = .ok (.lreturn, 1) := by decide +kernel
theorem dX10_count_52 : decode cX10_count 52 = .ok (.aload_n 0, 1) := by decide +kernel
theorem dX10_count_53 : decode cX10_count 53 = .ok (.getfield 10, 3) := by decide +kernel
theorem dX10_count_56 : decode cX10_count 56 = .ok (.getfield 111, 3) := by decide +kernel
theorem dX10_count_59 : decode cX10_count 59 = .ok (.invokevirtual 125, 3) := by decide +kernel
theorem dX10_count_62 : decode cX10_count 62 = .ok (.i2l, 1) := by decide +kernel
theorem dX10_count_63 : decode cX10_count 63 = .ok (.lreturn, 1) := by decide +kernel
theorem dX10_count_64 : decode cX10_count 64 = .ok (.aload_n 0, 1) := by decide +kernel
theorem dX10_count_65 : decode cX10_count 65 = .ok (.getfield 10, 3) := by decide +kernel
theorem dX10_count_68 : decode cX10_count 68 = .ok (.getfield 242, 3) := by decide +kernel
theorem dX10_count_71 : decode cX10_count 71 = .ok (.invokevirtual 125, 3) := by decide +kernel
theorem dX10_count_74 : decode cX10_count 74 = .ok (.i2l, 1) := by decide +kernel
theorem dX10_count_75 : decode cX10_count 75 = .ok (.lreturn, 1) := by decide +kernel
theorem dX10_count_76 : decode cX10_count 76 = .ok (.aload_n 0, 1) := by decide +kernel
theorem dX10_count_77 : decode cX10_count 77 = .ok (.getfield 10, 3) := by decide +kernel
theorem dX10_count_80 : decode cX10_count 80 = .ok (.getfield 245, 3) := by decide +kernel
theorem dX10_count_83 : decode cX10_count 83 = .ok (.invokevirtual 323, 3) := by decide +kernel
theorem dX10_count_86 : decode cX10_count 86 = .ok (.i2l, 1) := by decide +kernel
theorem dX10_count_87 : decode cX10_count 87 = .ok (.lreturn, 1) := by decide +kernel
theorem dX10_count_88 : decode cX10_count 88 = .ok (.aload_n 0, 1) := by decide +kernel
theorem dX10_count_89 : decode cX10_count 89 = .ok (.getfield 50, 3) := by decide +kernel
theorem dX10_count_92 : decode cX10_count 92 = .ok (.getfield 286, 3) := by decide +kernel
theorem dX10_count_95 : decode cX10_count 95 = .ok (.invokevirtual 125, 3) := by decide +kernel
theorem dX10_count_98 : decode cX10_count 98 = .ok (.i2l, 1) := by decide +kernel
theorem dX10_count_99 : decode cX10_count 99 = .ok (.lreturn, 1) := by decide +kernel
theorem dX10_count_100 : decode cX10_count 100 = .ok (.aload_n 0, 1) := by decide +kernel
theorem dX10_count_101 : decode cX10_count 101 = .ok (.getfield 304, 3) := by decide +kernel
theorem dX10_count_104 : decode cX10_count 104 = .ok (.i2l, 1) := by decide +kernel
theorem dX10_count_105 : decode cX10_count 105 = .ok (.lreturn, 1) := by decide +kernel
theorem dX10_count_106 : decode cX10_count 106 = .ok (.aload_n 0, 1) := by decide +kernel
theorem dX10_count_107 : decode cX10_count 107 = .ok (.iconst 1, 1) := by decide +kernel
theorem dX10_count_108 : decode cX10_count 108 = .ok (.invokevirtual 67, 3) := by decide +kernel
theorem dX10_count_111 : decode cX10_count 111 = .ok (.lreturn, 1) := by decide +kernel
theorem dX10_found_0 : decode cX10_found 0 = .ok (.iload_n 1, 1) := by decide +kernel
theorem dX10_found_1 : decode cX10_found 1 = .ok (.iconst 1, 1) := by decide +kernel
theorem dX10_found_2 : decode cX10_found 2 = .ok (.bipush 7, 2) := by decide +kernel
theorem dX10_found_4 : decode cX10_found 4 = .ok (.invokestatic 129, 3) := by decide +kernel
theorem dX10_found_7 : decode cX10_found 7 = .ok (.ifCond .ne 9, 3) := by decide +kernel
theorem dX10_found_10 : decode cX10_found 10 = .ok (.aload_n 0, 1) := by decide +kernel
theorem dX10_found_11 : decode cX10_found 11 = .ok (.iconst 1, 1) := by decide +kernel
theorem dX10_found_12 : decode cX10_found 12 = .ok (.invokevirtual 67, 3) := by decide +kernel
theorem dX10_found_15 : decode cX10_found 15 = .ok (.lreturn, 1) := by decide +kernel
theorem dX10_found_16 : decode cX10_found 16 = .ok (.aload_n 0, 1) := by decide +kernel
theorem dX10_found_17 : decode cX10_found 17 = .ok (.getfield 58, 3) := by decide +kernel
theorem dX10_found_20 : decode cX10_found 20 = .ok (.iload_n 1, 1) := by decide +kernel
theorem dX10_found_21 : decode cX10_found 21 = .ok (.iaload, 1) := by decide +kernel
theorem dX10_found_22 : decode cX10_found 22 = .ok (.i2l, 1) := by decide +kernel
theorem dX10_found_23 : decode cX10_found 23 = .ok (.lreturn, 1) := by decide +kernel
theorem dX10_refuse_0 : decode cX10_refuse 0 = .ok (.iload_n 1, 1) := by decide +kernel
theorem dX10_refuse_1 : decode cX10_refuse 1 = .ok (.iconst 1, 1) := by decide +kernel
theorem dX10_refuse_2 : decode cX10_refuse 2 = .ok (.bipush 7, 2) := by decide +kernel
theorem dX10_refuse_4 : decode cX10_refuse 4 = .ok (.invokestatic 129, 3) := by decide +kernel
theorem dX10_refuse_7 : decode cX10_refuse 7 = .ok (.ifCond .eq 13, 3) := by decide +kernel
theorem dX10_refuse_10 : decode cX10_refuse 10 = .ok (.aload_n 0, 1) := by decide +kernel
theorem dX10_refuse_11 : decode cX10_refuse 11 = .ok (.getfield 58, 3) := by decide +kernel
theorem dX10_refuse_14 : decode cX10_refuse 14 = .ok (.iload_n 1, 1) := by decide +kernel
theorem dX10_refuse_15 : decode cX10_refuse 15 = .ok (.dup2, 1) := by decide +kernel
theorem dX10_refuse_16 : decode cX10_refuse 16 = .ok (.iaload, 1) := by decide +kernel
theorem dX10_refuse_17 : decode cX10_refuse 17 = .ok (.iconst 1, 1) := by decide +kernel
theorem dX10_refuse_18 : decode cX10_refuse 18 = .ok (.iadd, 1) := by decide +kernel
theorem dX10_refuse_19 : decode cX10_refuse 19 = .ok (.iastore, 1) := by decide +kernel
theorem dX10_refuse_20 : decode cX10_refuse 20 = .ok (.ldc2_w 326, 3) := by decide +kernel
theorem dX10_refuse_23 : decode cX10_refuse 23 = .ok (.iload_n 1, 1) := by decide +kernel
theorem dX10_refuse_24 : decode cX10_refuse 24 = .ok (.i2l, 1) := by decide +kernel
theorem dX10_refuse_25 : decode cX10_refuse 25 = .ok (.lsub, 1) := by decide +kernel
theorem dX10_refuse_26 : decode cX10_refuse 26 = .ok (.lreturn, 1) := by decide +kernel
theorem dX10_whyNoSizes_0 : decode cX10_whyNoSizes 0 = .ok (.aload_n 0, 1) := by decide +kernel
theorem dX10_whyNoSizes_1 : decode cX10_whyNoSizes 1 = .ok (.getfield 36, 3) := by decide +kernel
theorem dX10_whyNoSizes_4 : decode cX10_whyNoSizes 4 = .ok (.invokevirtual 328, 3) := by decide +kernel
theorem dX10_whyNoSizes_7 : decode cX10_whyNoSizes 7 = .ok (.ifCond .ne 5, 3) := by decide +kernel
theorem dX10_whyNoSizes_10 : decode cX10_whyNoSizes 10 = .ok (.iconst 2, 1) := by decide +kernel
theorem dX10_whyNoSizes_11 : decode cX10_whyNoSizes 11 = .ok (.ireturn, 1) := by decide +kernel
theorem dX10_whyNoSizes_12 : decode cX10_whyNoSizes 12 = .ok (.aload_n 0, 1) := by decide +kernel
theorem dX10_whyNoSizes_13 : decode cX10_whyNoSizes 13 = .ok (.getfield 36, 3) := by decide +kernel
theorem dX10_whyNoSizes_16 : decode cX10_whyNoSizes 16 = .ok (.invokevirtual 331, 3) := by decide +kernel
theorem dX10_whyNoSizes_19 : decode cX10_whyNoSizes 19 = .ok (.ifCond .eq 8, 3) := by decide +kernel
theorem dX10_whyNoSizes_22 : decode cX10_whyNoSizes 22 = .ok (.bipush 7, 2) := by decide +kernel
theorem dX10_whyNoSizes_24 : decode cX10_whyNoSizes 24 = .ok (.goto 4, 3) := by decide +kernel
theorem dX10_whyNoSizes_27 : decode cX10_whyNoSizes 27 = .ok (.iconst 0, 1) := by decide +kernel
theorem dX10_whyNoSizes_28 : decode cX10_whyNoSizes 28 = .ok (.ireturn, 1) := by decide +kernel
theorem dX10_whyNoPaper_0 : decode cX10_whyNoPaper 0 = .ok (.aload_n 0, 1) := by decide +kernel
theorem dX10_whyNoPaper_1 : decode cX10_whyNoPaper 1 = .ok (.invokevirtual 200, 3) := by decide +kernel
theorem dX10_whyNoPaper_4 : decode cX10_whyNoPaper 4 = .ok (.istore_n 1, 1) := by decide +kernel
theorem dX10_whyNoPaper_5 : decode cX10_whyNoPaper 5 = .ok (.iload_n 1, 1) := by decide +kernel
theorem dX10_whyNoPaper_6 : decode cX10_whyNoPaper 6 = .ok (.ifCond .ne 21, 3) := by decide +kernel
theorem dX10_whyNoPaper_9 : decode cX10_whyNoPaper 9 = .ok (.aload_n 0, 1) := by decide +kernel
theorem dX10_whyNoPaper_10 : decode cX10_whyNoPaper 10 = .ok (.getfield 10, 3) := by decide +kernel
theorem dX10_whyNoPaper_13 : decode cX10_whyNoPaper 13 = .ok (.getfield 245, 3) := by decide +kernel
theorem dX10_whyNoPaper_16 : decode cX10_whyNoPaper 16 = .ok (.invokevirtual 323, 3) := by decide +kernel
theorem dX10_whyNoPaper_19 : decode cX10_whyNoPaper 19 = .ok (.ifCond .ne 8, 3) := by decide +kernel
theorem dX10_whyNoPaper_22 : decode cX10_whyNoPaper 22 = .ok (.bipush 6, 2) := by decide +kernel
theorem dX10_whyNoPaper_24 : decode cX10_whyNoPaper 24 = .ok (.goto 4, 3) := by decide +kernel
theorem dX10_whyNoPaper_27 : decode cX10_whyNoPaper 27 = .ok (.iload_n 1, 1) := by decide +kernel
theorem dX10_whyNoPaper_28 : decode cX10_whyNoPaper 28 = .ok (.ireturn, 1) := by decide +kernel
theorem dX10_isModel_0 : decode cX10_isModel 0 = .ok (.iconst 1, 1) := by decide +kernel
theorem dX10_isModel_1 : decode cX10_isModel 1 = .ok (.aload_n 0, 1) := by decide +kernel
theorem dX10_isModel_2 : decode cX10_isModel 2 = .ok (.getfield 10, 3) := by decide +kernel
theorem dX10_isModel_5 : decode cX10_isModel 5 = .ok (.getfield 71, 3) := by decide +kernel
theorem dX10_isModel_8 : decode cX10_isModel 8 = .ok (.invokevirtual 225, 3) := by decide +kernel
theorem dX10_isModel_11 : decode cX10_isModel 11 = .ok (.ishl, 1) := by decide +kernel
theorem dX10_isModel_12 : decode cX10_isModel 12 = .ok (.iconst 1, 1) := by decide +kernel
theorem dX10_isModel_13 : decode cX10_isModel 13 = .ok (.isub, 1) := by decide +kernel
theorem dX10_isModel_14 : decode cX10_isModel 14 = .ok (.istore_n 2, 1) := by decide +kernel
theorem dX10_isModel_15 : decode cX10_isModel 15 = .ok (.iload_n 1, 1) := by decide +kernel
theorem dX10_isModel_16 : decode cX10_isModel 16 = .ok (.iload_n 2, 1) := by decide +kernel
theorem dX10_isModel_17 : decode cX10_isModel 17 = .ok (.iconst (-1), 1) := by decide +kernel
theorem dX10_isModel_18 : decode cX10_isModel 18 = .ok (.ixor, 1) := by decide +kernel
theorem dX10_isModel_19 : decode cX10_isModel 19 = .ok (.iand, 1) := by decide +kernel
theorem dX10_isModel_20 : decode cX10_isModel 20 = .ok (.ifCond .ne 19, 3) := by decide +kernel
theorem dX10_isModel_23 : decode cX10_isModel 23 = .ok (.iload_n 1, 1) := by decide +kernel
theorem dX10_isModel_24 : decode cX10_isModel 24 = .ok (.invokestatic 195, 3) := by decide +kernel
theorem dX10_isModel_27 : decode cX10_isModel 27 = .ok (.iconst 1, 1) := by decide +kernel
theorem dX10_isModel_28 : decode cX10_isModel 28 = .ok (.iconst 4, 1) := by decide +kernel
theorem dX10_isModel_29 : decode cX10_isModel 29 = .ok (.invokestatic 129, 3) := by decide +kernel
theorem dX10_isModel_32 : decode cX10_isModel 32 = .ok (.ifCond .eq 7, 3) := by decide +kernel
theorem dX10_isModel_35 : decode cX10_isModel 35 = .ok (.iconst 1, 1) := by decide +kernel
theorem dX10_isModel_36 : decode cX10_isModel 36 = .ok (.goto 4, 3) := by decide +kernel
theorem dX10_isModel_39 : decode cX10_isModel 39 = .ok (.iconst 0, 1) := by decide +kernel
theorem dX10_isModel_40 : decode cX10_isModel 40 = .ok (.ireturn, 1) := by decide +kernel
theorem dX10_isState_0 : decode cX10_isState 0 = .ok (.iload_n 0, 1) := by decide +kernel
theorem dX10_isState_1 : decode cX10_isState 1 = .ok (.iconst 0, 1) := by decide +kernel
theorem dX10_isState_2 : decode cX10_isState 2 = .ok (.bipush 35, 2) := by decide +kernel
theorem dX10_isState_4 : decode cX10_isState 4 = .ok (.invokestatic 129, 3) := by decide +kernel
theorem dX10_isState_7 : decode cX10_isState 7 = .ok (.ireturn, 1) := by decide +kernel
theorem dX10_isRate_0 : decode cX10_isRate 0 = .ok (.iload_n 0, 1) := by decide +kernel
theorem dX10_isRate_1 : decode cX10_isRate 1 = .ok (.sipush (-300), 3) := by decide +kernel
theorem dX10_isRate_4 : decode cX10_isRate 4 = .ok (.sipush 300, 3) := by decide +kernel
theorem dX10_isRate_7 : decode cX10_isRate 7 = .ok (.invokestatic 129, 3) := by decide +kernel
theorem dX10_isRate_10 : decode cX10_isRate 10 = .ok (.ireturn, 1) := by decide +kernel
theorem dX10_isSteps_0 : decode cX10_isSteps 0 = .ok (.iload_n 0, 1) := by decide +kernel
theorem dX10_isSteps_1 : decode cX10_isSteps 1 = .ok (.bipush (-3), 2) := by decide +kernel
theorem dX10_isSteps_3 : decode cX10_isSteps 3 = .ok (.iconst 3, 1) := by decide +kernel
theorem dX10_isSteps_4 : decode cX10_isSteps 4 = .ok (.invokestatic 129, 3) := by decide +kernel
theorem dX10_isSteps_7 : decode cX10_isSteps 7 = .ok (.ireturn, 1) := by decide +kernel
theorem dX11_init_0 : decode cX11_init 0 = .ok (.aload_n 0, 1) := by decide +kernel
theorem dX11_init_1 : decode cX11_init 1 = .ok (.invokespecial 3, 3) := by decide +kernel
theorem dX11_init_4 : decode cX11_init 4 = .ok (.aload_n 0, 1) := by decide +kernel
theorem dX11_init_5 : decode cX11_init 5 = .ok (.sipush 160, 3) := by decide +kernel
theorem dX11_init_8 : decode cX11_init 8 = .ok (.newarray .int, 2) := by decide +kernel
theorem dX11_init_10 : decode cX11_init 10 = .ok (.putfield 9, 3) := by decide +kernel
theorem dX11_init_13 : decode cX11_init 13 = .ok (.aload_n 0, 1) := by decide +kernel
theorem dX11_init_14 : decode cX11_init 14 = .ok (.sipush 160, 3) := by decide +kernel
theorem dX11_init_17 : decode cX11_init 17 = .ok (.newarray .int, 2) := by decide +kernel
theorem dX11_init_19 : decode cX11_init 19 = .ok (.putfield 13, 3) := by decide +kernel
theorem dX11_init_22 : decode cX11_init 22 = .ok (.aload_n 0, 1) := by decide +kernel
theorem dX11_init_23 : decode cX11_init 23 = .ok (.bipush 108, 2) := by decide +kernel
theorem dX11_init_25 : decode cX11_init 25 = .ok (.newarray .int, 2) := by decide +kernel
theorem dX11_init_27 : decode cX11_init 27 = .ok (.putfield 16, 3) := by decide +kernel
theorem dX11_init_30 : decode cX11_init 30 = .ok (.aload_n 0, 1) := by decide +kernel
theorem dX11_init_31 : decode cX11_init 31 = .ok (.iconst 3, 1) := by decide +kernel
theorem dX11_init_32 : decode cX11_init 32 = .ok (.newarray .int, 2) := by decide +kernel
theorem dX11_init_34 : decode cX11_init 34 = .ok (.putfield 19, 3) := by decide +kernel
theorem dX11_init_37 : decode cX11_init 37 = .ok (.aload_n 0, 1) := by decide +kernel
theorem dX11_init_38 : decode cX11_init 38 = .ok (.bipush 60, 2) := by decide +kernel
theorem dX11_init_40 : decode cX11_init 40 = .ok (.newarray .int, 2) := by decide +kernel
theorem dX11_init_42 : decode cX11_init 42 = .ok (.putfield 22, 3) := by decide +kernel
theorem dX11_init_45 : decode cX11_init 45 = .ok (.aload_n 0, 1) := by decide +kernel
theorem dX11_init_46 : decode cX11_init 46 = .ok (.bipush 60, 2) := by decide +kernel
theorem dX11_init_48 : decode cX11_init 48 = .ok (.newarray .int, 2) := by decide +kernel
theorem dX11_init_50 : decode cX11_init 50 = .ok (.putfield 25, 3) := by decide +kernel
theorem dX11_init_53 : decode cX11_init 53 = .ok (.aload_n 0, 1) := by decide +kernel
theorem dX11_init_54 : decode cX11_init 54 = .ok (.bipush 16, 2) := by decide +kernel
theorem dX11_init_56 : decode cX11_init 56 = .ok (.newarray .int, 2) := by decide +kernel
theorem dX11_init_58 : decode cX11_init 58 = .ok (.putfield 28, 3) := by decide +kernel
theorem dX11_init_61 : decode cX11_init 61 = .ok (.aload_n 0, 1) := by decide +kernel
theorem dX11_init_62 : decode cX11_init 62 = .ok (.bipush 8, 2) := by decide +kernel
theorem dX11_init_64 : decode cX11_init 64 = .ok (.newarray .long, 2) := by decide +kernel
theorem dX11_init_66 : decode cX11_init 66 = .ok (.putfield 31, 3) := by decide +kernel
theorem dX11_init_69 : decode cX11_init 69 = .ok (.aload_n 0, 1) := by decide +kernel
theorem dX11_init_70 : decode cX11_init 70 = .ok (.iconst 4, 1) := by decide +kernel
theorem dX11_init_71 : decode cX11_init 71 = .ok (.newarray .int, 2) := by decide +kernel
theorem dX11_init_73 : decode cX11_init 73 = .ok (.putfield 35, 3) := by decide +kernel
theorem dX11_init_76 : decode cX11_init 76 = .ok (.aload_n 0, 1) := by decide +kernel
theorem dX11_init_77 : decode cX11_init 77 = .ok (.iconst 4, 1) := by decide +kernel
theorem dX11_init_78 : decode cX11_init 78 = .ok (.newarray .long, 2) := by decide +kernel
theorem dX11_init_80 : decode cX11_init 80 = .ok (.putfield 38, 3) := by decide +kernel
theorem dX11_init_83 : decode cX11_init 83 = .ok (.aload_n 0, 1) := by decide +kernel
theorem dX11_init_84 : decode cX11_init 84 = .ok (.iconst 4, 1) := by decide +kernel
theorem dX11_init_85 : decode cX11_init 85 = .ok (.newarray .int, 2) := by decide +kernel
theorem dX11_init_87 : decode cX11_init 87 = .ok (.putfield 41, 3) := by decide +kernel
theorem dX11_init_90 : decode cX11_init 90 = .ok (.aload_n 0, 1) := by decide +kernel
theorem dX11_init_91 : decode cX11_init 91 = .ok (.bipush 16, 2) := by decide +kernel
theorem dX11_init_93 : decode cX11_init 93 = .ok (.newarray .long, 2) := by decide +kernel
theorem dX11_init_95 : decode cX11_init 95 = .ok (.putfield 44, 3) := by decide +kernel
theorem dX11_init_98 : decode cX11_init 98 = .ok (.aload_n 0, 1) := by decide +kernel
theorem dX11_init_99 : decode cX11_init 99 = .ok (.iconst 4, 1) := by decide +kernel
theorem dX11_init_100 : decode cX11_init 100 = .ok (.newarray .long, 2) := by decide +kernel
theorem dX11_init_102 : decode cX11_init 102 = .ok (.putfield 47, 3) := by decide +kernel
theorem dX11_init_105 : decode cX11_init 105 = .ok (.aload_n 0, 1) := by decide +kernel
theorem dX11_init_106 : decode cX11_init 106 = .ok (.iconst 4, 1) := by decide +kernel
theorem dX11_init_107 : decode cX11_init 107 = .ok (.newarray .long, 2) := by decide +kernel
theorem dX11_init_109 : decode cX11_init 109 = .ok (.putfield 50, 3) := by decide +kernel
theorem dX11_init_112 : decode cX11_init 112 = .ok (.aload_n 0, 1) := by decide +kernel
theorem dX11_init_113 : decode cX11_init 113 = .ok (.bipush 80, 2) := by decide +kernel
theorem dX11_init_115 : decode cX11_init 115 = .ok (.newarray .long, 2) := by decide +kernel
theorem dX11_init_117 : decode cX11_init 117 = .ok (.putfield 53, 3) := by decide +kernel
theorem dX11_init_120 : decode cX11_init 120 = .ok (.iconst 0, 1) := by decide +kernel
theorem dX11_init_121 : decode cX11_init 121 = .ok (.istore_n 1, 1) := by decide +kernel
theorem dX11_init_122 : decode cX11_init 122 = .ok (.iload_n 1, 1) := by decide +kernel
theorem dX11_init_123 : decode cX11_init 123 = .ok (.iconst 3, 1) := by decide +kernel
theorem dX11_init_124 : decode cX11_init 124 = .ok (.if_icmp .ge 16, 3) := by decide +kernel
theorem dX11_init_127 : decode cX11_init 127 = .ok (.aload_n 0, 1) := by decide +kernel
theorem dX11_init_128 : decode cX11_init 128 = .ok (.getfield 19, 3) := by decide +kernel
theorem dX11_init_131 : decode cX11_init 131 = .ok (.iload_n 1, 1) := by decide +kernel
theorem dX11_init_132 : decode cX11_init 132 = .ok (.iconst (-1), 1) := by decide +kernel
theorem dX11_init_133 : decode cX11_init 133 = .ok (.iastore, 1) := by decide +kernel
theorem dX11_init_134 : decode cX11_init 134 = .ok (.iinc 1 1, 3) := by decide +kernel
theorem dX11_init_137 : decode cX11_init 137 = .ok (.goto (-15), 3) := by decide +kernel
theorem dX11_init_140 : decode cX11_init 140 = .ok (.iconst 0, 1) := by decide +kernel
theorem dX11_init_141 : decode cX11_init 141 = .ok (.istore_n 1, 1) := by decide +kernel
theorem dX11_init_142 : decode cX11_init 142 = .ok (.iload_n 1, 1) := by decide +kernel
theorem dX11_init_143 : decode cX11_init 143 = .ok (.bipush 36, 2) := by decide +kernel
theorem dX11_init_145 : decode cX11_init 145 = .ok (.if_icmp .ge 29, 3) := by decide +kernel
theorem dX11_init_148 : decode cX11_init 148 = .ok (.aload_n 0, 1) := by decide +kernel
theorem dX11_init_149 : decode cX11_init 149 = .ok (.getfield 9, 3) := by decide +kernel
theorem dX11_init_152 : decode cX11_init 152 = .ok (.bipush 88, 2) := by decide +kernel
theorem dX11_init_154 : decode cX11_init 154 = .ok (.iload_n 1, 1) := by decide +kernel
theorem dX11_init_155 : decode cX11_init 155 = .ok (.iadd, 1) := by decide +kernel
theorem dX11_init_156 : decode cX11_init 156 = .ok (.iconst 1, 1) := by decide +kernel
theorem dX11_init_157 : decode cX11_init 157 = .ok (.iastore, 1) := by decide +kernel
theorem dX11_init_158 : decode cX11_init 158 = .ok (.aload_n 0, 1) := by decide +kernel
theorem dX11_init_159 : decode cX11_init 159 = .ok (.getfield 9, 3) := by decide +kernel
theorem dX11_init_162 : decode cX11_init 162 = .ok (.bipush 124, 2) := by decide +kernel
theorem dX11_init_164 : decode cX11_init 164 = .ok (.iload_n 1, 1) := by decide +kernel
theorem dX11_init_165 : decode cX11_init 165 = .ok (.iadd, 1) := by decide +kernel
theorem dX11_init_166 : decode cX11_init 166 = .ok (.iconst 0, 1) := by decide +kernel
theorem dX11_init_167 : decode cX11_init 167 = .ok (.iastore, 1) := by decide +kernel
theorem dX11_init_168 : decode cX11_init 168 = .ok (.iinc 1 1, 3) := by decide +kernel
theorem dX11_init_171 : decode cX11_init 171 = .ok (.goto (-29), 3) := by decide +kernel
theorem dX11_init_174 : decode cX11_init 174 = .ok (.return_, 1) := by decide +kernel
theorem dX11_tellFinding_0 : decode cX11_tellFinding 0 = .ok (.aload_n 0, 1) := by decide +kernel
theorem dX11_tellFinding_1 : decode cX11_tellFinding 1 = .ok (.getfield 31, 3) := by decide +kernel
theorem dX11_tellFinding_4 : decode cX11_tellFinding 4 = .ok (.ldc2_w 56, 3) := by decide +kernel
theorem dX11_tellFinding_7 : decode cX11_tellFinding 7 = .ok (.lload_n 1, 1) := by decide +kernel
theorem dX11_tellFinding_8 : decode cX11_tellFinding 8 = .ok (.lsub, 1) := by decide +kernel
theorem dX11_tellFinding_9 : decode cX11_tellFinding 9 = .ok (.l2i, 1) := by decide +kernel
theorem dX11_tellFinding_10 : decode cX11_tellFinding 10 = .ok (.dup2, 1) := by decide +kernel
theorem dX11_tellFinding_11 : decode cX11_tellFinding 11 = .ok (.laload, 1) := by decide +kernel
theorem dX11_tellFinding_12 : decode cX11_tellFinding 12 = .ok (.lconst 1, 1) := by decide +kernel
theorem dX11_tellFinding_13 : decode cX11_tellFinding 13 = .ok (.ladd, 1) := by decide +kernel
theorem dX11_tellFinding_14 : decode cX11_tellFinding 14 = .ok (.lastore, 1) := by decide +kernel
theorem dX11_tellFinding_15 : decode cX11_tellFinding 15 = .ok (.lload_n 1, 1) := by decide +kernel
theorem dX11_tellFinding_16 : decode cX11_tellFinding 16 = .ok (.lreturn, 1) := by decide +kernel
theorem dX11_in_0 : decode cX11_in 0 = .ok (.iload_n 0, 1) := by decide +kernel
theorem dX11_in_1 : decode cX11_in 1 = .ok (.iload_n 1, 1) := by decide +kernel
theorem dX11_in_2 : decode cX11_in 2 = .ok (.if_icmp .lt 12, 3) := by decide +kernel
theorem dX11_in_5 : decode cX11_in 5 = .ok (.iload_n 0, 1) := by decide +kernel
theorem dX11_in_6 : decode cX11_in 6 = .ok (.iload_n 2, 1) := by decide +kernel
theorem dX11_in_7 : decode cX11_in 7 = .ok (.if_icmp .gt 7, 3) := by decide +kernel
theorem dX11_in_10 : decode cX11_in 10 = .ok (.iconst 1, 1) := by decide +kernel
theorem dX11_in_11 : decode cX11_in 11 = .ok (.goto 4, 3) := by decide +kernel
theorem dX11_in_14 : decode cX11_in 14 = .ok (.iconst 0, 1) := by decide +kernel
theorem dX11_in_15 : decode cX11_in 15 = .ok (.ireturn, 1) := by decide +kernel
theorem dX11_isCause_0 : decode cX11_isCause 0 = .ok (.iload_n 1, 1) := by decide +kernel
theorem dX11_isCause_1 : decode cX11_isCause 1 = .ok (.iconst 0, 1) := by decide +kernel
theorem dX11_isCause_2 : decode cX11_isCause 2 = .ok (.aload_n 0, 1) := by decide +kernel
theorem dX11_isCause_3 : decode cX11_isCause 3 = .ok (.getfield 9, 3) := by decide +kernel
theorem dX11_isCause_6 : decode cX11_isCause 6 = .ok (.iconst 0, 1) := by decide +kernel
theorem dX11_isCause_7 : decode cX11_isCause 7 = .ok (.iaload, 1) := by decide +kernel
theorem dX11_isCause_8 : decode cX11_isCause 8 = .ok (.iconst 1, 1) := by decide +kernel
theorem dX11_isCause_9 : decode cX11_isCause 9 = .ok (.isub, 1) := by decide +kernel
theorem dX11_isCause_10 : decode cX11_isCause 10 = .ok (.invokestatic 58, 3) := by decide +kernel
theorem dX11_isCause_13 : decode cX11_isCause 13 = .ok (.ireturn, 1) := by decide +kernel
theorem dX11_isState_0 : decode cX11_isState 0 = .ok (.iload_n 0, 1) := by decide +kernel
theorem dX11_isState_1 : decode cX11_isState 1 = .ok (.iconst 0, 1) := by decide +kernel
theorem dX11_isState_2 : decode cX11_isState 2 = .ok (.bipush 35, 2) := by decide +kernel
theorem dX11_isState_4 : decode cX11_isState 4 = .ok (.invokestatic 58, 3) := by decide +kernel
theorem dX11_isState_7 : decode cX11_isState 7 = .ok (.ireturn, 1) := by decide +kernel
theorem dX11_cause_0 : decode cX11_cause 0 = .ok (.iload_n 1, 1) := by decide +kernel
theorem dX11_cause_1 : decode cX11_cause 1 = .ok (.tableswitch 103 0 5 #[39, 45, 73, 73, 73, 45], 39) := by decide +kernel
theorem dX11_cause_40 : decode cX11_cause 40 = .ok (.iconst 1, 1) := by decide +kernel
theorem dX11_cause_41 : decode cX11_cause 41 = .ok (.istore 4, 2) := by decide +kernel
theorem dX11_cause_43 : decode cX11_cause 43 = .ok (.goto 64, 3) := by decide +kernel
theorem dX11_cause_46 : decode cX11_cause 46 = .ok (.iload_n 2, 1) := by decide +kernel
theorem dX11_cause_47 : decode cX11_cause 47 = .ok (.iconst 0, 1) := by decide +kernel
theorem dX11_cause_48 : decode cX11_cause 48 = .ok (.iconst 3, 1) := by decide +kernel
theorem dX11_cause_49 : decode cX11_cause 49 = .ok (.invokestatic 58, 3) := by decide +kernel
theorem dX11_cause_52 : decode cX11_cause 52 = .ok (.ifCond .eq 16, 3) := by decide +kernel
theorem dX11_cause_55 : decode cX11_cause 55 = .ok (.iload_n 3, 1) := by decide +kernel
theorem dX11_cause_56 : decode cX11_cause 56 = .ok (.iconst 1, 1) := by decide +kernel
theorem dX11_cause_57 : decode cX11_cause 57 = .ok (.iconst 3, 1) := by decide +kernel
theorem dX11_cause_58 : decode cX11_cause 58 = .ok (.invokestatic 58, 3) := by decide +kernel
theorem dX11_cause_61 : decode cX11_cause 61 = .ok (.ifCond .eq 7, 3) := by decide +kernel
theorem dX11_cause_64 : decode cX11_cause 64 = .ok (.iconst 1, 1) := by decide +kernel
theorem dX11_cause_65 : decode cX11_cause 65 = .ok (.goto 4, 3) := by decide +kernel
theorem dX11_cause_68 : decode cX11_cause 68 = .ok (.iconst 0, 1) := by decide +kernel
theorem dX11_cause_69 : decode cX11_cause 69 = .ok (.istore 4, 2) := by decide +kernel
theorem dX11_cause_71 : decode cX11_cause 71 = .ok (.goto 36, 3) := by decide +kernel
theorem dX11_cause_74 : decode cX11_cause 74 = .ok (.iload_n 2, 1) := by decide +kernel
theorem dX11_cause_75 : decode cX11_cause 75 = .ok (.bipush (-2), 2) := by decide +kernel
theorem dX11_cause_77 : decode cX11_cause 77 = .ok (.iconst 2, 1) := by decide +kernel
theorem dX11_cause_78 : decode cX11_cause 78 = .ok (.invokestatic 58, 3) := by decide +kernel
theorem dX11_cause_81 : decode cX11_cause 81 = .ok (.ifCond .eq 17, 3) := by decide +kernel
theorem dX11_cause_84 : decode cX11_cause 84 = .ok (.iload_n 3, 1) := by decide +kernel
theorem dX11_cause_85 : decode cX11_cause 85 = .ok (.bipush (-2), 2) := by decide +kernel
theorem dX11_cause_87 : decode cX11_cause 87 = .ok (.iconst 2, 1) := by decide +kernel
theorem dX11_cause_88 : decode cX11_cause 88 = .ok (.invokestatic 58, 3) := by decide +kernel
theorem dX11_cause_91 : decode cX11_cause 91 = .ok (.ifCond .eq 7, 3) := by decide +kernel
theorem dX11_cause_94 : decode cX11_cause 94 = .ok (.iconst 1, 1) := by decide +kernel
theorem dX11_cause_95 : decode cX11_cause 95 = .ok (.goto 4, 3) := by decide +kernel
theorem dX11_cause_98 : decode cX11_cause 98 = .ok (.iconst 0, 1) := by decide +kernel
theorem dX11_cause_99 : decode cX11_cause 99 = .ok (.istore 4, 2) := by decide +kernel
theorem dX11_cause_101 : decode cX11_cause 101 = .ok (.goto 6, 3) := by decide +kernel
theorem dX11_cause_104 : decode cX11_cause 104 = .ok (.iconst 0, 1) := by decide +kernel
theorem dX11_cause_105 : decode cX11_cause 105 = .ok (.istore 4, 2) := by decide +kernel
theorem dX11_cause_107 : decode cX11_cause 107 = .ok (.iload 4, 2) := by decide +kernel
theorem dX11_cause_109 : decode cX11_cause 109 = .ok (.ifCond .ne 11, 3) := by decide +kernel
theorem dX11_cause_112 : decode cX11_cause 112 = .ok (.aload_n 0, 1) := by decide +kernel
theorem dX11_cause_113 : decode cX11_cause 113 = .ok (.ldc2_w 62, 3) := by decide +kernel
theorem dX11_cause_116 : decode cX11_cause 116 = .ok (.invokevirtual 64, 3) := by decide +kernel
theorem dX11_cause_119 : decode cX11_cause 119 = .ok (.lreturn, 1) := by decide +kernel
theorem dX11_cause_120 : decode cX11_cause 120 = .ok (.aload_n 0, 1) := by decide +kernel
theorem dX11_cause_121 : decode cX11_cause 121 = .ok (.getfield 9, 3) := by decide +kernel
theorem dX11_cause_124 : decode cX11_cause 124 = .ok (.iconst 0, 1) := by decide +kernel
theorem dX11_cause_125 : decode cX11_cause 125 = .ok (.iaload, 1) := by decide +kernel
theorem dX11_cause_126 : decode cX11_cause 126 = .ok (.istore 5, 2) := by decide +kernel
theorem dX11_cause_128 : decode cX11_cause 128 = .ok (.iload 5, 2) := by decide +kernel
theorem dX11_cause_130 : decode cX11_cause 130 = .ok (.bipush 8, 2) := by decide +kernel
theorem dX11_cause_132 : decode cX11_cause 132 = .ok (.if_icmp .ne 11, 3) := by decide +kernel
theorem dX11_cause_135 : decode cX11_cause 135 = .ok (.aload_n 0, 1) := by decide +kernel
theorem dX11_cause_136 : decode cX11_cause 136 = .ok (.ldc2_w 68, 3) := by decide +kernel
theorem dX11_cause_139 : decode cX11_cause 139 = .ok (.invokevirtual 64, 3) := by decide +kernel
theorem dX11_cause_142 : decode cX11_cause 142 = .ok (.lreturn, 1) := by decide +kernel
theorem dX11_cause_143 : decode cX11_cause 143 = .ok (.aload_n 0, 1) := by decide +kernel
theorem dX11_cause_144 : decode cX11_cause 144 = .ok (.getfield 9, 3) := by decide +kernel
theorem dX11_cause_147 : decode cX11_cause 147 = .ok (.bipush 8, 2) := by decide +kernel
theorem dX11_cause_149 : decode cX11_cause 149 = .ok (.iload 5, 2) := by decide +kernel
theorem dX11_cause_151 : decode cX11_cause 151 = .ok (.iadd, 1) := by decide +kernel
theorem dX11_cause_152 : decode cX11_cause 152 = .ok (.iload_n 1, 1) := by decide +kernel
theorem dX11_cause_153 : decode cX11_cause 153 = .ok (.iastore, 1) := by decide +kernel
theorem dX11_cause_154 : decode cX11_cause 154 = .ok (.aload_n 0, 1) := by decide +kernel
theorem dX11_cause_155 : decode cX11_cause 155 = .ok (.getfield 9, 3) := by decide +kernel
theorem dX11_cause_158 : decode cX11_cause 158 = .ok (.bipush 16, 2) := by decide +kernel
theorem dX11_cause_160 : decode cX11_cause 160 = .ok (.iload 5, 2) := by decide +kernel
theorem dX11_cause_162 : decode cX11_cause 162 = .ok (.iadd, 1) := by decide +kernel
theorem dX11_cause_163 : decode cX11_cause 163 = .ok (.iload_n 1, 1) := by decide +kernel
theorem dX11_cause_164 : decode cX11_cause 164 = .ok (.ifCond .ne 7, 3) := by decide +kernel
theorem dX11_cause_167 : decode cX11_cause 167 = .ok (.iconst 0, 1) := by decide +kernel
theorem dX11_cause_168 : decode cX11_cause 168 = .ok (.goto 4, 3) := by decide +kernel
theorem dX11_cause_171 : decode cX11_cause 171 = .ok (.iload_n 2, 1) := by decide +kernel
theorem dX11_cause_172 : decode cX11_cause 172 = .ok (.iastore, 1) := by decide +kernel
theorem dX11_cause_173 : decode cX11_cause 173 = .ok (.aload_n 0, 1) := by decide +kernel
theorem dX11_cause_174 : decode cX11_cause 174 = .ok (.getfield 9, 3) := by decide +kernel
theorem dX11_cause_177 : decode cX11_cause 177 = .ok (.bipush 24, 2) := by decide +kernel
theorem dX11_cause_179 : decode cX11_cause 179 = .ok (.iload 5, 2) := by decide +kernel
theorem dX11_cause_181 : decode cX11_cause 181 = .ok (.iadd, 1) := by decide +kernel
theorem dX11_cause_182 : decode cX11_cause 182 = .ok (.iload_n 1, 1) := by decide +kernel
theorem dX11_cause_183 : decode cX11_cause 183 = .ok (.ifCond .ne 7, 3) := by decide +kernel
theorem dX11_cause_186 : decode cX11_cause 186 = .ok (.iconst 0, 1) := by decide +kernel
theorem dX11_cause_187 : decode cX11_cause 187 = .ok (.goto 4, 3) := by decide +kernel
theorem dX11_cause_190 : decode cX11_cause 190 = .ok (.iload_n 3, 1) := by decide +kernel
theorem dX11_cause_191 : decode cX11_cause 191 = .ok (.iastore, 1) := by decide +kernel
theorem dX11_cause_192 : decode cX11_cause 192 = .ok (.aload_n 0, 1) := by decide +kernel
theorem dX11_cause_193 : decode cX11_cause 193 = .ok (.getfield 9, 3) := by decide +kernel
theorem dX11_cause_196 : decode cX11_cause 196 = .ok (.iconst 0, 1) := by decide +kernel
theorem dX11_cause_197 : decode cX11_cause 197 = .ok (.dup2, 1) := by decide +kernel
theorem dX11_cause_198 : decode cX11_cause 198 = .ok (.iaload, 1) := by decide +kernel
theorem dX11_cause_199 : decode cX11_cause 199 = .ok (.iconst 1, 1) := by decide +kernel
theorem dX11_cause_200 : decode cX11_cause 200 = .ok (.iadd, 1) := by decide +kernel
theorem dX11_cause_201 : decode cX11_cause 201 = .ok (.iastore, 1) := by decide +kernel
theorem dX11_cause_202 : decode cX11_cause 202 = .ok (.aload_n 0, 1) := by decide +kernel
theorem dX11_cause_203 : decode cX11_cause 203 = .ok (.iconst 1, 1) := by decide +kernel
theorem dX11_cause_204 : decode cX11_cause 204 = .ok (.putfield 70, 3) := by decide +kernel
theorem dX11_cause_207 : decode cX11_cause 207 = .ok (.iload 5, 2) := by decide +kernel
theorem dX11_cause_209 : decode cX11_cause 209 = .ok (.i2l, 1) := by decide +kernel
theorem dX11_cause_210 : decode cX11_cause 210 = .ok (.lreturn, 1) := by decide +kernel
theorem dX11_shown_0 : decode cX11_shown 0 = .ok (.iload_n 2, 1) := by decide +kernel
theorem dX11_shown_1 : decode cX11_shown 1 = .ok (.bipush 6, 2) := by decide +kernel
theorem dX11_shown_3 : decode cX11_shown 3 = .ok (.idiv, 1) := by decide +kernel
theorem dX11_shown_4 : decode cX11_shown 4 = .ok (.istore_n 3, 1) := by decide +kernel
theorem dX11_shown_5 : decode cX11_shown 5 = .ok (.iload_n 2, 1) := by decide +kernel
theorem dX11_shown_6 : decode cX11_shown 6 = .ok (.iconst 3, 1) := by decide +kernel
theorem dX11_shown_7 : decode cX11_shown 7 = .ok (.idiv, 1) := by decide +kernel
theorem dX11_shown_8 : decode cX11_shown 8 = .ok (.iconst 2, 1) := by decide +kernel
theorem dX11_shown_9 : decode cX11_shown 9 = .ok (.irem, 1) := by decide +kernel
theorem dX11_shown_10 : decode cX11_shown 10 = .ok (.istore 4, 2) := by decide +kernel
theorem dX11_shown_12 : decode cX11_shown 12 = .ok (.iload_n 2, 1) := by decide +kernel
theorem dX11_shown_13 : decode cX11_shown 13 = .ok (.iconst 3, 1) := by decide +kernel
theorem dX11_shown_14 : decode cX11_shown 14 = .ok (.irem, 1) := by decide +kernel
theorem dX11_shown_15 : decode cX11_shown 15 = .ok (.istore 5, 2) := by decide +kernel
theorem dX11_shown_17 : decode cX11_shown 17 = .ok (.aload_n 0, 1) := by decide +kernel
theorem dX11_shown_18 : decode cX11_shown 18 = .ok (.getfield 9, 3) := by decide +kernel
theorem dX11_shown_21 : decode cX11_shown 21 = .ok (.bipush 16, 2) := by decide +kernel
theorem dX11_shown_23 : decode cX11_shown 23 = .ok (.iload_n 1, 1) := by decide +kernel
theorem dX11_shown_24 : decode cX11_shown 24 = .ok (.iadd, 1) := by decide +kernel
theorem dX11_shown_25 : decode cX11_shown 25 = .ok (.iaload, 1) := by decide +kernel
theorem dX11_shown_26 : decode cX11_shown 26 = .ok (.istore 6, 2) := by decide +kernel
theorem dX11_shown_28 : decode cX11_shown 28 = .ok (.aload_n 0, 1) := by decide +kernel
theorem dX11_shown_29 : decode cX11_shown 29 = .ok (.getfield 9, 3) := by decide +kernel
theorem dX11_shown_32 : decode cX11_shown 32 = .ok (.bipush 24, 2) := by decide +kernel
theorem dX11_shown_34 : decode cX11_shown 34 = .ok (.iload_n 1, 1) := by decide +kernel
theorem dX11_shown_35 : decode cX11_shown 35 = .ok (.iadd, 1) := by decide +kernel
theorem dX11_shown_36 : decode cX11_shown 36 = .ok (.iaload, 1) := by decide +kernel
theorem dX11_shown_37 : decode cX11_shown 37 = .ok (.istore 7, 2) := by decide +kernel
theorem dX11_shown_39 : decode cX11_shown 39 = .ok (.iload_n 3, 1) := by decide +kernel
theorem dX11_shown_40 : decode cX11_shown 40 = .ok (.iconst 2, 1) := by decide +kernel
theorem dX11_shown_41 : decode cX11_shown 41 = .ok (.if_icmp .ge 7, 3) := by decide +kernel
theorem dX11_shown_44 : decode cX11_shown 44 = .ok (.iconst (-1), 1) := by decide +kernel
theorem dX11_shown_45 : decode cX11_shown 45 = .ok (.goto 14, 3) := by decide +kernel
theorem dX11_shown_48 : decode cX11_shown 48 = .ok (.iload_n 3, 1) := by decide +kernel
theorem dX11_shown_49 : decode cX11_shown 49 = .ok (.iconst 2, 1) := by decide +kernel
theorem dX11_shown_50 : decode cX11_shown 50 = .ok (.isub, 1) := by decide +kernel
