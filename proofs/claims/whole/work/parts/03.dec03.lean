theorem dX10_sheet_32 : decode cX10_sheet 32 = .ok (.invokevirtual 67, 3) := by decide +kernel
theorem dX10_sheet_35 : decode cX10_sheet 35 = .ok (.lreturn, 1) := by decide +kernel
theorem dX10_sheet_36 : decode cX10_sheet 36 = .ok (.aload_n 0, 1) := by decide +kernel
theorem dX10_sheet_37 : decode cX10_sheet 37 = .ok (.getfield 22, 3) := by decide +kernel
theorem dX10_sheet_40 : decode cX10_sheet 40 = .ok (.iload_n 1, 1) := by decide +kernel
theorem dX10_sheet_41 : decode cX10_sheet 41 = .ok (.iload_n 2, 1) := by decide +kernel
theorem dX10_sheet_42 : decode cX10_sheet 42 = .ok (.invokevirtual 143, 3) := by decide +kernel
theorem dX10_sheet_45 : decode cX10_sheet 45 = .ok (.iload_n 2, 1) := by decide +kernel
theorem dX10_sheet_46 : decode cX10_sheet 46 = .ok (.i2l, 1) := by decide +kernel
theorem dX10_sheet_47 : decode cX10_sheet 47 = .ok (.lreturn, 1) := by decide +kernel
theorem dX10_put_0 : decode cX10_put 0 = .ok (.iload_n 1, 1) := by decide +kernel
theorem dX10_put_1 : decode cX10_put 1 = .ok (.invokestatic 140, 3) := by decide +kernel
theorem dX10_put_4 : decode cX10_put 4 = .ok (.ifCond .ne 9, 3) := by decide +kernel
theorem dX10_put_7 : decode cX10_put 7 = .ok (.aload_n 0, 1) := by decide +kernel
theorem dX10_put_8 : decode cX10_put 8 = .ok (.iconst 1, 1) := by decide +kernel
theorem dX10_put_9 : decode cX10_put 9 = .ok (.invokevirtual 67, 3) := by decide +kernel
theorem dX10_put_12 : decode cX10_put 12 = .ok (.lreturn, 1) := by decide +kernel
theorem dX10_put_13 : decode cX10_put 13 = .ok (.aload_n 0, 1) := by decide +kernel
theorem dX10_put_14 : decode cX10_put 14 = .ok (.getfield 22, 3) := by decide +kernel
theorem dX10_put_17 : decode cX10_put 17 = .ok (.iload_n 1, 1) := by decide +kernel
theorem dX10_put_18 : decode cX10_put 18 = .ok (.invokevirtual 147, 3) := by decide +kernel
theorem dX10_put_21 : decode cX10_put 21 = .ok (.ifCond .eq 9, 3) := by decide +kernel
theorem dX10_put_24 : decode cX10_put 24 = .ok (.aload_n 0, 1) := by decide +kernel
theorem dX10_put_25 : decode cX10_put 25 = .ok (.iconst 2, 1) := by decide +kernel
theorem dX10_put_26 : decode cX10_put 26 = .ok (.invokevirtual 67, 3) := by decide +kernel
theorem dX10_put_29 : decode cX10_put 29 = .ok (.lreturn, 1) := by decide +kernel
theorem dX10_put_30 : decode cX10_put 30 = .ok (.aload_n 0, 1) := by decide +kernel
theorem dX10_put_31 : decode cX10_put 31 = .ok (.getfield 22, 3) := by decide +kernel
theorem dX10_put_34 : decode cX10_put 34 = .ok (.iload_n 1, 1) := by decide +kernel
theorem dX10_put_35 : decode cX10_put 35 = .ok (.iload_n 2, 1) := by decide +kernel
theorem dX10_put_36 : decode cX10_put 36 = .ok (.invokevirtual 150, 3) := by decide +kernel
theorem dX10_put_39 : decode cX10_put 39 = .ok (.ifCond .ne 9, 3) := by decide +kernel
theorem dX10_put_42 : decode cX10_put 42 = .ok (.aload_n 0, 1) := by decide +kernel
theorem dX10_put_43 : decode cX10_put 43 = .ok (.iconst 1, 1) := by decide +kernel
theorem dX10_put_44 : decode cX10_put 44 = .ok (.invokevirtual 67, 3) := by decide +kernel
theorem dX10_put_47 : decode cX10_put 47 = .ok (.lreturn, 1) := by decide +kernel
theorem dX10_put_48 : decode cX10_put 48 = .ok (.aload_n 0, 1) := by decide +kernel
theorem dX10_put_49 : decode cX10_put 49 = .ok (.getfield 22, 3) := by decide +kernel
theorem dX10_put_52 : decode cX10_put 52 = .ok (.iload_n 1, 1) := by decide +kernel
theorem dX10_put_53 : decode cX10_put 53 = .ok (.iload_n 2, 1) := by decide +kernel
theorem dX10_put_54 : decode cX10_put 54 = .ok (.iload_n 3, 1) := by decide +kernel
theorem dX10_put_55 : decode cX10_put 55 = .ok (.invokevirtual 153, 3) := by decide +kernel
theorem dX10_put_58 : decode cX10_put 58 = .ok (.i2l, 1) := by decide +kernel
theorem dX10_put_59 : decode cX10_put 59 = .ok (.lreturn, 1) := by decide +kernel
theorem dX10_lay_0 : decode cX10_lay 0 = .ok (.aload_n 0, 1) := by decide +kernel
theorem dX10_lay_1 : decode cX10_lay 1 = .ok (.iload_n 1, 1) := by decide +kernel
theorem dX10_lay_2 : decode cX10_lay 2 = .ok (.iload_n 2, 1) := by decide +kernel
theorem dX10_lay_3 : decode cX10_lay 3 = .ok (.invokevirtual 156, 3) := by decide +kernel
theorem dX10_lay_6 : decode cX10_lay 6 = .ok (.istore_n 3, 1) := by decide +kernel
theorem dX10_lay_7 : decode cX10_lay 7 = .ok (.iload_n 3, 1) := by decide +kernel
theorem dX10_lay_8 : decode cX10_lay 8 = .ok (.ifCond .eq 9, 3) := by decide +kernel
theorem dX10_lay_11 : decode cX10_lay 11 = .ok (.aload_n 0, 1) := by decide +kernel
theorem dX10_lay_12 : decode cX10_lay 12 = .ok (.iload_n 3, 1) := by decide +kernel
theorem dX10_lay_13 : decode cX10_lay 13 = .ok (.invokevirtual 67, 3) := by decide +kernel
theorem dX10_lay_16 : decode cX10_lay 16 = .ok (.lreturn, 1) := by decide +kernel
theorem dX10_lay_17 : decode cX10_lay 17 = .ok (.aload_n 0, 1) := by decide +kernel
theorem dX10_lay_18 : decode cX10_lay 18 = .ok (.getfield 36, 3) := by decide +kernel
theorem dX10_lay_21 : decode cX10_lay 21 = .ok (.invokevirtual 79, 3) := by decide +kernel
theorem dX10_lay_24 : decode cX10_lay 24 = .ok (.iconst 0, 1) := by decide +kernel
theorem dX10_lay_25 : decode cX10_lay 25 = .ok (.istore 4, 2) := by decide +kernel
theorem dX10_lay_27 : decode cX10_lay 27 = .ok (.iload 4, 2) := by decide +kernel
theorem dX10_lay_29 : decode cX10_lay 29 = .ok (.iload_n 2, 1) := by decide +kernel
theorem dX10_lay_30 : decode cX10_lay 30 = .ok (.if_icmp .ge 45, 3) := by decide +kernel
theorem dX10_lay_33 : decode cX10_lay 33 = .ok (.aload_n 0, 1) := by decide +kernel
theorem dX10_lay_34 : decode cX10_lay 34 = .ok (.getfield 22, 3) := by decide +kernel
theorem dX10_lay_37 : decode cX10_lay 37 = .ok (.iload_n 1, 1) := by decide +kernel
theorem dX10_lay_38 : decode cX10_lay 38 = .ok (.iload 4, 2) := by decide +kernel
theorem dX10_lay_40 : decode cX10_lay 40 = .ok (.invokevirtual 159, 3) := by decide +kernel
theorem dX10_lay_43 : decode cX10_lay 43 = .ok (.ifCond .eq 26, 3) := by decide +kernel
theorem dX10_lay_46 : decode cX10_lay 46 = .ok (.aload_n 0, 1) := by decide +kernel
theorem dX10_lay_47 : decode cX10_lay 47 = .ok (.getfield 10, 3) := by decide +kernel
theorem dX10_lay_50 : decode cX10_lay 50 = .ok (.getfield 111, 3) := by decide +kernel
theorem dX10_lay_53 : decode cX10_lay 53 = .ok (.iload 4, 2) := by decide +kernel
theorem dX10_lay_55 : decode cX10_lay 55 = .ok (.aload_n 0, 1) := by decide +kernel
theorem dX10_lay_56 : decode cX10_lay 56 = .ok (.getfield 22, 3) := by decide +kernel
theorem dX10_lay_59 : decode cX10_lay 59 = .ok (.iload_n 1, 1) := by decide +kernel
theorem dX10_lay_60 : decode cX10_lay 60 = .ok (.iload 4, 2) := by decide +kernel
theorem dX10_lay_62 : decode cX10_lay 62 = .ok (.invokevirtual 162, 3) := by decide +kernel
theorem dX10_lay_65 : decode cX10_lay 65 = .ok (.invokevirtual 118, 3) := by decide +kernel
theorem dX10_lay_68 : decode cX10_lay 68 = .ok (.pop, 1) := by decide +kernel
theorem dX10_lay_69 : decode cX10_lay 69 = .ok (.iinc 4 1, 3) := by decide +kernel
theorem dX10_lay_72 : decode cX10_lay 72 = .ok (.goto (-45), 3) := by decide +kernel
theorem dX10_lay_75 : decode cX10_lay 75 = .ok (.aload_n 0, 1) := by decide +kernel
theorem dX10_lay_76 : decode cX10_lay 76 = .ok (.getfield 10, 3) := by decide +kernel
theorem dX10_lay_79 : decode cX10_lay 79 = .ok (.getfield 111, 3) := by decide +kernel
theorem dX10_lay_82 : decode cX10_lay 82 = .ok (.invokevirtual 125, 3) := by decide +kernel
theorem dX10_lay_85 : decode cX10_lay 85 = .ok (.i2l, 1) := by decide +kernel
theorem dX10_lay_86 : decode cX10_lay 86 = .ok (.lreturn, 1) := by decide +kernel
theorem dX10_whyNoLaying_0 : decode cX10_whyNoLaying 0 = .ok (.iload_n 1, 1) := by decide +kernel
theorem dX10_whyNoLaying_1 : decode cX10_whyNoLaying 1 = .ok (.invokestatic 140, 3) := by decide +kernel
theorem dX10_whyNoLaying_4 : decode cX10_whyNoLaying 4 = .ok (.ifCond .ne 5, 3) := by decide +kernel
theorem dX10_whyNoLaying_7 : decode cX10_whyNoLaying 7 = .ok (.iconst 1, 1) := by decide +kernel
theorem dX10_whyNoLaying_8 : decode cX10_whyNoLaying 8 = .ok (.ireturn, 1) := by decide +kernel
theorem dX10_whyNoLaying_9 : decode cX10_whyNoLaying 9 = .ok (.aload_n 0, 1) := by decide +kernel
theorem dX10_whyNoLaying_10 : decode cX10_whyNoLaying 10 = .ok (.getfield 22, 3) := by decide +kernel
theorem dX10_whyNoLaying_13 : decode cX10_whyNoLaying 13 = .ok (.iload_n 1, 1) := by decide +kernel
theorem dX10_whyNoLaying_14 : decode cX10_whyNoLaying 14 = .ok (.invokevirtual 147, 3) := by decide +kernel
theorem dX10_whyNoLaying_17 : decode cX10_whyNoLaying 17 = .ok (.ifCond .eq 5, 3) := by decide +kernel
theorem dX10_whyNoLaying_20 : decode cX10_whyNoLaying 20 = .ok (.iconst 2, 1) := by decide +kernel
theorem dX10_whyNoLaying_21 : decode cX10_whyNoLaying 21 = .ok (.ireturn, 1) := by decide +kernel
theorem dX10_whyNoLaying_22 : decode cX10_whyNoLaying 22 = .ok (.iload_n 2, 1) := by decide +kernel
theorem dX10_whyNoLaying_23 : decode cX10_whyNoLaying 23 = .ok (.ifCond .ge 5, 3) := by decide +kernel
theorem dX10_whyNoLaying_26 : decode cX10_whyNoLaying 26 = .ok (.iconst 4, 1) := by decide +kernel
theorem dX10_whyNoLaying_27 : decode cX10_whyNoLaying 27 = .ok (.ireturn, 1) := by decide +kernel
theorem dX10_whyNoLaying_28 : decode cX10_whyNoLaying 28 = .ok (.iload_n 2, 1) := by decide +kernel
theorem dX10_whyNoLaying_29 : decode cX10_whyNoLaying 29 = .ok (.aload_n 0, 1) := by decide +kernel
theorem dX10_whyNoLaying_30 : decode cX10_whyNoLaying 30 = .ok (.getfield 22, 3) := by decide +kernel
theorem dX10_whyNoLaying_33 : decode cX10_whyNoLaying 33 = .ok (.iload_n 1, 1) := by decide +kernel
theorem dX10_whyNoLaying_34 : decode cX10_whyNoLaying 34 = .ok (.invokevirtual 165, 3) := by decide +kernel
theorem dX10_whyNoLaying_37 : decode cX10_whyNoLaying 37 = .ok (.if_icmp .gt 15, 3) := by decide +kernel
theorem dX10_whyNoLaying_40 : decode cX10_whyNoLaying 40 = .ok (.aload_n 0, 1) := by decide +kernel
theorem dX10_whyNoLaying_41 : decode cX10_whyNoLaying 41 = .ok (.getfield 22, 3) := by decide +kernel
theorem dX10_whyNoLaying_44 : decode cX10_whyNoLaying 44 = .ok (.iload_n 1, 1) := by decide +kernel
theorem dX10_whyNoLaying_45 : decode cX10_whyNoLaying 45 = .ok (.iload_n 2, 1) := by decide +kernel
theorem dX10_whyNoLaying_46 : decode cX10_whyNoLaying 46 = .ok (.invokevirtual 168, 3) := by decide +kernel
theorem dX10_whyNoLaying_49 : decode cX10_whyNoLaying 49 = .ok (.ifCond .ne 5, 3) := by decide +kernel
theorem dX10_whyNoLaying_52 : decode cX10_whyNoLaying 52 = .ok (.iconst 1, 1) := by decide +kernel
theorem dX10_whyNoLaying_53 : decode cX10_whyNoLaying 53 = .ok (.ireturn, 1) := by decide +kernel
theorem dX10_whyNoLaying_54 : decode cX10_whyNoLaying 54 = .ok (.aload_n 0, 1) := by decide +kernel
theorem dX10_whyNoLaying_55 : decode cX10_whyNoLaying 55 = .ok (.getfield 10, 3) := by decide +kernel
theorem dX10_whyNoLaying_58 : decode cX10_whyNoLaying 58 = .ok (.getfield 111, 3) := by decide +kernel
theorem dX10_whyNoLaying_61 : decode cX10_whyNoLaying 61 = .ok (.invokevirtual 125, 3) := by decide +kernel
theorem dX10_whyNoLaying_64 : decode cX10_whyNoLaying 64 = .ok (.aload_n 0, 1) := by decide +kernel
theorem dX10_whyNoLaying_65 : decode cX10_whyNoLaying 65 = .ok (.getfield 22, 3) := by decide +kernel
theorem dX10_whyNoLaying_68 : decode cX10_whyNoLaying 68 = .ok (.iload_n 1, 1) := by decide +kernel
theorem dX10_whyNoLaying_69 : decode cX10_whyNoLaying 69 = .ok (.iload_n 2, 1) := by decide +kernel
theorem dX10_whyNoLaying_70 : decode cX10_whyNoLaying 70 = .ok (.invokevirtual 171, 3) := by decide +kernel
theorem dX10_whyNoLaying_73 : decode cX10_whyNoLaying 73 = .ok (.iadd, 1) := by decide +kernel
theorem dX10_whyNoLaying_74 : decode cX10_whyNoLaying 74 = .ok (.bipush 20, 2) := by decide +kernel
theorem dX10_whyNoLaying_76 : decode cX10_whyNoLaying 76 = .ok (.if_icmp .le 7, 3) := by decide +kernel
theorem dX10_whyNoLaying_79 : decode cX10_whyNoLaying 79 = .ok (.iconst 5, 1) := by decide +kernel
theorem dX10_whyNoLaying_80 : decode cX10_whyNoLaying 80 = .ok (.goto 4, 3) := by decide +kernel
theorem dX10_whyNoLaying_83 : decode cX10_whyNoLaying 83 = .ok (.iconst 0, 1) := by decide +kernel
theorem dX10_whyNoLaying_84 : decode cX10_whyNoLaying 84 = .ok (.ireturn, 1) := by decide +kernel
theorem dX10_find_0 : decode cX10_find 0 = .ok (.aload_n 0, 1) := by decide +kernel
theorem dX10_find_1 : decode cX10_find 1 = .ok (.iload_n 1, 1) := by decide +kernel
theorem dX10_find_2 : decode cX10_find 2 = .ok (.invokevirtual 174, 3) := by decide +kernel
theorem dX10_find_5 : decode cX10_find 5 = .ok (.ifCond .ne 9, 3) := by decide +kernel
theorem dX10_find_8 : decode cX10_find 8 = .ok (.aload_n 0, 1) := by decide +kernel
theorem dX10_find_9 : decode cX10_find 9 = .ok (.iconst 1, 1) := by decide +kernel
theorem dX10_find_10 : decode cX10_find 10 = .ok (.invokevirtual 67, 3) := by decide +kernel
theorem dX10_find_13 : decode cX10_find 13 = .ok (.lreturn, 1) := by decide +kernel
theorem dX10_find_14 : decode cX10_find 14 = .ok (.aload_n 0, 1) := by decide +kernel
theorem dX10_find_15 : decode cX10_find 15 = .ok (.getfield 29, 3) := by decide +kernel
theorem dX10_find_18 : decode cX10_find 18 = .ok (.aload_n 0, 1) := by decide +kernel
theorem dX10_find_19 : decode cX10_find 19 = .ok (.getfield 10, 3) := by decide +kernel
theorem dX10_find_22 : decode cX10_find 22 = .ok (.invokevirtual 177, 3) := by decide +kernel
theorem dX10_find_25 : decode cX10_find 25 = .ok (.aload_n 0, 1) := by decide +kernel
theorem dX10_find_26 : decode cX10_find 26 = .ok (.getfield 29, 3) := by decide +kernel
theorem dX10_find_29 : decode cX10_find 29 = .ok (.iload_n 1, 1) := by decide +kernel
theorem dX10_find_30 : decode cX10_find 30 = .ok (.invokevirtual 181, 3) := by decide +kernel
theorem dX10_find_33 : decode cX10_find 33 = .ok (.ifCond .ne 22, 3) := by decide +kernel
theorem dX10_find_36 : decode cX10_find 36 = .ok (.aload_n 0, 1) := by decide +kernel
theorem dX10_find_37 : decode cX10_find 37 = .ok (.aload_n 0, 1) := by decide +kernel
theorem dX10_find_38 : decode cX10_find 38 = .ok (.getfield 29, 3) := by decide +kernel
theorem dX10_find_41 : decode cX10_find 41 = .ok (.iload_n 1, 1) := by decide +kernel
theorem dX10_find_42 : decode cX10_find 42 = .ok (.invokevirtual 184, 3) := by decide +kernel
theorem dX10_find_45 : decode cX10_find 45 = .ok (.putfield 187, 3) := by decide +kernel
theorem dX10_find_48 : decode cX10_find 48 = .ok (.aload_n 0, 1) := by decide +kernel
theorem dX10_find_49 : decode cX10_find 49 = .ok (.bipush 6, 2) := by decide +kernel
theorem dX10_find_51 : decode cX10_find 51 = .ok (.invokevirtual 67, 3) := by decide +kernel
theorem dX10_find_54 : decode cX10_find 54 = .ok (.lreturn, 1) := by decide +kernel
theorem dX10_find_55 : decode cX10_find 55 = .ok (.aload_n 0, 1) := by decide +kernel
theorem dX10_find_56 : decode cX10_find 56 = .ok (.getfield 36, 3) := by decide +kernel
theorem dX10_find_59 : decode cX10_find 59 = .ok (.iload_n 1, 1) := by decide +kernel
theorem dX10_find_60 : decode cX10_find 60 = .ok (.aload_n 0, 1) := by decide +kernel
theorem dX10_find_61 : decode cX10_find 61 = .ok (.getfield 29, 3) := by decide +kernel
theorem dX10_find_64 : decode cX10_find 64 = .ok (.invokevirtual 191, 3) := by decide +kernel
theorem dX10_find_67 : decode cX10_find 67 = .ok (.iload_n 1, 1) := by decide +kernel
theorem dX10_find_68 : decode cX10_find 68 = .ok (.invokestatic 195, 3) := by decide +kernel
theorem dX10_find_71 : decode cX10_find 71 = .ok (.i2l, 1) := by decide +kernel
theorem dX10_find_72 : decode cX10_find 72 = .ok (.lreturn, 1) := by decide +kernel
theorem dX10_loose_0 : decode cX10_loose 0 = .ok (.aload_n 0, 1) := by decide +kernel
theorem dX10_loose_1 : decode cX10_loose 1 = .ok (.getfield 187, 3) := by decide +kernel
theorem dX10_loose_4 : decode cX10_loose 4 = .ok (.i2l, 1) := by decide +kernel
theorem dX10_loose_5 : decode cX10_loose 5 = .ok (.lreturn, 1) := by decide +kernel
theorem dX10_size_0 : decode cX10_size 0 = .ok (.aload_n 0, 1) := by decide +kernel
theorem dX10_size_1 : decode cX10_size 1 = .ok (.invokevirtual 200, 3) := by decide +kernel
theorem dX10_size_4 : decode cX10_size 4 = .ok (.istore_n 3, 1) := by decide +kernel
theorem dX10_size_5 : decode cX10_size 5 = .ok (.iload_n 3, 1) := by decide +kernel
theorem dX10_size_6 : decode cX10_size 6 = .ok (.ifCond .ne 16, 3) := by decide +kernel
theorem dX10_size_9 : decode cX10_size 9 = .ok (.aload_n 0, 1) := by decide +kernel
theorem dX10_size_10 : decode cX10_size 10 = .ok (.getfield 36, 3) := by decide +kernel
theorem dX10_size_13 : decode cX10_size 13 = .ok (.iload_n 1, 1) := by decide +kernel
theorem dX10_size_14 : decode cX10_size 14 = .ok (.invokevirtual 203, 3) := by decide +kernel
theorem dX10_size_17 : decode cX10_size 17 = .ok (.ifCond .ne 5, 3) := by decide +kernel
theorem dX10_size_20 : decode cX10_size 20 = .ok (.iconst 1, 1) := by decide +kernel
theorem dX10_size_21 : decode cX10_size 21 = .ok (.istore_n 3, 1) := by decide +kernel
theorem dX10_size_22 : decode cX10_size 22 = .ok (.iload_n 3, 1) := by decide +kernel
theorem dX10_size_23 : decode cX10_size 23 = .ok (.ifCond .eq 9, 3) := by decide +kernel
theorem dX10_size_26 : decode cX10_size 26 = .ok (.aload_n 0, 1) := by decide +kernel
theorem dX10_size_27 : decode cX10_size 27 = .ok (.iload_n 3, 1) := by decide +kernel
theorem dX10_size_28 : decode cX10_size 28 = .ok (.invokevirtual 67, 3) := by decide +kernel
theorem dX10_size_31 : decode cX10_size 31 = .ok (.lreturn, 1) := by decide +kernel
theorem dX10_size_32 : decode cX10_size 32 = .ok (.aload_n 0, 1) := by decide +kernel
theorem dX10_size_33 : decode cX10_size 33 = .ok (.getfield 36, 3) := by decide +kernel
theorem dX10_size_36 : decode cX10_size 36 = .ok (.iload_n 1, 1) := by decide +kernel
theorem dX10_size_37 : decode cX10_size 37 = .ok (.invokevirtual 204, 3) := by decide +kernel
theorem dX10_size_40 : decode cX10_size 40 = .ok (.aload_n 0, 1) := by decide +kernel
theorem dX10_size_41 : decode cX10_size 41 = .ok (.getfield 36, 3) := by decide +kernel
theorem dX10_size_44 : decode cX10_size 44 = .ok (.invokevirtual 207, 3) := by decide +kernel
theorem dX10_size_47 : decode cX10_size 47 = .ok (.iload_n 2, 1) := by decide +kernel
theorem dX10_size_48 : decode cX10_size 48 = .ok (.invokestatic 211, 3) := by decide +kernel
theorem dX10_size_51 : decode cX10_size 51 = .ok (.lreturn, 1) := by decide +kernel
theorem dX10_left_0 : decode cX10_left 0 = .ok (.aload_n 0, 1) := by decide +kernel
theorem dX10_left_1 : decode cX10_left 1 = .ok (.invokevirtual 200, 3) := by decide +kernel
theorem dX10_left_4 : decode cX10_left 4 = .ok (.istore_n 3, 1) := by decide +kernel
theorem dX10_left_5 : decode cX10_left 5 = .ok (.iload_n 3, 1) := by decide +kernel
theorem dX10_left_6 : decode cX10_left 6 = .ok (.ifCond .ne 19, 3) := by decide +kernel
theorem dX10_left_9 : decode cX10_left 9 = .ok (.aload_n 0, 1) := by decide +kernel
theorem dX10_left_10 : decode cX10_left 10 = .ok (.getfield 10, 3) := by decide +kernel
theorem dX10_left_13 : decode cX10_left 13 = .ok (.getfield 111, 3) := by decide +kernel
theorem dX10_left_16 : decode cX10_left 16 = .ok (.iload_n 1, 1) := by decide +kernel
theorem dX10_left_17 : decode cX10_left 17 = .ok (.invokevirtual 120, 3) := by decide +kernel
theorem dX10_left_20 : decode cX10_left 20 = .ok (.ifCond .ne 5, 3) := by decide +kernel
theorem dX10_left_23 : decode cX10_left 23 = .ok (.iconst 1, 1) := by decide +kernel
theorem dX10_left_24 : decode cX10_left 24 = .ok (.istore_n 3, 1) := by decide +kernel
theorem dX10_left_25 : decode cX10_left 25 = .ok (.iload_n 3, 1) := by decide +kernel
theorem dX10_left_26 : decode cX10_left 26 = .ok (.ifCond .eq 9, 3) := by decide +kernel
theorem dX10_left_29 : decode cX10_left 29 = .ok (.aload_n 0, 1) := by decide +kernel
theorem dX10_left_30 : decode cX10_left 30 = .ok (.iload_n 3, 1) := by decide +kernel
theorem dX10_left_31 : decode cX10_left 31 = .ok (.invokevirtual 67, 3) := by decide +kernel
theorem dX10_left_34 : decode cX10_left 34 = .ok (.lreturn, 1) := by decide +kernel
theorem dX10_left_35 : decode cX10_left 35 = .ok (.aload_n 0, 1) := by decide +kernel
theorem dX10_left_36 : decode cX10_left 36 = .ok (.getfield 10, 3) := by decide +kernel
theorem dX10_left_39 : decode cX10_left 39 = .ok (.getfield 111, 3) := by decide +kernel
theorem dX10_left_42 : decode cX10_left 42 = .ok (.iload_n 1, 1) := by decide +kernel
theorem dX10_left_43 : decode cX10_left 43 = .ok (.invokevirtual 137, 3) := by decide +kernel
theorem dX10_left_46 : decode cX10_left 46 = .ok (.i2l, 1) := by decide +kernel
theorem dX10_left_47 : decode cX10_left 47 = .ok (.aload_n 0, 1) := by decide +kernel
theorem dX10_left_48 : decode cX10_left 48 = .ok (.getfield 36, 3) := by decide +kernel
theorem dX10_left_51 : decode cX10_left 51 = .ok (.invokevirtual 207, 3) := by decide +kernel
theorem dX10_left_54 : decode cX10_left 54 = .ok (.lmul, 1) := by decide +kernel
theorem dX10_left_55 : decode cX10_left 55 = .ok (.lstore 4, 2) := by decide +kernel
theorem dX10_left_57 : decode cX10_left 57 = .ok (.lload 4, 2) := by decide +kernel
theorem dX10_left_59 : decode cX10_left 59 = .ok (.aload_n 0, 1) := by decide +kernel
theorem dX10_left_60 : decode cX10_left 60 = .ok (.getfield 36, 3) := by decide +kernel
theorem dX10_left_63 : decode cX10_left 63 = .ok (.aload_n 0, 1) := by decide +kernel
theorem dX10_left_64 : decode cX10_left 64 = .ok (.getfield 10, 3) := by decide +kernel
theorem dX10_left_67 : decode cX10_left 67 = .ok (.getfield 111, 3) := by decide +kernel
theorem dX10_left_70 : decode cX10_left 70 = .ok (.iload_n 1, 1) := by decide +kernel
theorem dX10_left_71 : decode cX10_left 71 = .ok (.invokevirtual 134, 3) := by decide +kernel
theorem dX10_left_74 : decode cX10_left 74 = .ok (.aload_n 0, 1) := by decide +kernel
theorem dX10_left_75 : decode cX10_left 75 = .ok (.getfield 10, 3) := by decide +kernel
theorem dX10_left_78 : decode cX10_left 78 = .ok (.getfield 71, 3) := by decide +kernel
theorem dX10_left_81 : decode cX10_left 81 = .ok (.invokevirtual 215, 3) := by decide +kernel
theorem dX10_left_84 : decode cX10_left 84 = .ok (.lsub, 1) := by decide +kernel
theorem dX10_left_85 : decode cX10_left 85 = .ok (.lstore 6, 2) := by decide +kernel
theorem dX10_left_87 : decode cX10_left 87 = .ok (.lload 6, 2) := by decide +kernel
theorem dX10_left_89 : decode cX10_left 89 = .ok (.aload_n 0, 1) := by decide +kernel
theorem dX10_left_90 : decode cX10_left 90 = .ok (.getfield 36, 3) := by decide +kernel
theorem dX10_left_93 : decode cX10_left 93 = .ok (.invokevirtual 207, 3) := by decide +kernel
theorem dX10_left_96 : decode cX10_left 96 = .ok (.iload_n 2, 1) := by decide +kernel
theorem dX10_left_97 : decode cX10_left 97 = .ok (.invokestatic 211, 3) := by decide +kernel
theorem dX10_left_100 : decode cX10_left 100 = .ok (.lreturn, 1) := by decide +kernel
theorem dX10_sum_0 : decode cX10_sum 0 = .ok (.aload_n 0, 1) := by decide +kernel
theorem dX10_sum_1 : decode cX10_sum 1 = .ok (.invokevirtual 200, 3) := by decide +kernel
theorem dX10_sum_4 : decode cX10_sum 4 = .ok (.istore_n 2, 1) := by decide +kernel
theorem dX10_sum_5 : decode cX10_sum 5 = .ok (.iload_n 2, 1) := by decide +kernel
theorem dX10_sum_6 : decode cX10_sum 6 = .ok (.ifCond .eq 9, 3) := by decide +kernel
theorem dX10_sum_9 : decode cX10_sum 9 = .ok (.aload_n 0, 1) := by decide +kernel
theorem dX10_sum_10 : decode cX10_sum 10 = .ok (.iload_n 2, 1) := by decide +kernel
theorem dX10_sum_11 : decode cX10_sum 11 = .ok (.invokevirtual 67, 3) := by decide +kernel
theorem dX10_sum_14 : decode cX10_sum 14 = .ok (.lreturn, 1) := by decide +kernel
theorem dX10_sum_15 : decode cX10_sum 15 = .ok (.aload_n 0, 1) := by decide +kernel
theorem dX10_sum_16 : decode cX10_sum 16 = .ok (.getfield 36, 3) := by decide +kernel
theorem dX10_sum_19 : decode cX10_sum 19 = .ok (.invokevirtual 219, 3) := by decide +kernel
theorem dX10_sum_22 : decode cX10_sum 22 = .ok (.aload_n 0, 1) := by decide +kernel
theorem dX10_sum_23 : decode cX10_sum 23 = .ok (.getfield 36, 3) := by decide +kernel
theorem dX10_sum_26 : decode cX10_sum 26 = .ok (.invokevirtual 207, 3) := by decide +kernel
theorem dX10_sum_29 : decode cX10_sum 29 = .ok (.iload_n 1, 1) := by decide +kernel
theorem dX10_sum_30 : decode cX10_sum 30 = .ok (.invokestatic 211, 3) := by decide +kernel
theorem dX10_sum_33 : decode cX10_sum 33 = .ok (.lreturn, 1) := by decide +kernel
theorem dX10_foretold_0 : decode cX10_foretold 0 = .ok (.aload_n 0, 1) := by decide +kernel
theorem dX10_foretold_1 : decode cX10_foretold 1 = .ok (.invokevirtual 200, 3) := by decide +kernel
theorem dX10_foretold_4 : decode cX10_foretold 4 = .ok (.istore_n 3, 1) := by decide +kernel
theorem dX10_foretold_5 : decode cX10_foretold 5 = .ok (.iload_n 3, 1) := by decide +kernel
theorem dX10_foretold_6 : decode cX10_foretold 6 = .ok (.ifCond .ne 12, 3) := by decide +kernel
theorem dX10_foretold_9 : decode cX10_foretold 9 = .ok (.iload_n 1, 1) := by decide +kernel
theorem dX10_foretold_10 : decode cX10_foretold 10 = .ok (.invokestatic 90, 3) := by decide +kernel
theorem dX10_foretold_13 : decode cX10_foretold 13 = .ok (.ifCond .ne 5, 3) := by decide +kernel
theorem dX10_foretold_16 : decode cX10_foretold 16 = .ok (.iconst 1, 1) := by decide +kernel
theorem dX10_foretold_17 : decode cX10_foretold 17 = .ok (.istore_n 3, 1) := by decide +kernel
theorem dX10_foretold_18 : decode cX10_foretold 18 = .ok (.iload_n 3, 1) := by decide +kernel
theorem dX10_foretold_19 : decode cX10_foretold 19 = .ok (.ifCond .eq 9, 3) := by decide +kernel
theorem dX10_foretold_22 : decode cX10_foretold 22 = .ok (.aload_n 0, 1) := by decide +kernel
theorem dX10_foretold_23 : decode cX10_foretold 23 = .ok (.iload_n 3, 1) := by decide +kernel
theorem dX10_foretold_24 : decode cX10_foretold 24 = .ok (.invokevirtual 67, 3) := by decide +kernel
theorem dX10_foretold_27 : decode cX10_foretold 27 = .ok (.lreturn, 1) := by decide +kernel
theorem dX10_foretold_28 : decode cX10_foretold 28 = .ok (.aload_n 0, 1) := by decide +kernel
theorem dX10_foretold_29 : decode cX10_foretold 29 = .ok (.getfield 36, 3) := by decide +kernel
theorem dX10_foretold_32 : decode cX10_foretold 32 = .ok (.iload_n 1, 1) := by decide +kernel
theorem dX10_foretold_33 : decode cX10_foretold 33 = .ok (.aload_n 0, 1) := by decide +kernel
theorem dX10_foretold_34 : decode cX10_foretold 34 = .ok (.getfield 10, 3) := by decide +kernel
theorem dX10_foretold_37 : decode cX10_foretold 37 = .ok (.getfield 71, 3) := by decide +kernel
theorem dX10_foretold_40 : decode cX10_foretold 40 = .ok (.invokevirtual 215, 3) := by decide +kernel
theorem dX10_foretold_43 : decode cX10_foretold 43 = .ok (.aload_n 0, 1) := by decide +kernel
theorem dX10_foretold_44 : decode cX10_foretold 44 = .ok (.getfield 36, 3) := by decide +kernel
theorem dX10_foretold_47 : decode cX10_foretold 47 = .ok (.invokevirtual 207, 3) := by decide +kernel
theorem dX10_foretold_50 : decode cX10_foretold 50 = .ok (.iload_n 2, 1) := by decide +kernel
theorem dX10_foretold_51 : decode cX10_foretold 51 = .ok (.invokestatic 211, 3) := by decide +kernel
theorem dX10_foretold_54 : decode cX10_foretold 54 = .ok (.lreturn, 1) := by decide +kernel
theorem dX10_model_0 : decode cX10_model 0 = .ok (.aload_n 0, 1) := by decide +kernel
theorem dX10_model_1 : decode cX10_model 1 = .ok (.invokevirtual 200, 3) := by decide +kernel
theorem dX10_model_4 : decode cX10_model 4 = .ok (.istore_n 1, 1) := by decide +kernel
theorem dX10_model_5 : decode cX10_model 5 = .ok (.iload_n 1, 1) := by decide +kernel
theorem dX10_model_6 : decode cX10_model 6 = .ok (.ifCond .eq 9, 3) := by decide +kernel
theorem dX10_model_9 : decode cX10_model 9 = .ok (.aload_n 0, 1) := by decide +kernel
theorem dX10_model_10 : decode cX10_model 10 = .ok (.iload_n 1, 1) := by decide +kernel
theorem dX10_model_11 : decode cX10_model 11 = .ok (.invokevirtual 67, 3) := by decide +kernel
theorem dX10_model_14 : decode cX10_model 14 = .ok (.lreturn, 1) := by decide +kernel
theorem dX10_model_15 : decode cX10_model 15 = .ok (.aload_n 0, 1) := by decide +kernel
theorem dX10_model_16 : decode cX10_model 16 = .ok (.getfield 36, 3) := by decide +kernel
theorem dX10_model_19 : decode cX10_model 19 = .ok (.invokevirtual 222, 3) := by decide +kernel
theorem dX10_model_22 : decode cX10_model 22 = .ok (.i2l, 1) := by decide +kernel
theorem dX10_model_23 : decode cX10_model 23 = .ok (.lreturn, 1) := by decide +kernel
theorem dX10_few_0 : decode cX10_few 0 = .ok (.iload_n 1, 1) := by decide +kernel
theorem dX10_few_1 : decode cX10_few 1 = .ok (.iconst 1, 1) := by decide +kernel
theorem dX10_few_2 : decode cX10_few 2 = .ok (.iconst 3, 1) := by decide +kernel
theorem dX10_few_3 : decode cX10_few 3 = .ok (.invokestatic 129, 3) := by decide +kernel
theorem dX10_few_6 : decode cX10_few 6 = .ok (.ifCond .ne 9, 3) := by decide +kernel
theorem dX10_few_9 : decode cX10_few 9 = .ok (.aload_n 0, 1) := by decide +kernel
theorem dX10_few_10 : decode cX10_few 10 = .ok (.iconst 1, 1) := by decide +kernel
theorem dX10_few_11 : decode cX10_few 11 = .ok (.invokevirtual 67, 3) := by decide +kernel
theorem dX10_few_14 : decode cX10_few 14 = .ok (.lreturn, 1) := by decide +kernel
theorem dX10_few_15 : decode cX10_few 15 = .ok (.aload_n 0, 1) := by decide +kernel
theorem dX10_few_16 : decode cX10_few 16 = .ok (.getfield 10, 3) := by decide +kernel
theorem dX10_few_19 : decode cX10_few 19 = .ok (.getfield 71, 3) := by decide +kernel
theorem dX10_few_22 : decode cX10_few 22 = .ok (.invokevirtual 225, 3) := by decide +kernel
theorem dX10_few_25 : decode cX10_few 25 = .ok (.ifCond .ne 9, 3) := by decide +kernel
theorem dX10_few_28 : decode cX10_few 28 = .ok (.aload_n 0, 1) := by decide +kernel
theorem dX10_few_29 : decode cX10_few 29 = .ok (.iconst 2, 1) := by decide +kernel
theorem dX10_few_30 : decode cX10_few 30 = .ok (.invokevirtual 67, 3) := by decide +kernel
theorem dX10_few_33 : decode cX10_few 33 = .ok (.lreturn, 1) := by decide +kernel
theorem dX10_few_34 : decode cX10_few 34 = .ok (.aload_n 0, 1) := by decide +kernel
theorem dX10_few_35 : decode cX10_few 35 = .ok (.getfield 29, 3) := by decide +kernel
theorem dX10_few_38 : decode cX10_few 38 = .ok (.aload_n 0, 1) := by decide +kernel
theorem dX10_few_39 : decode cX10_few 39 = .ok (.getfield 10, 3) := by decide +kernel
theorem dX10_few_42 : decode cX10_few 42 = .ok (.invokevirtual 177, 3) := by decide +kernel
theorem dX10_few_45 : decode cX10_few 45 = .ok (.iconst 1, 1) := by decide +kernel
theorem dX10_few_46 : decode cX10_few 46 = .ok (.aload_n 0, 1) := by decide +kernel
theorem dX10_few_47 : decode cX10_few 47 = .ok (.getfield 10, 3) := by decide +kernel
theorem dX10_few_50 : decode cX10_few 50 = .ok (.getfield 71, 3) := by decide +kernel
theorem dX10_few_53 : decode cX10_few 53 = .ok (.invokevirtual 225, 3) := by decide +kernel
theorem dX10_few_56 : decode cX10_few 56 = .ok (.ishl, 1) := by decide +kernel
theorem dX10_few_57 : decode cX10_few 57 = .ok (.iconst 1, 1) := by decide +kernel
theorem dX10_few_58 : decode cX10_few 58 = .ok (.isub, 1) := by decide +kernel
theorem dX10_few_59 : decode cX10_few 59 = .ok (.istore_n 2, 1) := by decide +kernel
theorem dX10_few_60 : decode cX10_few 60 = .ok (.aload_n 0, 1) := by decide +kernel
theorem dX10_few_61 : decode cX10_few 61 = .ok (.getfield 29, 3) := by decide +kernel
theorem dX10_few_64 : decode cX10_few 64 = .ok (.iload_n 2, 1) := by decide +kernel
theorem dX10_few_65 : decode cX10_few 65 = .ok (.iload_n 1, 1) := by decide +kernel
theorem dX10_few_66 : decode cX10_few 66 = .ok (.invokevirtual 226, 3) := by decide +kernel
theorem dX10_few_69 : decode cX10_few 69 = .ok (.istore_n 3, 1) := by decide +kernel
theorem dX10_few_70 : decode cX10_few 70 = .ok (.iload_n 3, 1) := by decide +kernel
theorem dX10_few_71 : decode cX10_few 71 = .ok (.ifCond .eq 14, 3) := by decide +kernel
theorem dX10_few_74 : decode cX10_few 74 = .ok (.aload_n 0, 1) := by decide +kernel
theorem dX10_few_75 : decode cX10_few 75 = .ok (.getfield 29, 3) := by decide +kernel
theorem dX10_few_78 : decode cX10_few 78 = .ok (.iload_n 3, 1) := by decide +kernel
theorem dX10_few_79 : decode cX10_few 79 = .ok (.invokevirtual 181, 3) := by decide +kernel
theorem dX10_few_82 : decode cX10_few 82 = .ok (.ifCond .ne 15, 3) := by decide +kernel
theorem dX10_few_85 : decode cX10_few 85 = .ok (.aload_n 0, 1) := by decide +kernel
theorem dX10_few_86 : decode cX10_few 86 = .ok (.iload_n 2, 1) := by decide +kernel
theorem dX10_few_87 : decode cX10_few 87 = .ok (.putfield 187, 3) := by decide +kernel
theorem dX10_few_90 : decode cX10_few 90 = .ok (.aload_n 0, 1) := by decide +kernel
theorem dX10_few_91 : decode cX10_few 91 = .ok (.bipush 6, 2) := by decide +kernel
theorem dX10_few_93 : decode cX10_few 93 = .ok (.invokevirtual 67, 3) := by decide +kernel
theorem dX10_few_96 : decode cX10_few 96 = .ok (.lreturn, 1) := by decide +kernel
theorem dX10_few_97 : decode cX10_few 97 = .ok (.aload_n 0, 1) := by decide +kernel
theorem dX10_few_98 : decode cX10_few 98 = .ok (.getfield 36, 3) := by decide +kernel
theorem dX10_few_101 : decode cX10_few 101 = .ok (.iload_n 3, 1) := by decide +kernel
theorem dX10_few_102 : decode cX10_few 102 = .ok (.aload_n 0, 1) := by decide +kernel
theorem dX10_few_103 : decode cX10_few 103 = .ok (.getfield 29, 3) := by decide +kernel
theorem dX10_few_106 : decode cX10_few 106 = .ok (.invokevirtual 191, 3) := by decide +kernel
theorem dX10_few_109 : decode cX10_few 109 = .ok (.iload_n 3, 1) := by decide +kernel
theorem dX10_few_110 : decode cX10_few 110 = .ok (.i2l, 1) := by decide +kernel
theorem dX10_few_111 : decode cX10_few 111 = .ok (.lreturn, 1) := by decide +kernel
theorem dX10_doubt_0 : decode cX10_doubt 0 = .ok (.aload_n 0, 1) := by decide +kernel
theorem dX10_doubt_1 : decode cX10_doubt 1 = .ok (.invokevirtual 200, 3) := by decide +kernel
theorem dX10_doubt_4 : decode cX10_doubt 4 = .ok (.istore 4, 2) := by decide +kernel
theorem dX10_doubt_6 : decode cX10_doubt 6 = .ok (.iload 4, 2) := by decide +kernel
theorem dX10_doubt_8 : decode cX10_doubt 8 = .ok (.ifCond .ne 17, 3) := by decide +kernel
theorem dX10_doubt_11 : decode cX10_doubt 11 = .ok (.aload_n 0, 1) := by decide +kernel
theorem dX10_doubt_12 : decode cX10_doubt 12 = .ok (.getfield 36, 3) := by decide +kernel
theorem dX10_doubt_15 : decode cX10_doubt 15 = .ok (.iload_n 1, 1) := by decide +kernel
theorem dX10_doubt_16 : decode cX10_doubt 16 = .ok (.invokevirtual 203, 3) := by decide +kernel
theorem dX10_doubt_19 : decode cX10_doubt 19 = .ok (.ifCond .ne 6, 3) := by decide +kernel
theorem dX10_doubt_22 : decode cX10_doubt 22 = .ok (.iconst 1, 1) := by decide +kernel
theorem dX10_doubt_23 : decode cX10_doubt 23 = .ok (.istore 4, 2) := by decide +kernel
theorem dX10_doubt_25 : decode cX10_doubt 25 = .ok (.iload 4, 2) := by decide +kernel
theorem dX10_doubt_27 : decode cX10_doubt 27 = .ok (.ifCond .eq 10, 3) := by decide +kernel
theorem dX10_doubt_30 : decode cX10_doubt 30 = .ok (.aload_n 0, 1) := by decide +kernel
theorem dX10_doubt_31 : decode cX10_doubt 31 = .ok (.iload 4, 2) := by decide +kernel
theorem dX10_doubt_33 : decode cX10_doubt 33 = .ok (.invokevirtual 67, 3) := by decide +kernel
theorem dX10_doubt_36 : decode cX10_doubt 36 = .ok (.lreturn, 1) := by decide +kernel
theorem dX10_doubt_37 : decode cX10_doubt 37 = .ok (.aload_n 0, 1) := by decide +kernel
theorem dX10_doubt_38 : decode cX10_doubt 38 = .ok (.getfield 29, 3) := by decide +kernel
theorem dX10_doubt_41 : decode cX10_doubt 41 = .ok (.aload_n 0, 1) := by decide +kernel
theorem dX10_doubt_42 : decode cX10_doubt 42 = .ok (.getfield 10, 3) := by decide +kernel
theorem dX10_doubt_45 : decode cX10_doubt 45 = .ok (.invokevirtual 177, 3) := by decide +kernel
theorem dX10_doubt_48 : decode cX10_doubt 48 = .ok (.iconst 0, 1) := by decide +kernel
theorem dX10_doubt_49 : decode cX10_doubt 49 = .ok (.istore 5, 2) := by decide +kernel
theorem dX10_doubt_51 : decode cX10_doubt 51 = .ok (.lconst 0, 1) := by decide +kernel
theorem dX10_doubt_52 : decode cX10_doubt 52 = .ok (.lstore 6, 2) := by decide +kernel
theorem dX10_doubt_54 : decode cX10_doubt 54 = .ok (.lconst 1, 1) := by decide +kernel
theorem dX10_doubt_55 : decode cX10_doubt 55 = .ok (.lstore 8, 2) := by decide +kernel
theorem dX10_doubt_57 : decode cX10_doubt 57 = .ok (.iconst 0, 1) := by decide +kernel
theorem dX10_doubt_58 : decode cX10_doubt 58 = .ok (.istore 10, 2) := by decide +kernel
theorem dX10_doubt_60 : decode cX10_doubt 60 = .ok (.iload 10, 2) := by decide +kernel
theorem dX10_doubt_62 : decode cX10_doubt 62 = .ok (.aload_n 0, 1) := by decide +kernel
theorem dX10_doubt_63 : decode cX10_doubt 63 = .ok (.getfield 10, 3) := by decide +kernel
theorem dX10_doubt_66 : decode cX10_doubt 66 = .ok (.getfield 111, 3) := by decide +kernel
theorem dX10_doubt_69 : decode cX10_doubt 69 = .ok (.invokevirtual 125, 3) := by decide +kernel
theorem dX10_doubt_72 : decode cX10_doubt 72 = .ok (.if_icmp .ge 104, 3) := by decide +kernel
theorem dX10_doubt_75 : decode cX10_doubt 75 = .ok (.aload_n 0, 1) := by decide +kernel
theorem dX10_doubt_76 : decode cX10_doubt 76 = .ok (.getfield 29, 3) := by decide +kernel
theorem dX10_doubt_79 : decode cX10_doubt 79 = .ok (.iload 10, 2) := by decide +kernel
theorem dX10_doubt_81 : decode cX10_doubt 81 = .ok (.aload_n 0, 1) := by decide +kernel
theorem dX10_doubt_82 : decode cX10_doubt 82 = .ok (.getfield 36, 3) := by decide +kernel
theorem dX10_doubt_85 : decode cX10_doubt 85 = .ok (.invokevirtual 222, 3) := by decide +kernel
theorem dX10_doubt_88 : decode cX10_doubt 88 = .ok (.aload_n 0, 1) := by decide +kernel
theorem dX10_doubt_89 : decode cX10_doubt 89 = .ok (.getfield 10, 3) := by decide +kernel
theorem dX10_doubt_92 : decode cX10_doubt 92 = .ok (.invokevirtual 229, 3) := by decide +kernel
theorem dX10_doubt_95 : decode cX10_doubt 95 = .ok (.ifCond .eq 75, 3) := by decide +kernel
theorem dX10_doubt_98 : decode cX10_doubt 98 = .ok (.aload_n 0, 1) := by decide +kernel
theorem dX10_doubt_99 : decode cX10_doubt 99 = .ok (.getfield 29, 3) := by decide +kernel
theorem dX10_doubt_102 : decode cX10_doubt 102 = .ok (.aload_n 0, 1) := by decide +kernel
theorem dX10_doubt_103 : decode cX10_doubt 103 = .ok (.getfield 36, 3) := by decide +kernel
theorem dX10_doubt_106 : decode cX10_doubt 106 = .ok (.iload_n 1, 1) := by decide +kernel
theorem dX10_doubt_107 : decode cX10_doubt 107 = .ok (.invokevirtual 233, 3) := by decide +kernel
theorem dX10_doubt_110 : decode cX10_doubt 110 = .ok (.invokevirtual 236, 3) := by decide +kernel
theorem dX10_doubt_113 : decode cX10_doubt 113 = .ok (.lstore 11, 2) := by decide +kernel
theorem dX10_doubt_115 : decode cX10_doubt 115 = .ok (.aload_n 0, 1) := by decide +kernel
theorem dX10_doubt_116 : decode cX10_doubt 116 = .ok (.getfield 29, 3) := by decide +kernel
theorem dX10_doubt_119 : decode cX10_doubt 119 = .ok (.invokevirtual 237, 3) := by decide +kernel
theorem dX10_doubt_122 : decode cX10_doubt 122 = .ok (.lstore 13, 2) := by decide +kernel
theorem dX10_doubt_124 : decode cX10_doubt 124 = .ok (.lload 11, 2) := by decide +kernel
theorem dX10_doubt_126 : decode cX10_doubt 126 = .ok (.lload 13, 2) := by decide +kernel
theorem dX10_doubt_128 : decode cX10_doubt 128 = .ok (.lload 6, 2) := by decide +kernel
theorem dX10_doubt_130 : decode cX10_doubt 130 = .ok (.lload 8, 2) := by decide +kernel
theorem dX10_doubt_132 : decode cX10_doubt 132 = .ok (.invokestatic 238, 3) := by decide +kernel
theorem dX10_doubt_135 : decode cX10_doubt 135 = .ok (.istore 15, 2) := by decide +kernel
theorem dX10_doubt_137 : decode cX10_doubt 137 = .ok (.iload 5, 2) := by decide +kernel
theorem dX10_doubt_139 : decode cX10_doubt 139 = .ok (.ifCond .eq 20, 3) := by decide +kernel
theorem dX10_doubt_142 : decode cX10_doubt 142 = .ok (.iload_n 2, 1) := by decide +kernel
theorem dX10_doubt_143 : decode cX10_doubt 143 = .ok (.ifCond .eq 11, 3) := by decide +kernel
theorem dX10_doubt_146 : decode cX10_doubt 146 = .ok (.iload 15, 2) := by decide +kernel
theorem dX10_doubt_148 : decode cX10_doubt 148 = .ok (.ifCond .le 19, 3) := by decide +kernel
theorem dX10_doubt_151 : decode cX10_doubt 151 = .ok (.goto 8, 3) := by decide +kernel
theorem dX10_doubt_154 : decode cX10_doubt 154 = .ok (.iload 15, 2) := by decide +kernel
theorem dX10_doubt_156 : decode cX10_doubt 156 = .ok (.ifCond .ge 11, 3) := by decide +kernel
theorem dX10_doubt_159 : decode cX10_doubt 159 = .ok (.lload 11, 2) := by decide +kernel
theorem dX10_doubt_161 : decode cX10_doubt 161 = .ok (.lstore 6, 2) := by decide +kernel
theorem dX10_doubt_163 : decode cX10_doubt 163 = .ok (.lload 13, 2) := by decide +kernel
theorem dX10_doubt_165 : decode cX10_doubt 165 = .ok (.lstore 8, 2) := by decide +kernel
theorem dX10_doubt_167 : decode cX10_doubt 167 = .ok (.iconst 1, 1) := by decide +kernel
theorem dX10_doubt_168 : decode cX10_doubt 168 = .ok (.istore 5, 2) := by decide +kernel
theorem dX10_doubt_170 : decode cX10_doubt 170 = .ok (.iinc 10 1, 3) := by decide +kernel
theorem dX10_doubt_173 : decode cX10_doubt 173 = .ok (.goto (-113), 3) := by decide +kernel
theorem dX10_doubt_176 : decode cX10_doubt 176 = .ok (.iload 5, 2) := by decide +kernel
theorem dX10_doubt_178 : decode cX10_doubt 178 = .ok (.ifCond .eq 14, 3) := by decide +kernel
theorem dX10_doubt_181 : decode cX10_doubt 181 = .ok (.lload 6, 2) := by decide +kernel
theorem dX10_doubt_183 : decode cX10_doubt 183 = .ok (.lload 8, 2) := by decide +kernel
theorem dX10_doubt_185 : decode cX10_doubt 185 = .ok (.iload_n 3, 1) := by decide +kernel
theorem dX10_doubt_186 : decode cX10_doubt 186 = .ok (.invokestatic 211, 3) := by decide +kernel
theorem dX10_doubt_189 : decode cX10_doubt 189 = .ok (.goto 9, 3) := by decide +kernel
theorem dX10_doubt_192 : decode cX10_doubt 192 = .ok (.aload_n 0, 1) := by decide +kernel
theorem dX10_doubt_193 : decode cX10_doubt 193 = .ok (.bipush 6, 2) := by decide +kernel
theorem dX10_doubt_195 : decode cX10_doubt 195 = .ok (.invokevirtual 67, 3) := by decide +kernel
theorem dX10_doubt_198 : decode cX10_doubt 198 = .ok (.lreturn, 1) := by decide +kernel
theorem dX10_spare_0 : decode cX10_spare 0 = .ok (.aload_n 0, 1) := by decide +kernel
theorem dX10_spare_1 : decode cX10_spare 1 = .ok (.invokevirtual 200, 3) := by decide +kernel
theorem dX10_spare_4 : decode cX10_spare 4 = .ok (.istore_n 1, 1) := by decide +kernel
theorem dX10_spare_5 : decode cX10_spare 5 = .ok (.iload_n 1, 1) := by decide +kernel
theorem dX10_spare_6 : decode cX10_spare 6 = .ok (.ifCond .eq 9, 3) := by decide +kernel
theorem dX10_spare_9 : decode cX10_spare 9 = .ok (.aload_n 0, 1) := by decide +kernel
theorem dX10_spare_10 : decode cX10_spare 10 = .ok (.iload_n 1, 1) := by decide +kernel
theorem dX10_spare_11 : decode cX10_spare 11 = .ok (.invokevirtual 67, 3) := by decide +kernel
theorem dX10_spare_14 : decode cX10_spare 14 = .ok (.lreturn, 1) := by decide +kernel
theorem dX10_spare_15 : decode cX10_spare 15 = .ok (.aload_n 0, 1) := by decide +kernel
theorem dX10_spare_16 : decode cX10_spare 16 = .ok (.getfield 29, 3) := by decide +kernel
theorem dX10_spare_19 : decode cX10_spare 19 = .ok (.aload_n 0, 1) := by decide +kernel
theorem dX10_spare_20 : decode cX10_spare 20 = .ok (.getfield 10, 3) := by decide +kernel
theorem dX10_spare_23 : decode cX10_spare 23 = .ok (.invokevirtual 177, 3) := by decide +kernel
theorem dX10_spare_26 : decode cX10_spare 26 = .ok (.iconst 0, 1) := by decide +kernel
theorem dX10_spare_27 : decode cX10_spare 27 = .ok (.istore_n 2, 1) := by decide +kernel
theorem dX10_spare_28 : decode cX10_spare 28 = .ok (.iconst 0, 1) := by decide +kernel
theorem dX10_spare_29 : decode cX10_spare 29 = .ok (.istore_n 3, 1) := by decide +kernel
theorem dX10_spare_30 : decode cX10_spare 30 = .ok (.iload_n 3, 1) := by decide +kernel
theorem dX10_spare_31 : decode cX10_spare 31 = .ok (.aload_n 0, 1) := by decide +kernel
theorem dX10_spare_32 : decode cX10_spare 32 = .ok (.getfield 10, 3) := by decide +kernel
theorem dX10_spare_35 : decode cX10_spare 35 = .ok (.getfield 111, 3) := by decide +kernel
theorem dX10_spare_38 : decode cX10_spare 38 = .ok (.invokevirtual 125, 3) := by decide +kernel
theorem dX10_spare_41 : decode cX10_spare 41 = .ok (.if_icmp .ge 34, 3) := by decide +kernel
theorem dX10_spare_44 : decode cX10_spare 44 = .ok (.aload_n 0, 1) := by decide +kernel
theorem dX10_spare_45 : decode cX10_spare 45 = .ok (.getfield 29, 3) := by decide +kernel
theorem dX10_spare_48 : decode cX10_spare 48 = .ok (.iload_n 3, 1) := by decide +kernel
theorem dX10_spare_49 : decode cX10_spare 49 = .ok (.aload_n 0, 1) := by decide +kernel
theorem dX10_spare_50 : decode cX10_spare 50 = .ok (.getfield 36, 3) := by decide +kernel
theorem dX10_spare_53 : decode cX10_spare 53 = .ok (.invokevirtual 222, 3) := by decide +kernel
theorem dX10_spare_56 : decode cX10_spare 56 = .ok (.aload_n 0, 1) := by decide +kernel
theorem dX10_spare_57 : decode cX10_spare 57 = .ok (.getfield 10, 3) := by decide +kernel
theorem dX10_spare_60 : decode cX10_spare 60 = .ok (.invokevirtual 229, 3) := by decide +kernel
theorem dX10_spare_63 : decode cX10_spare 63 = .ok (.ifCond .eq 6, 3) := by decide +kernel
theorem dX10_spare_66 : decode cX10_spare 66 = .ok (.iinc 2 1, 3) := by decide +kernel
theorem dX10_spare_69 : decode cX10_spare 69 = .ok (.iinc 3 1, 3) := by decide +kernel
theorem dX10_spare_72 : decode cX10_spare 72 = .ok (.goto (-42), 3) := by decide +kernel
theorem dX10_spare_75 : decode cX10_spare 75 = .ok (.iload_n 2, 1) := by decide +kernel
theorem dX10_spare_76 : decode cX10_spare 76 = .ok (.i2l, 1) := by decide +kernel
theorem dX10_spare_77 : decode cX10_spare 77 = .ok (.lreturn, 1) := by decide +kernel
theorem dX10_mend_0 : decode cX10_mend 0 = .ok (.aload_n 0, 1) := by decide +kernel
theorem dX10_mend_1 : decode cX10_mend 1 = .ok (.getfield 10, 3) := by decide +kernel
theorem dX10_mend_4 : decode cX10_mend 4 = .ok (.getfield 71, 3) := by decide +kernel
theorem dX10_mend_7 : decode cX10_mend 7 = .ok (.iload_n 1, 1) := by decide +kernel
theorem dX10_mend_8 : decode cX10_mend 8 = .ok (.invokevirtual 86, 3) := by decide +kernel
theorem dX10_mend_11 : decode cX10_mend 11 = .ok (.ifCond .eq 16, 3) := by decide +kernel
theorem dX10_mend_14 : decode cX10_mend 14 = .ok (.iload_n 2, 1) := by decide +kernel
theorem dX10_mend_15 : decode cX10_mend 15 = .ok (.sipush (-200), 3) := by decide +kernel
theorem dX10_mend_18 : decode cX10_mend 18 = .ok (.sipush 200, 3) := by decide +kernel
theorem dX10_mend_21 : decode cX10_mend 21 = .ok (.invokestatic 129, 3) := by decide +kernel
theorem dX10_mend_24 : decode cX10_mend 24 = .ok (.ifCond .ne 9, 3) := by decide +kernel
theorem dX10_mend_27 : decode cX10_mend 27 = .ok (.aload_n 0, 1) := by decide +kernel
theorem dX10_mend_28 : decode cX10_mend 28 = .ok (.iconst 1, 1) := by decide +kernel
theorem dX10_mend_29 : decode cX10_mend 29 = .ok (.invokevirtual 67, 3) := by decide +kernel
theorem dX10_mend_32 : decode cX10_mend 32 = .ok (.lreturn, 1) := by decide +kernel
theorem dX10_mend_33 : decode cX10_mend 33 = .ok (.aload_n 0, 1) := by decide +kernel
theorem dX10_mend_34 : decode cX10_mend 34 = .ok (.getfield 10, 3) := by decide +kernel
theorem dX10_mend_37 : decode cX10_mend 37 = .ok (.getfield 242, 3) := by decide +kernel
theorem dX10_mend_40 : decode cX10_mend 40 = .ok (.invokevirtual 115, 3) := by decide +kernel
theorem dX10_mend_43 : decode cX10_mend 43 = .ok (.ifCond .eq 9, 3) := by decide +kernel
theorem dX10_mend_46 : decode cX10_mend 46 = .ok (.aload_n 0, 1) := by decide +kernel
theorem dX10_mend_47 : decode cX10_mend 47 = .ok (.iconst 5, 1) := by decide +kernel
theorem dX10_mend_48 : decode cX10_mend 48 = .ok (.invokevirtual 67, 3) := by decide +kernel
theorem dX10_mend_51 : decode cX10_mend 51 = .ok (.lreturn, 1) := by decide +kernel
theorem dX10_mend_52 : decode cX10_mend 52 = .ok (.aload_n 0, 1) := by decide +kernel
theorem dX10_mend_53 : decode cX10_mend 53 = .ok (.getfield 10, 3) := by decide +kernel
theorem dX10_mend_56 : decode cX10_mend 56 = .ok (.getfield 242, 3) := by decide +kernel
theorem dX10_mend_59 : decode cX10_mend 59 = .ok (.iload_n 1, 1) := by decide +kernel
theorem dX10_mend_60 : decode cX10_mend 60 = .ok (.iload_n 2, 1) := by decide +kernel
theorem dX10_mend_61 : decode cX10_mend 61 = .ok (.invokevirtual 118, 3) := by decide +kernel
theorem dX10_mend_64 : decode cX10_mend 64 = .ok (.i2l, 1) := by decide +kernel
theorem dX10_mend_65 : decode cX10_mend 65 = .ok (.lreturn, 1) := by decide +kernel
theorem dX10_span_0 : decode cX10_span 0 = .ok (.iload_n 2, 1) := by decide +kernel
theorem dX10_span_1 : decode cX10_span 1 = .ok (.sipush (-1000), 3) := by decide +kernel
theorem dX10_span_4 : decode cX10_span 4 = .ok (.sipush 1000, 3) := by decide +kernel
theorem dX10_span_7 : decode cX10_span 7 = .ok (.invokestatic 129, 3) := by decide +kernel
theorem dX10_span_10 : decode cX10_span 10 = .ok (.ifCond .eq 20, 3) := by decide +kernel
theorem dX10_span_13 : decode cX10_span 13 = .ok (.iload_n 3, 1) := by decide +kernel
theorem dX10_span_14 : decode cX10_span 14 = .ok (.sipush (-1000), 3) := by decide +kernel
theorem dX10_span_17 : decode cX10_span 17 = .ok (.sipush 1000, 3) := by decide +kernel
theorem dX10_span_20 : decode cX10_span 20 = .ok (.invokestatic 129, 3) := by decide +kernel
theorem dX10_span_23 : decode cX10_span 23 = .ok (.ifCond .eq 7, 3) := by decide +kernel
theorem dX10_span_26 : decode cX10_span 26 = .ok (.iconst 1, 1) := by decide +kernel
theorem dX10_span_27 : decode cX10_span 27 = .ok (.goto 4, 3) := by decide +kernel
theorem dX10_span_30 : decode cX10_span 30 = .ok (.iconst 0, 1) := by decide +kernel
theorem dX10_span_31 : decode cX10_span 31 = .ok (.istore 4, 2) := by decide +kernel
theorem dX10_span_33 : decode cX10_span 33 = .ok (.iload_n 1, 1) := by decide +kernel
theorem dX10_span_34 : decode cX10_span 34 = .ok (.invokestatic 90, 3) := by decide +kernel
theorem dX10_span_37 : decode cX10_span 37 = .ok (.ifCond .eq 8, 3) := by decide +kernel
theorem dX10_span_40 : decode cX10_span 40 = .ok (.iload 4, 2) := by decide +kernel
theorem dX10_span_42 : decode cX10_span 42 = .ok (.ifCond .ne 9, 3) := by decide +kernel
theorem dX10_span_45 : decode cX10_span 45 = .ok (.aload_n 0, 1) := by decide +kernel
theorem dX10_span_46 : decode cX10_span 46 = .ok (.iconst 1, 1) := by decide +kernel
theorem dX10_span_47 : decode cX10_span 47 = .ok (.invokevirtual 67, 3) := by decide +kernel
theorem dX10_span_50 : decode cX10_span 50 = .ok (.lreturn, 1) := by decide +kernel
theorem dX10_span_51 : decode cX10_span 51 = .ok (.aload_n 0, 1) := by decide +kernel
theorem dX10_span_52 : decode cX10_span 52 = .ok (.getfield 10, 3) := by decide +kernel
theorem dX10_span_55 : decode cX10_span 55 = .ok (.getfield 245, 3) := by decide +kernel
theorem dX10_span_58 : decode cX10_span 58 = .ok (.iload_n 1, 1) := by decide +kernel
theorem dX10_span_59 : decode cX10_span 59 = .ok (.iload_n 2, 1) := by decide +kernel
theorem dX10_span_60 : decode cX10_span 60 = .ok (.iload_n 3, 1) := by decide +kernel
theorem dX10_span_61 : decode cX10_span 61 = .ok (.invokevirtual 249, 3) := by decide +kernel
theorem dX10_span_64 : decode cX10_span 64 = .ok (.aload_n 0, 1) := by decide +kernel
theorem dX10_span_65 : decode cX10_span 65 = .ok (.getfield 10, 3) := by decide +kernel
theorem dX10_span_68 : decode cX10_span 68 = .ok (.getfield 245, 3) := by decide +kernel
theorem dX10_span_71 : decode cX10_span 71 = .ok (.iload_n 1, 1) := by decide +kernel
theorem dX10_span_72 : decode cX10_span 72 = .ok (.invokevirtual 254, 3) := by decide +kernel
theorem dX10_span_75 : decode cX10_span 75 = .ok (.ifCond .eq 7, 3) := by decide +kernel
theorem dX10_span_78 : decode cX10_span 78 = .ok (.lconst 1, 1) := by decide +kernel
theorem dX10_span_79 : decode cX10_span 79 = .ok (.goto 4, 3) := by decide +kernel
theorem dX10_span_82 : decode cX10_span 82 = .ok (.lconst 0, 1) := by decide +kernel
theorem dX10_span_83 : decode cX10_span 83 = .ok (.lreturn, 1) := by decide +kernel
theorem dX10_behind_0 : decode cX10_behind 0 = .ok (.aload_n 0, 1) := by decide +kernel
theorem dX10_behind_1 : decode cX10_behind 1 = .ok (.invokevirtual 200, 3) := by decide +kernel
theorem dX10_behind_4 : decode cX10_behind 4 = .ok (.istore 7, 2) := by decide +kernel
theorem dX10_behind_6 : decode cX10_behind 6 = .ok (.aload_n 0, 1) := by decide +kernel
theorem dX10_behind_7 : decode cX10_behind 7 = .ok (.getfield 10, 3) := by decide +kernel
theorem dX10_behind_10 : decode cX10_behind 10 = .ok (.getfield 242, 3) := by decide +kernel
theorem dX10_behind_13 : decode cX10_behind 13 = .ok (.iload_n 2, 1) := by decide +kernel
theorem dX10_behind_14 : decode cX10_behind 14 = .ok (.invokevirtual 120, 3) := by decide +kernel
theorem dX10_behind_17 : decode cX10_behind 17 = .ok (.ifCond .eq 22, 3) := by decide +kernel
theorem dX10_behind_20 : decode cX10_behind 20 = .ok (.aload_n 0, 1) := by decide +kernel
theorem dX10_behind_21 : decode cX10_behind 21 = .ok (.getfield 10, 3) := by decide +kernel
theorem dX10_behind_24 : decode cX10_behind 24 = .ok (.getfield 242, 3) := by decide +kernel
theorem dX10_behind_27 : decode cX10_behind 27 = .ok (.iload 4, 2) := by decide +kernel
theorem dX10_behind_29 : decode cX10_behind 29 = .ok (.invokevirtual 120, 3) := by decide +kernel
theorem dX10_behind_32 : decode cX10_behind 32 = .ok (.ifCond .eq 7, 3) := by decide +kernel
theorem dX10_behind_35 : decode cX10_behind 35 = .ok (.iconst 1, 1) := by decide +kernel
theorem dX10_behind_36 : decode cX10_behind 36 = .ok (.goto 4, 3) := by decide +kernel
theorem dX10_behind_39 : decode cX10_behind 39 = .ok (.iconst 0, 1) := by decide +kernel
theorem dX10_behind_40 : decode cX10_behind 40 = .ok (.istore 8, 2) := by decide +kernel
theorem dX10_behind_42 : decode cX10_behind 42 = .ok (.iload 7, 2) := by decide +kernel
theorem dX10_behind_44 : decode cX10_behind 44 = .ok (.ifCond .ne 33, 3) := by decide +kernel
theorem dX10_behind_47 : decode cX10_behind 47 = .ok (.iload_n 1, 1) := by decide +kernel
theorem dX10_behind_48 : decode cX10_behind 48 = .ok (.invokestatic 90, 3) := by decide +kernel
theorem dX10_behind_51 : decode cX10_behind 51 = .ok (.ifCond .eq 23, 3) := by decide +kernel
theorem dX10_behind_54 : decode cX10_behind 54 = .ok (.iload 8, 2) := by decide +kernel
theorem dX10_behind_56 : decode cX10_behind 56 = .ok (.ifCond .eq 18, 3) := by decide +kernel
theorem dX10_behind_59 : decode cX10_behind 59 = .ok (.iload_n 3, 1) := by decide +kernel
theorem dX10_behind_60 : decode cX10_behind 60 = .ok (.invokestatic 255, 3) := by decide +kernel
theorem dX10_behind_63 : decode cX10_behind 63 = .ok (.ifCond .eq 11, 3) := by decide +kernel
theorem dX10_behind_66 : decode cX10_behind 66 = .ok (.iload 5, 2) := by decide +kernel
theorem dX10_behind_68 : decode cX10_behind 68 = .ok (.invokestatic 255, 3) := by decide +kernel
theorem dX10_behind_71 : decode cX10_behind 71 = .ok (.ifCond .ne 6, 3) := by decide +kernel
theorem dX10_behind_74 : decode cX10_behind 74 = .ok (.iconst 1, 1) := by decide +kernel
theorem dX10_behind_75 : decode cX10_behind 75 = .ok (.istore 7, 2) := by decide +kernel
theorem dX10_behind_77 : decode cX10_behind 77 = .ok (.iload 7, 2) := by decide +kernel
theorem dX10_behind_79 : decode cX10_behind 79 = .ok (.ifCond .eq 10, 3) := by decide +kernel
theorem dX10_behind_82 : decode cX10_behind 82 = .ok (.aload_n 0, 1) := by decide +kernel
theorem dX10_behind_83 : decode cX10_behind 83 = .ok (.iload 7, 2) := by decide +kernel
theorem dX10_behind_85 : decode cX10_behind 85 = .ok (.invokevirtual 67, 3) := by decide +kernel
theorem dX10_behind_88 : decode cX10_behind 88 = .ok (.lreturn, 1) := by decide +kernel
theorem dX10_behind_89 : decode cX10_behind 89 = .ok (.aload_n 0, 1) := by decide +kernel
theorem dX10_behind_90 : decode cX10_behind 90 = .ok (.getfield 36, 3) := by decide +kernel
theorem dX10_behind_93 : decode cX10_behind 93 = .ok (.iload_n 1, 1) := by decide +kernel
theorem dX10_behind_94 : decode cX10_behind 94 = .ok (.aload_n 0, 1) := by decide +kernel
theorem dX10_behind_95 : decode cX10_behind 95 = .ok (.getfield 10, 3) := by decide +kernel
theorem dX10_behind_98 : decode cX10_behind 98 = .ok (.getfield 71, 3) := by decide +kernel
theorem dX10_behind_101 : decode cX10_behind 101 = .ok (.invokevirtual 215, 3) := by decide +kernel
theorem dX10_behind_104 : decode cX10_behind 104 = .ok (.lstore 9, 2) := by decide +kernel
theorem dX10_behind_106 : decode cX10_behind 106 = .ok (.lload 9, 2) := by decide +kernel
theorem dX10_behind_108 : decode cX10_behind 108 = .ok (.iload_n 3, 1) := by decide +kernel
theorem dX10_behind_109 : decode cX10_behind 109 = .ok (.i2l, 1) := by decide +kernel
theorem dX10_behind_110 : decode cX10_behind 110 = .ok (.aload_n 0, 1) := by decide +kernel
theorem dX10_behind_111 : decode cX10_behind 111 = .ok (.getfield 36, 3) := by decide +kernel
theorem dX10_behind_114 : decode cX10_behind 114 = .ok (.iload_n 1, 1) := by decide +kernel
theorem dX10_behind_115 : decode cX10_behind 115 = .ok (.iload_n 2, 1) := by decide +kernel
theorem dX10_behind_116 : decode cX10_behind 116 = .ok (.aload_n 0, 1) := by decide +kernel
theorem dX10_behind_117 : decode cX10_behind 117 = .ok (.getfield 10, 3) := by decide +kernel
theorem dX10_behind_120 : decode cX10_behind 120 = .ok (.invokevirtual 258, 3) := by decide +kernel
theorem dX10_behind_123 : decode cX10_behind 123 = .ok (.lmul, 1) := by decide +kernel
theorem dX10_behind_124 : decode cX10_behind 124 = .ok (.ladd, 1) := by decide +kernel
theorem dX10_behind_125 : decode cX10_behind 125 = .ok (.lstore 9, 2) := by decide +kernel
theorem dX10_behind_127 : decode cX10_behind 127 = .ok (.lload 9, 2) := by decide +kernel
theorem dX10_behind_129 : decode cX10_behind 129 = .ok (.iload 5, 2) := by decide +kernel
theorem dX10_behind_131 : decode cX10_behind 131 = .ok (.i2l, 1) := by decide +kernel
theorem dX10_behind_132 : decode cX10_behind 132 = .ok (.aload_n 0, 1) := by decide +kernel
theorem dX10_behind_133 : decode cX10_behind 133 = .ok (.getfield 36, 3) := by decide +kernel
theorem dX10_behind_136 : decode cX10_behind 136 = .ok (.iload_n 1, 1) := by decide +kernel
theorem dX10_behind_137 : decode cX10_behind 137 = .ok (.iload 4, 2) := by decide +kernel
theorem dX10_behind_139 : decode cX10_behind 139 = .ok (.aload_n 0, 1) := by decide +kernel
theorem dX10_behind_140 : decode cX10_behind 140 = .ok (.getfield 10, 3) := by decide +kernel
theorem dX10_behind_143 : decode cX10_behind 143 = .ok (.invokevirtual 258, 3) := by decide +kernel
theorem dX10_behind_146 : decode cX10_behind 146 = .ok (.lmul, 1) := by decide +kernel
theorem dX10_behind_147 : decode cX10_behind 147 = .ok (.ladd, 1) := by decide +kernel
theorem dX10_behind_148 : decode cX10_behind 148 = .ok (.lstore 9, 2) := by decide +kernel
theorem dX10_behind_150 : decode cX10_behind 150 = .ok (.lload 9, 2) := by decide +kernel
theorem dX10_behind_152 : decode cX10_behind 152 = .ok (.aload_n 0, 1) := by decide +kernel
theorem dX10_behind_153 : decode cX10_behind 153 = .ok (.getfield 36, 3) := by decide +kernel
theorem dX10_behind_156 : decode cX10_behind 156 = .ok (.invokevirtual 207, 3) := by decide +kernel
theorem dX10_behind_159 : decode cX10_behind 159 = .ok (.iload 6, 2) := by decide +kernel
theorem dX10_behind_161 : decode cX10_behind 161 = .ok (.invokestatic 211, 3) := by decide +kernel
theorem dX10_behind_164 : decode cX10_behind 164 = .ok (.lreturn, 1) := by decide +kernel
theorem dX10_worst_0 : decode cX10_worst 0 = .ok (.aload_n 0, 1) := by decide +kernel
theorem dX10_worst_1 : decode cX10_worst 1 = .ok (.invokevirtual 262, 3) := by decide +kernel
theorem dX10_worst_4 : decode cX10_worst 4 = .ok (.istore_n 2, 1) := by decide +kernel
theorem dX10_worst_5 : decode cX10_worst 5 = .ok (.iload_n 2, 1) := by decide +kernel
theorem dX10_worst_6 : decode cX10_worst 6 = .ok (.ifCond .eq 9, 3) := by decide +kernel
theorem dX10_worst_9 : decode cX10_worst 9 = .ok (.aload_n 0, 1) := by decide +kernel
theorem dX10_worst_10 : decode cX10_worst 10 = .ok (.iload_n 2, 1) := by decide +kernel
theorem dX10_worst_11 : decode cX10_worst 11 = .ok (.invokevirtual 67, 3) := by decide +kernel
theorem dX10_worst_14 : decode cX10_worst 14 = .ok (.lreturn, 1) := by decide +kernel
theorem dX10_worst_15 : decode cX10_worst 15 = .ok (.lconst 0, 1) := by decide +kernel
theorem dX10_worst_16 : decode cX10_worst 16 = .ok (.lstore_n 3, 1) := by decide +kernel
theorem dX10_worst_17 : decode cX10_worst 17 = .ok (.iconst 0, 1) := by decide +kernel
theorem dX10_worst_18 : decode cX10_worst 18 = .ok (.istore 5, 2) := by decide +kernel
theorem dX10_worst_20 : decode cX10_worst 20 = .ok (.iload 5, 2) := by decide +kernel
theorem dX10_worst_22 : decode cX10_worst 22 = .ok (.bipush 36, 2) := by decide +kernel
theorem dX10_worst_24 : decode cX10_worst 24 = .ok (.if_icmp .ge 48, 3) := by decide +kernel
theorem dX10_worst_27 : decode cX10_worst 27 = .ok (.aload_n 0, 1) := by decide +kernel
theorem dX10_worst_28 : decode cX10_worst 28 = .ok (.getfield 10, 3) := by decide +kernel
theorem dX10_worst_31 : decode cX10_worst 31 = .ok (.getfield 245, 3) := by decide +kernel
theorem dX10_worst_34 : decode cX10_worst 34 = .ok (.iload 5, 2) := by decide +kernel
theorem dX10_worst_36 : decode cX10_worst 36 = .ok (.invokevirtual 254, 3) := by decide +kernel
theorem dX10_worst_39 : decode cX10_worst 39 = .ok (.ifCond .eq 27, 3) := by decide +kernel
theorem dX10_worst_42 : decode cX10_worst 42 = .ok (.lload_n 3, 1) := by decide +kernel
theorem dX10_worst_43 : decode cX10_worst 43 = .ok (.aload_n 0, 1) := by decide +kernel
theorem dX10_worst_44 : decode cX10_worst 44 = .ok (.getfield 36, 3) := by decide +kernel
theorem dX10_worst_47 : decode cX10_worst 47 = .ok (.iload 5, 2) := by decide +kernel
theorem dX10_worst_49 : decode cX10_worst 49 = .ok (.aload_n 0, 1) := by decide +kernel
theorem dX10_worst_50 : decode cX10_worst 50 = .ok (.getfield 10, 3) := by decide +kernel
theorem dX10_worst_53 : decode cX10_worst 53 = .ok (.getfield 71, 3) := by decide +kernel
theorem dX10_worst_56 : decode cX10_worst 56 = .ok (.invokevirtual 215, 3) := by decide +kernel
theorem dX10_worst_59 : decode cX10_worst 59 = .ok (.invokestatic 265, 3) := by decide +kernel
theorem dX10_worst_62 : decode cX10_worst 62 = .ok (.invokestatic 271, 3) := by decide +kernel
theorem dX10_worst_65 : decode cX10_worst 65 = .ok (.lstore_n 3, 1) := by decide +kernel
theorem dX10_worst_66 : decode cX10_worst 66 = .ok (.iinc 5 1, 3) := by decide +kernel
theorem dX10_worst_69 : decode cX10_worst 69 = .ok (.goto (-49), 3) := by decide +kernel
theorem dX10_worst_72 : decode cX10_worst 72 = .ok (.lload_n 3, 1) := by decide +kernel
theorem dX10_worst_73 : decode cX10_worst 73 = .ok (.aload_n 0, 1) := by decide +kernel
