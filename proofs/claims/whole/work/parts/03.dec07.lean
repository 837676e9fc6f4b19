theorem dX11_loose_1 : decode cX11_loose 1 = .ok (.getfield 170, 3) := by decide +kernel
theorem dX11_loose_4 : decode cX11_loose 4 = .ok (.lreturn, 1) := by decide +kernel
theorem dX11_notFound_0 : decode cX11_notFound 0 = .ok (.aload_n 0, 1) := by decide +kernel
theorem dX11_notFound_1 : decode cX11_notFound 1 = .ok (.getfield 137, 3) := by decide +kernel
theorem dX11_notFound_4 : decode cX11_notFound 4 = .ok (.ifCond .ne 9, 3) := by decide +kernel
theorem dX11_notFound_7 : decode cX11_notFound 7 = .ok (.ldc2_w 96, 3) := by decide +kernel
theorem dX11_notFound_10 : decode cX11_notFound 10 = .ok (.goto 17, 3) := by decide +kernel
theorem dX11_notFound_13 : decode cX11_notFound 13 = .ok (.aload_n 0, 1) := by decide +kernel
theorem dX11_notFound_14 : decode cX11_notFound 14 = .ok (.getfield 70, 3) := by decide +kernel
theorem dX11_notFound_17 : decode cX11_notFound 17 = .ok (.ifCond .eq 9, 3) := by decide +kernel
theorem dX11_notFound_20 : decode cX11_notFound 20 = .ok (.ldc2_w 178, 3) := by decide +kernel
theorem dX11_notFound_23 : decode cX11_notFound 23 = .ok (.goto 4, 3) := by decide +kernel
theorem dX11_notFound_26 : decode cX11_notFound 26 = .ok (.lconst 0, 1) := by decide +kernel
theorem dX11_notFound_27 : decode cX11_notFound 27 = .ok (.lreturn, 1) := by decide +kernel
theorem dX11_placeOf_0 : decode cX11_placeOf 0 = .ok (.iconst (-1), 1) := by decide +kernel
theorem dX11_placeOf_1 : decode cX11_placeOf 1 = .ok (.istore_n 2, 1) := by decide +kernel
theorem dX11_placeOf_2 : decode cX11_placeOf 2 = .ok (.iconst 0, 1) := by decide +kernel
theorem dX11_placeOf_3 : decode cX11_placeOf 3 = .ok (.istore_n 3, 1) := by decide +kernel
theorem dX11_placeOf_4 : decode cX11_placeOf 4 = .ok (.iload_n 3, 1) := by decide +kernel
theorem dX11_placeOf_5 : decode cX11_placeOf 5 = .ok (.aload_n 0, 1) := by decide +kernel
theorem dX11_placeOf_6 : decode cX11_placeOf 6 = .ok (.getfield 143, 3) := by decide +kernel
theorem dX11_placeOf_9 : decode cX11_placeOf 9 = .ok (.if_icmp .ge 25, 3) := by decide +kernel
theorem dX11_placeOf_12 : decode cX11_placeOf 12 = .ok (.aload_n 0, 1) := by decide +kernel
theorem dX11_placeOf_13 : decode cX11_placeOf 13 = .ok (.getfield 35, 3) := by decide +kernel
theorem dX11_placeOf_16 : decode cX11_placeOf 16 = .ok (.iload_n 3, 1) := by decide +kernel
theorem dX11_placeOf_17 : decode cX11_placeOf 17 = .ok (.iaload, 1) := by decide +kernel
theorem dX11_placeOf_18 : decode cX11_placeOf 18 = .ok (.iload_n 1, 1) := by decide +kernel
theorem dX11_placeOf_19 : decode cX11_placeOf 19 = .ok (.if_icmp .ne 7, 3) := by decide +kernel
theorem dX11_placeOf_22 : decode cX11_placeOf 22 = .ok (.iload_n 3, 1) := by decide +kernel
theorem dX11_placeOf_23 : decode cX11_placeOf 23 = .ok (.goto 4, 3) := by decide +kernel
theorem dX11_placeOf_26 : decode cX11_placeOf 26 = .ok (.iload_n 2, 1) := by decide +kernel
theorem dX11_placeOf_27 : decode cX11_placeOf 27 = .ok (.istore_n 2, 1) := by decide +kernel
theorem dX11_placeOf_28 : decode cX11_placeOf 28 = .ok (.iinc 3 1, 3) := by decide +kernel
theorem dX11_placeOf_31 : decode cX11_placeOf 31 = .ok (.goto (-27), 3) := by decide +kernel
theorem dX11_placeOf_34 : decode cX11_placeOf 34 = .ok (.iload_n 2, 1) := by decide +kernel
theorem dX11_placeOf_35 : decode cX11_placeOf 35 = .ok (.ireturn, 1) := by decide +kernel
theorem dX11_size_0 : decode cX11_size 0 = .ok (.aload_n 0, 1) := by decide +kernel
theorem dX11_size_1 : decode cX11_size 1 = .ok (.invokevirtual 180, 3) := by decide +kernel
theorem dX11_size_4 : decode cX11_size 4 = .ok (.lconst 0, 1) := by decide +kernel
theorem dX11_size_5 : decode cX11_size 5 = .ok (.lcmp, 1) := by decide +kernel
theorem dX11_size_6 : decode cX11_size 6 = .ok (.ifCond .eq 12, 3) := by decide +kernel
theorem dX11_size_9 : decode cX11_size 9 = .ok (.aload_n 0, 1) := by decide +kernel
theorem dX11_size_10 : decode cX11_size 10 = .ok (.aload_n 0, 1) := by decide +kernel
theorem dX11_size_11 : decode cX11_size 11 = .ok (.invokevirtual 180, 3) := by decide +kernel
theorem dX11_size_14 : decode cX11_size 14 = .ok (.invokevirtual 64, 3) := by decide +kernel
theorem dX11_size_17 : decode cX11_size 17 = .ok (.lreturn, 1) := by decide +kernel
theorem dX11_size_18 : decode cX11_size 18 = .ok (.aload_n 0, 1) := by decide +kernel
theorem dX11_size_19 : decode cX11_size 19 = .ok (.iload_n 1, 1) := by decide +kernel
theorem dX11_size_20 : decode cX11_size 20 = .ok (.invokevirtual 183, 3) := by decide +kernel
theorem dX11_size_23 : decode cX11_size 23 = .ok (.istore_n 3, 1) := by decide +kernel
theorem dX11_size_24 : decode cX11_size 24 = .ok (.iload_n 3, 1) := by decide +kernel
theorem dX11_size_25 : decode cX11_size 25 = .ok (.ifCond .ge 13, 3) := by decide +kernel
theorem dX11_size_28 : decode cX11_size 28 = .ok (.aload_n 0, 1) := by decide +kernel
theorem dX11_size_29 : decode cX11_size 29 = .ok (.ldc2_w 62, 3) := by decide +kernel
theorem dX11_size_32 : decode cX11_size 32 = .ok (.invokevirtual 64, 3) := by decide +kernel
theorem dX11_size_35 : decode cX11_size 35 = .ok (.goto 17, 3) := by decide +kernel
theorem dX11_size_38 : decode cX11_size 38 = .ok (.aload_n 0, 1) := by decide +kernel
theorem dX11_size_39 : decode cX11_size 39 = .ok (.getfield 38, 3) := by decide +kernel
theorem dX11_size_42 : decode cX11_size 42 = .ok (.iload_n 3, 1) := by decide +kernel
theorem dX11_size_43 : decode cX11_size 43 = .ok (.laload, 1) := by decide +kernel
theorem dX11_size_44 : decode cX11_size 44 = .ok (.aload_n 0, 1) := by decide +kernel
theorem dX11_size_45 : decode cX11_size 45 = .ok (.getfield 146, 3) := by decide +kernel
theorem dX11_size_48 : decode cX11_size 48 = .ok (.iload_n 2, 1) := by decide +kernel
theorem dX11_size_49 : decode cX11_size 49 = .ok (.invokestatic 186, 3) := by decide +kernel
theorem dX11_size_52 : decode cX11_size 52 = .ok (.lreturn, 1) := by decide +kernel
theorem dX11_foretoldAt_0 : decode cX11_foretoldAt 0 = .ok (.lconst 0, 1) := by decide +kernel
theorem dX11_foretoldAt_1 : decode cX11_foretoldAt 1 = .ok (.lstore_n 2, 1) := by decide +kernel
theorem dX11_foretoldAt_2 : decode cX11_foretoldAt 2 = .ok (.iconst 0, 1) := by decide +kernel
theorem dX11_foretoldAt_3 : decode cX11_foretoldAt 3 = .ok (.istore 4, 2) := by decide +kernel
theorem dX11_foretoldAt_5 : decode cX11_foretoldAt 5 = .ok (.iload 4, 2) := by decide +kernel
theorem dX11_foretoldAt_7 : decode cX11_foretoldAt 7 = .ok (.aload_n 0, 1) := by decide +kernel
theorem dX11_foretoldAt_8 : decode cX11_foretoldAt 8 = .ok (.getfield 143, 3) := by decide +kernel
theorem dX11_foretoldAt_11 : decode cX11_foretoldAt 11 = .ok (.if_icmp .ge 32, 3) := by decide +kernel
theorem dX11_foretoldAt_14 : decode cX11_foretoldAt 14 = .ok (.lload_n 2, 1) := by decide +kernel
theorem dX11_foretoldAt_15 : decode cX11_foretoldAt 15 = .ok (.aload_n 0, 1) := by decide +kernel
theorem dX11_foretoldAt_16 : decode cX11_foretoldAt 16 = .ok (.aload_n 0, 1) := by decide +kernel
theorem dX11_foretoldAt_17 : decode cX11_foretoldAt 17 = .ok (.getfield 35, 3) := by decide +kernel
theorem dX11_foretoldAt_20 : decode cX11_foretoldAt 20 = .ok (.iload 4, 2) := by decide +kernel
theorem dX11_foretoldAt_22 : decode cX11_foretoldAt 22 = .ok (.iaload, 1) := by decide +kernel
theorem dX11_foretoldAt_23 : decode cX11_foretoldAt 23 = .ok (.iload_n 1, 1) := by decide +kernel
theorem dX11_foretoldAt_24 : decode cX11_foretoldAt 24 = .ok (.invokevirtual 81, 3) := by decide +kernel
theorem dX11_foretoldAt_27 : decode cX11_foretoldAt 27 = .ok (.aload_n 0, 1) := by decide +kernel
theorem dX11_foretoldAt_28 : decode cX11_foretoldAt 28 = .ok (.getfield 38, 3) := by decide +kernel
theorem dX11_foretoldAt_31 : decode cX11_foretoldAt 31 = .ok (.iload 4, 2) := by decide +kernel
theorem dX11_foretoldAt_33 : decode cX11_foretoldAt 33 = .ok (.laload, 1) := by decide +kernel
theorem dX11_foretoldAt_34 : decode cX11_foretoldAt 34 = .ok (.lmul, 1) := by decide +kernel
theorem dX11_foretoldAt_35 : decode cX11_foretoldAt 35 = .ok (.ladd, 1) := by decide +kernel
theorem dX11_foretoldAt_36 : decode cX11_foretoldAt 36 = .ok (.lstore_n 2, 1) := by decide +kernel
theorem dX11_foretoldAt_37 : decode cX11_foretoldAt 37 = .ok (.iinc 4 1, 3) := by decide +kernel
theorem dX11_foretoldAt_40 : decode cX11_foretoldAt 40 = .ok (.goto (-35), 3) := by decide +kernel
theorem dX11_foretoldAt_43 : decode cX11_foretoldAt 43 = .ok (.lload_n 2, 1) := by decide +kernel
theorem dX11_foretoldAt_44 : decode cX11_foretoldAt 44 = .ok (.lreturn, 1) := by decide +kernel
theorem dX11_left_0 : decode cX11_left 0 = .ok (.aload_n 0, 1) := by decide +kernel
theorem dX11_left_1 : decode cX11_left 1 = .ok (.invokevirtual 180, 3) := by decide +kernel
theorem dX11_left_4 : decode cX11_left 4 = .ok (.lconst 0, 1) := by decide +kernel
theorem dX11_left_5 : decode cX11_left 5 = .ok (.lcmp, 1) := by decide +kernel
theorem dX11_left_6 : decode cX11_left 6 = .ok (.ifCond .eq 12, 3) := by decide +kernel
theorem dX11_left_9 : decode cX11_left 9 = .ok (.aload_n 0, 1) := by decide +kernel
theorem dX11_left_10 : decode cX11_left 10 = .ok (.aload_n 0, 1) := by decide +kernel
theorem dX11_left_11 : decode cX11_left 11 = .ok (.invokevirtual 180, 3) := by decide +kernel
theorem dX11_left_14 : decode cX11_left 14 = .ok (.invokevirtual 64, 3) := by decide +kernel
theorem dX11_left_17 : decode cX11_left 17 = .ok (.lreturn, 1) := by decide +kernel
theorem dX11_left_18 : decode cX11_left 18 = .ok (.aload_n 0, 1) := by decide +kernel
theorem dX11_left_19 : decode cX11_left 19 = .ok (.iload_n 1, 1) := by decide +kernel
theorem dX11_left_20 : decode cX11_left 20 = .ok (.invokevirtual 91, 3) := by decide +kernel
theorem dX11_left_23 : decode cX11_left 23 = .ok (.ifCond .ne 11, 3) := by decide +kernel
theorem dX11_left_26 : decode cX11_left 26 = .ok (.aload_n 0, 1) := by decide +kernel
theorem dX11_left_27 : decode cX11_left 27 = .ok (.ldc2_w 62, 3) := by decide +kernel
theorem dX11_left_30 : decode cX11_left 30 = .ok (.invokevirtual 64, 3) := by decide +kernel
theorem dX11_left_33 : decode cX11_left 33 = .ok (.lreturn, 1) := by decide +kernel
theorem dX11_left_34 : decode cX11_left 34 = .ok (.aload_n 0, 1) := by decide +kernel
theorem dX11_left_35 : decode cX11_left 35 = .ok (.getfield 9, 3) := by decide +kernel
theorem dX11_left_38 : decode cX11_left 38 = .ok (.bipush 52, 2) := by decide +kernel
theorem dX11_left_40 : decode cX11_left 40 = .ok (.iload_n 1, 1) := by decide +kernel
theorem dX11_left_41 : decode cX11_left 41 = .ok (.iadd, 1) := by decide +kernel
theorem dX11_left_42 : decode cX11_left 42 = .ok (.iaload, 1) := by decide +kernel
theorem dX11_left_43 : decode cX11_left 43 = .ok (.i2l, 1) := by decide +kernel
theorem dX11_left_44 : decode cX11_left 44 = .ok (.aload_n 0, 1) := by decide +kernel
theorem dX11_left_45 : decode cX11_left 45 = .ok (.getfield 146, 3) := by decide +kernel
theorem dX11_left_48 : decode cX11_left 48 = .ok (.lmul, 1) := by decide +kernel
theorem dX11_left_49 : decode cX11_left 49 = .ok (.aload_n 0, 1) := by decide +kernel
theorem dX11_left_50 : decode cX11_left 50 = .ok (.aload_n 0, 1) := by decide +kernel
theorem dX11_left_51 : decode cX11_left 51 = .ok (.getfield 9, 3) := by decide +kernel
theorem dX11_left_54 : decode cX11_left 54 = .ok (.bipush 32, 2) := by decide +kernel
theorem dX11_left_56 : decode cX11_left 56 = .ok (.iload_n 1, 1) := by decide +kernel
theorem dX11_left_57 : decode cX11_left 57 = .ok (.iadd, 1) := by decide +kernel
theorem dX11_left_58 : decode cX11_left 58 = .ok (.iaload, 1) := by decide +kernel
theorem dX11_left_59 : decode cX11_left 59 = .ok (.invokevirtual 190, 3) := by decide +kernel
theorem dX11_left_62 : decode cX11_left 62 = .ok (.lsub, 1) := by decide +kernel
theorem dX11_left_63 : decode cX11_left 63 = .ok (.aload_n 0, 1) := by decide +kernel
theorem dX11_left_64 : decode cX11_left 64 = .ok (.getfield 146, 3) := by decide +kernel
theorem dX11_left_67 : decode cX11_left 67 = .ok (.iload_n 2, 1) := by decide +kernel
theorem dX11_left_68 : decode cX11_left 68 = .ok (.invokestatic 186, 3) := by decide +kernel
theorem dX11_left_71 : decode cX11_left 71 = .ok (.lreturn, 1) := by decide +kernel
theorem dX11_sum_0 : decode cX11_sum 0 = .ok (.aload_n 0, 1) := by decide +kernel
theorem dX11_sum_1 : decode cX11_sum 1 = .ok (.invokevirtual 180, 3) := by decide +kernel
theorem dX11_sum_4 : decode cX11_sum 4 = .ok (.lconst 0, 1) := by decide +kernel
theorem dX11_sum_5 : decode cX11_sum 5 = .ok (.lcmp, 1) := by decide +kernel
theorem dX11_sum_6 : decode cX11_sum 6 = .ok (.ifCond .eq 14, 3) := by decide +kernel
theorem dX11_sum_9 : decode cX11_sum 9 = .ok (.aload_n 0, 1) := by decide +kernel
theorem dX11_sum_10 : decode cX11_sum 10 = .ok (.aload_n 0, 1) := by decide +kernel
theorem dX11_sum_11 : decode cX11_sum 11 = .ok (.invokevirtual 180, 3) := by decide +kernel
theorem dX11_sum_14 : decode cX11_sum 14 = .ok (.invokevirtual 64, 3) := by decide +kernel
theorem dX11_sum_17 : decode cX11_sum 17 = .ok (.goto 15, 3) := by decide +kernel
theorem dX11_sum_20 : decode cX11_sum 20 = .ok (.aload_n 0, 1) := by decide +kernel
theorem dX11_sum_21 : decode cX11_sum 21 = .ok (.getfield 153, 3) := by decide +kernel
theorem dX11_sum_24 : decode cX11_sum 24 = .ok (.aload_n 0, 1) := by decide +kernel
theorem dX11_sum_25 : decode cX11_sum 25 = .ok (.getfield 146, 3) := by decide +kernel
theorem dX11_sum_28 : decode cX11_sum 28 = .ok (.iload_n 1, 1) := by decide +kernel
theorem dX11_sum_29 : decode cX11_sum 29 = .ok (.invokestatic 186, 3) := by decide +kernel
theorem dX11_sum_32 : decode cX11_sum 32 = .ok (.lreturn, 1) := by decide +kernel
theorem dX11_foretold_0 : decode cX11_foretold 0 = .ok (.aload_n 0, 1) := by decide +kernel
theorem dX11_foretold_1 : decode cX11_foretold 1 = .ok (.invokevirtual 180, 3) := by decide +kernel
theorem dX11_foretold_4 : decode cX11_foretold 4 = .ok (.lconst 0, 1) := by decide +kernel
theorem dX11_foretold_5 : decode cX11_foretold 5 = .ok (.lcmp, 1) := by decide +kernel
theorem dX11_foretold_6 : decode cX11_foretold 6 = .ok (.ifCond .eq 12, 3) := by decide +kernel
theorem dX11_foretold_9 : decode cX11_foretold 9 = .ok (.aload_n 0, 1) := by decide +kernel
theorem dX11_foretold_10 : decode cX11_foretold 10 = .ok (.aload_n 0, 1) := by decide +kernel
theorem dX11_foretold_11 : decode cX11_foretold 11 = .ok (.invokevirtual 180, 3) := by decide +kernel
theorem dX11_foretold_14 : decode cX11_foretold 14 = .ok (.invokevirtual 64, 3) := by decide +kernel
theorem dX11_foretold_17 : decode cX11_foretold 17 = .ok (.lreturn, 1) := by decide +kernel
theorem dX11_foretold_18 : decode cX11_foretold 18 = .ok (.iload_n 1, 1) := by decide +kernel
theorem dX11_foretold_19 : decode cX11_foretold 19 = .ok (.invokestatic 78, 3) := by decide +kernel
theorem dX11_foretold_22 : decode cX11_foretold 22 = .ok (.ifCond .eq 19, 3) := by decide +kernel
theorem dX11_foretold_25 : decode cX11_foretold 25 = .ok (.aload_n 0, 1) := by decide +kernel
theorem dX11_foretold_26 : decode cX11_foretold 26 = .ok (.iload_n 1, 1) := by decide +kernel
theorem dX11_foretold_27 : decode cX11_foretold 27 = .ok (.invokevirtual 190, 3) := by decide +kernel
theorem dX11_foretold_30 : decode cX11_foretold 30 = .ok (.aload_n 0, 1) := by decide +kernel
theorem dX11_foretold_31 : decode cX11_foretold 31 = .ok (.getfield 146, 3) := by decide +kernel
theorem dX11_foretold_34 : decode cX11_foretold 34 = .ok (.iload_n 2, 1) := by decide +kernel
theorem dX11_foretold_35 : decode cX11_foretold 35 = .ok (.invokestatic 186, 3) := by decide +kernel
theorem dX11_foretold_38 : decode cX11_foretold 38 = .ok (.goto 10, 3) := by decide +kernel
theorem dX11_foretold_41 : decode cX11_foretold 41 = .ok (.aload_n 0, 1) := by decide +kernel
theorem dX11_foretold_42 : decode cX11_foretold 42 = .ok (.ldc2_w 62, 3) := by decide +kernel
theorem dX11_foretold_45 : decode cX11_foretold 45 = .ok (.invokevirtual 64, 3) := by decide +kernel
theorem dX11_foretold_48 : decode cX11_foretold 48 = .ok (.lreturn, 1) := by decide +kernel
theorem dX11_model_0 : decode cX11_model 0 = .ok (.aload_n 0, 1) := by decide +kernel
theorem dX11_model_1 : decode cX11_model 1 = .ok (.invokevirtual 180, 3) := by decide +kernel
theorem dX11_model_4 : decode cX11_model 4 = .ok (.lconst 0, 1) := by decide +kernel
theorem dX11_model_5 : decode cX11_model 5 = .ok (.lcmp, 1) := by decide +kernel
theorem dX11_model_6 : decode cX11_model 6 = .ok (.ifCond .eq 14, 3) := by decide +kernel
theorem dX11_model_9 : decode cX11_model 9 = .ok (.aload_n 0, 1) := by decide +kernel
theorem dX11_model_10 : decode cX11_model 10 = .ok (.aload_n 0, 1) := by decide +kernel
theorem dX11_model_11 : decode cX11_model 11 = .ok (.invokevirtual 180, 3) := by decide +kernel
theorem dX11_model_14 : decode cX11_model 14 = .ok (.invokevirtual 64, 3) := by decide +kernel
theorem dX11_model_17 : decode cX11_model 17 = .ok (.goto 8, 3) := by decide +kernel
theorem dX11_model_20 : decode cX11_model 20 = .ok (.aload_n 0, 1) := by decide +kernel
theorem dX11_model_21 : decode cX11_model 21 = .ok (.getfield 140, 3) := by decide +kernel
theorem dX11_model_24 : decode cX11_model 24 = .ok (.i2l, 1) := by decide +kernel
theorem dX11_model_25 : decode cX11_model 25 = .ok (.lreturn, 1) := by decide +kernel
theorem dX11_few_0 : decode cX11_few 0 = .ok (.iload_n 1, 1) := by decide +kernel
theorem dX11_few_1 : decode cX11_few 1 = .ok (.iconst 1, 1) := by decide +kernel
theorem dX11_few_2 : decode cX11_few 2 = .ok (.iconst 3, 1) := by decide +kernel
theorem dX11_few_3 : decode cX11_few 3 = .ok (.invokestatic 58, 3) := by decide +kernel
theorem dX11_few_6 : decode cX11_few 6 = .ok (.ifCond .ne 11, 3) := by decide +kernel
theorem dX11_few_9 : decode cX11_few 9 = .ok (.aload_n 0, 1) := by decide +kernel
theorem dX11_few_10 : decode cX11_few 10 = .ok (.ldc2_w 62, 3) := by decide +kernel
theorem dX11_few_13 : decode cX11_few 13 = .ok (.invokevirtual 64, 3) := by decide +kernel
theorem dX11_few_16 : decode cX11_few 16 = .ok (.lreturn, 1) := by decide +kernel
theorem dX11_few_17 : decode cX11_few 17 = .ok (.aload_n 0, 1) := by decide +kernel
theorem dX11_few_18 : decode cX11_few 18 = .ok (.getfield 9, 3) := by decide +kernel
theorem dX11_few_21 : decode cX11_few 21 = .ok (.iconst 0, 1) := by decide +kernel
theorem dX11_few_22 : decode cX11_few 22 = .ok (.iaload, 1) := by decide +kernel
theorem dX11_few_23 : decode cX11_few 23 = .ok (.ifCond .ne 11, 3) := by decide +kernel
theorem dX11_few_26 : decode cX11_few 26 = .ok (.aload_n 0, 1) := by decide +kernel
theorem dX11_few_27 : decode cX11_few 27 = .ok (.ldc2_w 96, 3) := by decide +kernel
theorem dX11_few_30 : decode cX11_few 30 = .ok (.invokevirtual 64, 3) := by decide +kernel
theorem dX11_few_33 : decode cX11_few 33 = .ok (.lreturn, 1) := by decide +kernel
theorem dX11_few_34 : decode cX11_few 34 = .ok (.iconst 0, 1) := by decide +kernel
theorem dX11_few_35 : decode cX11_few 35 = .ok (.istore_n 2, 1) := by decide +kernel
theorem dX11_few_36 : decode cX11_few 36 = .ok (.lconst 0, 1) := by decide +kernel
theorem dX11_few_37 : decode cX11_few 37 = .ok (.lstore_n 3, 1) := by decide +kernel
theorem dX11_few_38 : decode cX11_few 38 = .ok (.lconst 1, 1) := by decide +kernel
theorem dX11_few_39 : decode cX11_few 39 = .ok (.lstore 5, 2) := by decide +kernel
theorem dX11_few_41 : decode cX11_few 41 = .ok (.iconst 1, 1) := by decide +kernel
theorem dX11_few_42 : decode cX11_few 42 = .ok (.istore 7, 2) := by decide +kernel
theorem dX11_few_44 : decode cX11_few 44 = .ok (.iload 7, 2) := by decide +kernel
theorem dX11_few_46 : decode cX11_few 46 = .ok (.iload_n 1, 1) := by decide +kernel
theorem dX11_few_47 : decode cX11_few 47 = .ok (.if_icmp .gt 98, 3) := by decide +kernel
theorem dX11_few_50 : decode cX11_few 50 = .ok (.iconst 1, 1) := by decide +kernel
theorem dX11_few_51 : decode cX11_few 51 = .ok (.istore 8, 2) := by decide +kernel
theorem dX11_few_53 : decode cX11_few 53 = .ok (.iload 8, 2) := by decide +kernel
theorem dX11_few_55 : decode cX11_few 55 = .ok (.iconst 1, 1) := by decide +kernel
theorem dX11_few_56 : decode cX11_few 56 = .ok (.aload_n 0, 1) := by decide +kernel
theorem dX11_few_57 : decode cX11_few 57 = .ok (.getfield 9, 3) := by decide +kernel
theorem dX11_few_60 : decode cX11_few 60 = .ok (.iconst 0, 1) := by decide +kernel
theorem dX11_few_61 : decode cX11_few 61 = .ok (.iaload, 1) := by decide +kernel
theorem dX11_few_62 : decode cX11_few 62 = .ok (.ishl, 1) := by decide +kernel
theorem dX11_few_63 : decode cX11_few 63 = .ok (.if_icmp .ge 76, 3) := by decide +kernel
theorem dX11_few_66 : decode cX11_few 66 = .ok (.iload 8, 2) := by decide +kernel
theorem dX11_few_68 : decode cX11_few 68 = .ok (.invokestatic 156, 3) := by decide +kernel
theorem dX11_few_71 : decode cX11_few 71 = .ok (.iload 7, 2) := by decide +kernel
theorem dX11_few_73 : decode cX11_few 73 = .ok (.if_icmp .eq 6, 3) := by decide +kernel
theorem dX11_few_76 : decode cX11_few 76 = .ok (.goto 57, 3) := by decide +kernel
theorem dX11_few_79 : decode cX11_few 79 = .ok (.aload_n 0, 1) := by decide +kernel
theorem dX11_few_80 : decode cX11_few 80 = .ok (.iload 8, 2) := by decide +kernel
theorem dX11_few_82 : decode cX11_few 82 = .ok (.invokevirtual 160, 3) := by decide +kernel
theorem dX11_few_85 : decode cX11_few 85 = .ok (.aload_n 0, 1) := by decide +kernel
theorem dX11_few_86 : decode cX11_few 86 = .ok (.iconst (-1), 1) := by decide +kernel
theorem dX11_few_87 : decode cX11_few 87 = .ok (.invokevirtual 164, 3) := by decide +kernel
theorem dX11_few_90 : decode cX11_few 90 = .ok (.ifCond .ne 6, 3) := by decide +kernel
theorem dX11_few_93 : decode cX11_few 93 = .ok (.goto 40, 3) := by decide +kernel
theorem dX11_few_96 : decode cX11_few 96 = .ok (.aload_n 0, 1) := by decide +kernel
theorem dX11_few_97 : decode cX11_few 97 = .ok (.invokevirtual 149, 3) := by decide +kernel
theorem dX11_few_100 : decode cX11_few 100 = .ok (.lstore 9, 2) := by decide +kernel
theorem dX11_few_102 : decode cX11_few 102 = .ok (.iload_n 2, 1) := by decide +kernel
theorem dX11_few_103 : decode cX11_few 103 = .ok (.ifCond .eq 18, 3) := by decide +kernel
theorem dX11_few_106 : decode cX11_few 106 = .ok (.lload 9, 2) := by decide +kernel
theorem dX11_few_108 : decode cX11_few 108 = .ok (.aload_n 0, 1) := by decide +kernel
theorem dX11_few_109 : decode cX11_few 109 = .ok (.getfield 121, 3) := by decide +kernel
theorem dX11_few_112 : decode cX11_few 112 = .ok (.lload_n 3, 1) := by decide +kernel
theorem dX11_few_113 : decode cX11_few 113 = .ok (.lload 5, 2) := by decide +kernel
theorem dX11_few_115 : decode cX11_few 115 = .ok (.invokestatic 193, 3) := by decide +kernel
theorem dX11_few_118 : decode cX11_few 118 = .ok (.ifCond .ge 15, 3) := by decide +kernel
theorem dX11_few_121 : decode cX11_few 121 = .ok (.iload 8, 2) := by decide +kernel
theorem dX11_few_123 : decode cX11_few 123 = .ok (.istore_n 2, 1) := by decide +kernel
theorem dX11_few_124 : decode cX11_few 124 = .ok (.lload 9, 2) := by decide +kernel
theorem dX11_few_126 : decode cX11_few 126 = .ok (.lstore_n 3, 1) := by decide +kernel
theorem dX11_few_127 : decode cX11_few 127 = .ok (.aload_n 0, 1) := by decide +kernel
theorem dX11_few_128 : decode cX11_few 128 = .ok (.getfield 121, 3) := by decide +kernel
theorem dX11_few_131 : decode cX11_few 131 = .ok (.lstore 5, 2) := by decide +kernel
theorem dX11_few_133 : decode cX11_few 133 = .ok (.iinc 8 1, 3) := by decide +kernel
theorem dX11_few_136 : decode cX11_few 136 = .ok (.goto (-83), 3) := by decide +kernel
theorem dX11_few_139 : decode cX11_few 139 = .ok (.iinc 7 1, 3) := by decide +kernel
theorem dX11_few_142 : decode cX11_few 142 = .ok (.goto (-98), 3) := by decide +kernel
theorem dX11_few_145 : decode cX11_few 145 = .ok (.iload_n 2, 1) := by decide +kernel
theorem dX11_few_146 : decode cX11_few 146 = .ok (.ifCond .ne 25, 3) := by decide +kernel
theorem dX11_few_149 : decode cX11_few 149 = .ok (.aload_n 0, 1) := by decide +kernel
theorem dX11_few_150 : decode cX11_few 150 = .ok (.lconst 1, 1) := by decide +kernel
theorem dX11_few_151 : decode cX11_few 151 = .ok (.aload_n 0, 1) := by decide +kernel
theorem dX11_few_152 : decode cX11_few 152 = .ok (.getfield 9, 3) := by decide +kernel
theorem dX11_few_155 : decode cX11_few 155 = .ok (.iconst 0, 1) := by decide +kernel
theorem dX11_few_156 : decode cX11_few 156 = .ok (.iaload, 1) := by decide +kernel
theorem dX11_few_157 : decode cX11_few 157 = .ok (.lshl, 1) := by decide +kernel
theorem dX11_few_158 : decode cX11_few 158 = .ok (.lconst 1, 1) := by decide +kernel
theorem dX11_few_159 : decode cX11_few 159 = .ok (.lsub, 1) := by decide +kernel
theorem dX11_few_160 : decode cX11_few 160 = .ok (.putfield 170, 3) := by decide +kernel
theorem dX11_few_163 : decode cX11_few 163 = .ok (.aload_n 0, 1) := by decide +kernel
theorem dX11_few_164 : decode cX11_few 164 = .ok (.ldc2_w 176, 3) := by decide +kernel
theorem dX11_few_167 : decode cX11_few 167 = .ok (.invokevirtual 64, 3) := by decide +kernel
theorem dX11_few_170 : decode cX11_few 170 = .ok (.lreturn, 1) := by decide +kernel
theorem dX11_few_171 : decode cX11_few 171 = .ok (.aload_n 0, 1) := by decide +kernel
theorem dX11_few_172 : decode cX11_few 172 = .ok (.iload_n 2, 1) := by decide +kernel
theorem dX11_few_173 : decode cX11_few 173 = .ok (.invokevirtual 160, 3) := by decide +kernel
theorem dX11_few_176 : decode cX11_few 176 = .ok (.aload_n 0, 1) := by decide +kernel
theorem dX11_few_177 : decode cX11_few 177 = .ok (.iconst (-1), 1) := by decide +kernel
theorem dX11_few_178 : decode cX11_few 178 = .ok (.invokevirtual 164, 3) := by decide +kernel
theorem dX11_few_181 : decode cX11_few 181 = .ok (.ifCond .eq 8, 3) := by decide +kernel
theorem dX11_few_184 : decode cX11_few 184 = .ok (.aload_n 0, 1) := by decide +kernel
theorem dX11_few_185 : decode cX11_few 185 = .ok (.iload_n 2, 1) := by decide +kernel
theorem dX11_few_186 : decode cX11_few 186 = .ok (.invokevirtual 167, 3) := by decide +kernel
theorem dX11_few_189 : decode cX11_few 189 = .ok (.iload_n 2, 1) := by decide +kernel
theorem dX11_few_190 : decode cX11_few 190 = .ok (.i2l, 1) := by decide +kernel
theorem dX11_few_191 : decode cX11_few 191 = .ok (.lreturn, 1) := by decide +kernel
theorem dX11_doubt_0 : decode cX11_doubt 0 = .ok (.aload_n 0, 1) := by decide +kernel
theorem dX11_doubt_1 : decode cX11_doubt 1 = .ok (.invokevirtual 180, 3) := by decide +kernel
theorem dX11_doubt_4 : decode cX11_doubt 4 = .ok (.lconst 0, 1) := by decide +kernel
theorem dX11_doubt_5 : decode cX11_doubt 5 = .ok (.lcmp, 1) := by decide +kernel
theorem dX11_doubt_6 : decode cX11_doubt 6 = .ok (.ifCond .eq 12, 3) := by decide +kernel
theorem dX11_doubt_9 : decode cX11_doubt 9 = .ok (.aload_n 0, 1) := by decide +kernel
theorem dX11_doubt_10 : decode cX11_doubt 10 = .ok (.aload_n 0, 1) := by decide +kernel
theorem dX11_doubt_11 : decode cX11_doubt 11 = .ok (.invokevirtual 180, 3) := by decide +kernel
theorem dX11_doubt_14 : decode cX11_doubt 14 = .ok (.invokevirtual 64, 3) := by decide +kernel
theorem dX11_doubt_17 : decode cX11_doubt 17 = .ok (.lreturn, 1) := by decide +kernel
theorem dX11_doubt_18 : decode cX11_doubt 18 = .ok (.aload_n 0, 1) := by decide +kernel
theorem dX11_doubt_19 : decode cX11_doubt 19 = .ok (.iload_n 1, 1) := by decide +kernel
theorem dX11_doubt_20 : decode cX11_doubt 20 = .ok (.invokevirtual 183, 3) := by decide +kernel
theorem dX11_doubt_23 : decode cX11_doubt 23 = .ok (.istore 4, 2) := by decide +kernel
theorem dX11_doubt_25 : decode cX11_doubt 25 = .ok (.iload 4, 2) := by decide +kernel
theorem dX11_doubt_27 : decode cX11_doubt 27 = .ok (.ifCond .ge 11, 3) := by decide +kernel
theorem dX11_doubt_30 : decode cX11_doubt 30 = .ok (.aload_n 0, 1) := by decide +kernel
theorem dX11_doubt_31 : decode cX11_doubt 31 = .ok (.ldc2_w 62, 3) := by decide +kernel
theorem dX11_doubt_34 : decode cX11_doubt 34 = .ok (.invokevirtual 64, 3) := by decide +kernel
theorem dX11_doubt_37 : decode cX11_doubt 37 = .ok (.lreturn, 1) := by decide +kernel
theorem dX11_doubt_38 : decode cX11_doubt 38 = .ok (.aload_n 0, 1) := by decide +kernel
theorem dX11_doubt_39 : decode cX11_doubt 39 = .ok (.aload_n 0, 1) := by decide +kernel
theorem dX11_doubt_40 : decode cX11_doubt 40 = .ok (.getfield 140, 3) := by decide +kernel
theorem dX11_doubt_43 : decode cX11_doubt 43 = .ok (.invokevirtual 160, 3) := by decide +kernel
theorem dX11_doubt_46 : decode cX11_doubt 46 = .ok (.lconst 0, 1) := by decide +kernel
theorem dX11_doubt_47 : decode cX11_doubt 47 = .ok (.lstore 5, 2) := by decide +kernel
theorem dX11_doubt_49 : decode cX11_doubt 49 = .ok (.lconst 0, 1) := by decide +kernel
theorem dX11_doubt_50 : decode cX11_doubt 50 = .ok (.lstore 7, 2) := by decide +kernel
theorem dX11_doubt_52 : decode cX11_doubt 52 = .ok (.iconst 0, 1) := by decide +kernel
theorem dX11_doubt_53 : decode cX11_doubt 53 = .ok (.istore 9, 2) := by decide +kernel
theorem dX11_doubt_55 : decode cX11_doubt 55 = .ok (.iload 9, 2) := by decide +kernel
theorem dX11_doubt_57 : decode cX11_doubt 57 = .ok (.aload_n 0, 1) := by decide +kernel
theorem dX11_doubt_58 : decode cX11_doubt 58 = .ok (.getfield 9, 3) := by decide +kernel
theorem dX11_doubt_61 : decode cX11_doubt 61 = .ok (.iconst 1, 1) := by decide +kernel
theorem dX11_doubt_62 : decode cX11_doubt 62 = .ok (.iaload, 1) := by decide +kernel
theorem dX11_doubt_63 : decode cX11_doubt 63 = .ok (.if_icmp .ge 91, 3) := by decide +kernel
theorem dX11_doubt_66 : decode cX11_doubt 66 = .ok (.aload_n 0, 1) := by decide +kernel
theorem dX11_doubt_67 : decode cX11_doubt 67 = .ok (.iload 9, 2) := by decide +kernel
theorem dX11_doubt_69 : decode cX11_doubt 69 = .ok (.invokevirtual 164, 3) := by decide +kernel
theorem dX11_doubt_72 : decode cX11_doubt 72 = .ok (.ifCond .ne 6, 3) := by decide +kernel
theorem dX11_doubt_75 : decode cX11_doubt 75 = .ok (.goto 73, 3) := by decide +kernel
theorem dX11_doubt_78 : decode cX11_doubt 78 = .ok (.lload 7, 2) := by decide +kernel
theorem dX11_doubt_80 : decode cX11_doubt 80 = .ok (.lconst 0, 1) := by decide +kernel
theorem dX11_doubt_81 : decode cX11_doubt 81 = .ok (.lcmp, 1) := by decide +kernel
theorem dX11_doubt_82 : decode cX11_doubt 82 = .ok (.ifCond .ne 7, 3) := by decide +kernel
theorem dX11_doubt_85 : decode cX11_doubt 85 = .ok (.iconst 0, 1) := by decide +kernel
theorem dX11_doubt_86 : decode cX11_doubt 86 = .ok (.goto 21, 3) := by decide +kernel
theorem dX11_doubt_89 : decode cX11_doubt 89 = .ok (.aload_n 0, 1) := by decide +kernel
theorem dX11_doubt_90 : decode cX11_doubt 90 = .ok (.getfield 50, 3) := by decide +kernel
theorem dX11_doubt_93 : decode cX11_doubt 93 = .ok (.iload 4, 2) := by decide +kernel
theorem dX11_doubt_95 : decode cX11_doubt 95 = .ok (.laload, 1) := by decide +kernel
theorem dX11_doubt_96 : decode cX11_doubt 96 = .ok (.aload_n 0, 1) := by decide +kernel
theorem dX11_doubt_97 : decode cX11_doubt 97 = .ok (.getfield 121, 3) := by decide +kernel
theorem dX11_doubt_100 : decode cX11_doubt 100 = .ok (.lload 5, 2) := by decide +kernel
theorem dX11_doubt_102 : decode cX11_doubt 102 = .ok (.lload 7, 2) := by decide +kernel
theorem dX11_doubt_104 : decode cX11_doubt 104 = .ok (.invokestatic 193, 3) := by decide +kernel
theorem dX11_doubt_107 : decode cX11_doubt 107 = .ok (.istore 10, 2) := by decide +kernel
theorem dX11_doubt_109 : decode cX11_doubt 109 = .ok (.lload 7, 2) := by decide +kernel
theorem dX11_doubt_111 : decode cX11_doubt 111 = .ok (.lconst 0, 1) := by decide +kernel
theorem dX11_doubt_112 : decode cX11_doubt 112 = .ok (.lcmp, 1) := by decide +kernel
theorem dX11_doubt_113 : decode cX11_doubt 113 = .ok (.ifCond .eq 20, 3) := by decide +kernel
theorem dX11_doubt_116 : decode cX11_doubt 116 = .ok (.iload_n 2, 1) := by decide +kernel
theorem dX11_doubt_117 : decode cX11_doubt 117 = .ok (.ifCond .eq 11, 3) := by decide +kernel
theorem dX11_doubt_120 : decode cX11_doubt 120 = .ok (.iload 10, 2) := by decide +kernel
theorem dX11_doubt_122 : decode cX11_doubt 122 = .ok (.ifCond .le 26, 3) := by decide +kernel
theorem dX11_doubt_125 : decode cX11_doubt 125 = .ok (.goto 8, 3) := by decide +kernel
theorem dX11_doubt_128 : decode cX11_doubt 128 = .ok (.iload 10, 2) := by decide +kernel
theorem dX11_doubt_130 : decode cX11_doubt 130 = .ok (.ifCond .ge 18, 3) := by decide +kernel
theorem dX11_doubt_133 : decode cX11_doubt 133 = .ok (.aload_n 0, 1) := by decide +kernel
theorem dX11_doubt_134 : decode cX11_doubt 134 = .ok (.getfield 50, 3) := by decide +kernel
theorem dX11_doubt_137 : decode cX11_doubt 137 = .ok (.iload 4, 2) := by decide +kernel
theorem dX11_doubt_139 : decode cX11_doubt 139 = .ok (.laload, 1) := by decide +kernel
theorem dX11_doubt_140 : decode cX11_doubt 140 = .ok (.lstore 5, 2) := by decide +kernel
theorem dX11_doubt_142 : decode cX11_doubt 142 = .ok (.aload_n 0, 1) := by decide +kernel
theorem dX11_doubt_143 : decode cX11_doubt 143 = .ok (.getfield 121, 3) := by decide +kernel
theorem dX11_doubt_146 : decode cX11_doubt 146 = .ok (.lstore 7, 2) := by decide +kernel
theorem dX11_doubt_148 : decode cX11_doubt 148 = .ok (.iinc 9 1, 3) := by decide +kernel
theorem dX11_doubt_151 : decode cX11_doubt 151 = .ok (.goto (-96), 3) := by decide +kernel
theorem dX11_doubt_154 : decode cX11_doubt 154 = .ok (.lload 7, 2) := by decide +kernel
theorem dX11_doubt_156 : decode cX11_doubt 156 = .ok (.lconst 0, 1) := by decide +kernel
theorem dX11_doubt_157 : decode cX11_doubt 157 = .ok (.lcmp, 1) := by decide +kernel
theorem dX11_doubt_158 : decode cX11_doubt 158 = .ok (.ifCond .ne 13, 3) := by decide +kernel
theorem dX11_doubt_161 : decode cX11_doubt 161 = .ok (.aload_n 0, 1) := by decide +kernel
theorem dX11_doubt_162 : decode cX11_doubt 162 = .ok (.ldc2_w 176, 3) := by decide +kernel
theorem dX11_doubt_165 : decode cX11_doubt 165 = .ok (.invokevirtual 64, 3) := by decide +kernel
theorem dX11_doubt_168 : decode cX11_doubt 168 = .ok (.goto 11, 3) := by decide +kernel
theorem dX11_doubt_171 : decode cX11_doubt 171 = .ok (.lload 5, 2) := by decide +kernel
theorem dX11_doubt_173 : decode cX11_doubt 173 = .ok (.lload 7, 2) := by decide +kernel
theorem dX11_doubt_175 : decode cX11_doubt 175 = .ok (.iload_n 3, 1) := by decide +kernel
theorem dX11_doubt_176 : decode cX11_doubt 176 = .ok (.invokestatic 186, 3) := by decide +kernel
theorem dX11_doubt_179 : decode cX11_doubt 179 = .ok (.lreturn, 1) := by decide +kernel
theorem dX11_spare_0 : decode cX11_spare 0 = .ok (.aload_n 0, 1) := by decide +kernel
theorem dX11_spare_1 : decode cX11_spare 1 = .ok (.invokevirtual 180, 3) := by decide +kernel
theorem dX11_spare_4 : decode cX11_spare 4 = .ok (.lconst 0, 1) := by decide +kernel
theorem dX11_spare_5 : decode cX11_spare 5 = .ok (.lcmp, 1) := by decide +kernel
theorem dX11_spare_6 : decode cX11_spare 6 = .ok (.ifCond .eq 12, 3) := by decide +kernel
theorem dX11_spare_9 : decode cX11_spare 9 = .ok (.aload_n 0, 1) := by decide +kernel
theorem dX11_spare_10 : decode cX11_spare 10 = .ok (.aload_n 0, 1) := by decide +kernel
theorem dX11_spare_11 : decode cX11_spare 11 = .ok (.invokevirtual 180, 3) := by decide +kernel
theorem dX11_spare_14 : decode cX11_spare 14 = .ok (.invokevirtual 64, 3) := by decide +kernel
theorem dX11_spare_17 : decode cX11_spare 17 = .ok (.lreturn, 1) := by decide +kernel
theorem dX11_spare_18 : decode cX11_spare 18 = .ok (.aload_n 0, 1) := by decide +kernel
theorem dX11_spare_19 : decode cX11_spare 19 = .ok (.aload_n 0, 1) := by decide +kernel
theorem dX11_spare_20 : decode cX11_spare 20 = .ok (.getfield 140, 3) := by decide +kernel
theorem dX11_spare_23 : decode cX11_spare 23 = .ok (.invokevirtual 160, 3) := by decide +kernel
theorem dX11_spare_26 : decode cX11_spare 26 = .ok (.iconst 0, 1) := by decide +kernel
theorem dX11_spare_27 : decode cX11_spare 27 = .ok (.istore_n 1, 1) := by decide +kernel
theorem dX11_spare_28 : decode cX11_spare 28 = .ok (.iconst 0, 1) := by decide +kernel
theorem dX11_spare_29 : decode cX11_spare 29 = .ok (.istore_n 2, 1) := by decide +kernel
theorem dX11_spare_30 : decode cX11_spare 30 = .ok (.iload_n 2, 1) := by decide +kernel
theorem dX11_spare_31 : decode cX11_spare 31 = .ok (.aload_n 0, 1) := by decide +kernel
theorem dX11_spare_32 : decode cX11_spare 32 = .ok (.getfield 9, 3) := by decide +kernel
theorem dX11_spare_35 : decode cX11_spare 35 = .ok (.iconst 1, 1) := by decide +kernel
theorem dX11_spare_36 : decode cX11_spare 36 = .ok (.iaload, 1) := by decide +kernel
theorem dX11_spare_37 : decode cX11_spare 37 = .ok (.if_icmp .ge 25, 3) := by decide +kernel
theorem dX11_spare_40 : decode cX11_spare 40 = .ok (.iload_n 1, 1) := by decide +kernel
theorem dX11_spare_41 : decode cX11_spare 41 = .ok (.aload_n 0, 1) := by decide +kernel
theorem dX11_spare_42 : decode cX11_spare 42 = .ok (.iload_n 2, 1) := by decide +kernel
theorem dX11_spare_43 : decode cX11_spare 43 = .ok (.invokevirtual 164, 3) := by decide +kernel
theorem dX11_spare_46 : decode cX11_spare 46 = .ok (.ifCond .eq 7, 3) := by decide +kernel
theorem dX11_spare_49 : decode cX11_spare 49 = .ok (.iconst 1, 1) := by decide +kernel
theorem dX11_spare_50 : decode cX11_spare 50 = .ok (.goto 4, 3) := by decide +kernel
theorem dX11_spare_53 : decode cX11_spare 53 = .ok (.iconst 0, 1) := by decide +kernel
theorem dX11_spare_54 : decode cX11_spare 54 = .ok (.iadd, 1) := by decide +kernel
theorem dX11_spare_55 : decode cX11_spare 55 = .ok (.istore_n 1, 1) := by decide +kernel
theorem dX11_spare_56 : decode cX11_spare 56 = .ok (.iinc 2 1, 3) := by decide +kernel
theorem dX11_spare_59 : decode cX11_spare 59 = .ok (.goto (-29), 3) := by decide +kernel
theorem dX11_spare_62 : decode cX11_spare 62 = .ok (.iload_n 1, 1) := by decide +kernel
theorem dX11_spare_63 : decode cX11_spare 63 = .ok (.i2l, 1) := by decide +kernel
theorem dX11_spare_64 : decode cX11_spare 64 = .ok (.lreturn, 1) := by decide +kernel
theorem dX11_mend_0 : decode cX11_mend 0 = .ok (.aload_n 0, 1) := by decide +kernel
theorem dX11_mend_1 : decode cX11_mend 1 = .ok (.iload_n 1, 1) := by decide +kernel
theorem dX11_mend_2 : decode cX11_mend 2 = .ok (.invokevirtual 74, 3) := by decide +kernel
theorem dX11_mend_5 : decode cX11_mend 5 = .ok (.ifCond .eq 16, 3) := by decide +kernel
theorem dX11_mend_8 : decode cX11_mend 8 = .ok (.iload_n 2, 1) := by decide +kernel
theorem dX11_mend_9 : decode cX11_mend 9 = .ok (.sipush (-200), 3) := by decide +kernel
theorem dX11_mend_12 : decode cX11_mend 12 = .ok (.sipush 200, 3) := by decide +kernel
theorem dX11_mend_15 : decode cX11_mend 15 = .ok (.invokestatic 58, 3) := by decide +kernel
theorem dX11_mend_18 : decode cX11_mend 18 = .ok (.ifCond .ne 11, 3) := by decide +kernel
theorem dX11_mend_21 : decode cX11_mend 21 = .ok (.aload_n 0, 1) := by decide +kernel
theorem dX11_mend_22 : decode cX11_mend 22 = .ok (.ldc2_w 62, 3) := by decide +kernel
theorem dX11_mend_25 : decode cX11_mend 25 = .ok (.invokevirtual 64, 3) := by decide +kernel
theorem dX11_mend_28 : decode cX11_mend 28 = .ok (.lreturn, 1) := by decide +kernel
theorem dX11_mend_29 : decode cX11_mend 29 = .ok (.aload_n 0, 1) := by decide +kernel
theorem dX11_mend_30 : decode cX11_mend 30 = .ok (.getfield 9, 3) := by decide +kernel
theorem dX11_mend_33 : decode cX11_mend 33 = .ok (.iconst 2, 1) := by decide +kernel
theorem dX11_mend_34 : decode cX11_mend 34 = .ok (.iaload, 1) := by decide +kernel
theorem dX11_mend_35 : decode cX11_mend 35 = .ok (.istore_n 3, 1) := by decide +kernel
theorem dX11_mend_36 : decode cX11_mend 36 = .ok (.iload_n 3, 1) := by decide +kernel
theorem dX11_mend_37 : decode cX11_mend 37 = .ok (.bipush 8, 2) := by decide +kernel
theorem dX11_mend_39 : decode cX11_mend 39 = .ok (.if_icmp .ne 11, 3) := by decide +kernel
theorem dX11_mend_42 : decode cX11_mend 42 = .ok (.aload_n 0, 1) := by decide +kernel
theorem dX11_mend_43 : decode cX11_mend 43 = .ok (.ldc2_w 68, 3) := by decide +kernel
theorem dX11_mend_46 : decode cX11_mend 46 = .ok (.invokevirtual 64, 3) := by decide +kernel
theorem dX11_mend_49 : decode cX11_mend 49 = .ok (.lreturn, 1) := by decide +kernel
theorem dX11_mend_50 : decode cX11_mend 50 = .ok (.aload_n 0, 1) := by decide +kernel
theorem dX11_mend_51 : decode cX11_mend 51 = .ok (.getfield 9, 3) := by decide +kernel
theorem dX11_mend_54 : decode cX11_mend 54 = .ok (.bipush 72, 2) := by decide +kernel
theorem dX11_mend_56 : decode cX11_mend 56 = .ok (.iload_n 3, 1) := by decide +kernel
theorem dX11_mend_57 : decode cX11_mend 57 = .ok (.iadd, 1) := by decide +kernel
theorem dX11_mend_58 : decode cX11_mend 58 = .ok (.iload_n 1, 1) := by decide +kernel
theorem dX11_mend_59 : decode cX11_mend 59 = .ok (.iastore, 1) := by decide +kernel
theorem dX11_mend_60 : decode cX11_mend 60 = .ok (.aload_n 0, 1) := by decide +kernel
theorem dX11_mend_61 : decode cX11_mend 61 = .ok (.getfield 9, 3) := by decide +kernel
theorem dX11_mend_64 : decode cX11_mend 64 = .ok (.bipush 80, 2) := by decide +kernel
theorem dX11_mend_66 : decode cX11_mend 66 = .ok (.iload_n 3, 1) := by decide +kernel
theorem dX11_mend_67 : decode cX11_mend 67 = .ok (.iadd, 1) := by decide +kernel
theorem dX11_mend_68 : decode cX11_mend 68 = .ok (.iload_n 2, 1) := by decide +kernel
theorem dX11_mend_69 : decode cX11_mend 69 = .ok (.iastore, 1) := by decide +kernel
theorem dX11_mend_70 : decode cX11_mend 70 = .ok (.aload_n 0, 1) := by decide +kernel
theorem dX11_mend_71 : decode cX11_mend 71 = .ok (.getfield 9, 3) := by decide +kernel
theorem dX11_mend_74 : decode cX11_mend 74 = .ok (.iconst 2, 1) := by decide +kernel
theorem dX11_mend_75 : decode cX11_mend 75 = .ok (.dup2, 1) := by decide +kernel
theorem dX11_mend_76 : decode cX11_mend 76 = .ok (.iaload, 1) := by decide +kernel
theorem dX11_mend_77 : decode cX11_mend 77 = .ok (.iconst 1, 1) := by decide +kernel
theorem dX11_mend_78 : decode cX11_mend 78 = .ok (.iadd, 1) := by decide +kernel
theorem dX11_mend_79 : decode cX11_mend 79 = .ok (.iastore, 1) := by decide +kernel
theorem dX11_mend_80 : decode cX11_mend 80 = .ok (.iload_n 3, 1) := by decide +kernel
theorem dX11_mend_81 : decode cX11_mend 81 = .ok (.i2l, 1) := by decide +kernel
theorem dX11_mend_82 : decode cX11_mend 82 = .ok (.lreturn, 1) := by decide +kernel
theorem dX11_hasSpan_0 : decode cX11_hasSpan 0 = .ok (.aload_n 0, 1) := by decide +kernel
theorem dX11_hasSpan_1 : decode cX11_hasSpan 1 = .ok (.getfield 9, 3) := by decide +kernel
theorem dX11_hasSpan_4 : decode cX11_hasSpan 4 = .ok (.bipush 88, 2) := by decide +kernel
theorem dX11_hasSpan_6 : decode cX11_hasSpan 6 = .ok (.iload_n 1, 1) := by decide +kernel
theorem dX11_hasSpan_7 : decode cX11_hasSpan 7 = .ok (.iadd, 1) := by decide +kernel
theorem dX11_hasSpan_8 : decode cX11_hasSpan 8 = .ok (.iaload, 1) := by decide +kernel
theorem dX11_hasSpan_9 : decode cX11_hasSpan 9 = .ok (.aload_n 0, 1) := by decide +kernel
theorem dX11_hasSpan_10 : decode cX11_hasSpan 10 = .ok (.getfield 9, 3) := by decide +kernel
theorem dX11_hasSpan_13 : decode cX11_hasSpan 13 = .ok (.bipush 124, 2) := by decide +kernel
theorem dX11_hasSpan_15 : decode cX11_hasSpan 15 = .ok (.iload_n 1, 1) := by decide +kernel
theorem dX11_hasSpan_16 : decode cX11_hasSpan 16 = .ok (.iadd, 1) := by decide +kernel
theorem dX11_hasSpan_17 : decode cX11_hasSpan 17 = .ok (.iaload, 1) := by decide +kernel
theorem dX11_hasSpan_18 : decode cX11_hasSpan 18 = .ok (.if_icmp .gt 7, 3) := by decide +kernel
theorem dX11_hasSpan_21 : decode cX11_hasSpan 21 = .ok (.iconst 1, 1) := by decide +kernel
theorem dX11_hasSpan_22 : decode cX11_hasSpan 22 = .ok (.goto 4, 3) := by decide +kernel
theorem dX11_hasSpan_25 : decode cX11_hasSpan 25 = .ok (.iconst 0, 1) := by decide +kernel
theorem dX11_hasSpan_26 : decode cX11_hasSpan 26 = .ok (.ireturn, 1) := by decide +kernel
theorem dX11_spans_0 : decode cX11_spans 0 = .ok (.iconst 0, 1) := by decide +kernel
theorem dX11_spans_1 : decode cX11_spans 1 = .ok (.istore_n 1, 1) := by decide +kernel
theorem dX11_spans_2 : decode cX11_spans 2 = .ok (.iconst 0, 1) := by decide +kernel
theorem dX11_spans_3 : decode cX11_spans 3 = .ok (.istore_n 2, 1) := by decide +kernel
theorem dX11_spans_4 : decode cX11_spans 4 = .ok (.iload_n 2, 1) := by decide +kernel
theorem dX11_spans_5 : decode cX11_spans 5 = .ok (.bipush 36, 2) := by decide +kernel
theorem dX11_spans_7 : decode cX11_spans 7 = .ok (.if_icmp .ge 25, 3) := by decide +kernel
theorem dX11_spans_10 : decode cX11_spans 10 = .ok (.iload_n 1, 1) := by decide +kernel
theorem dX11_spans_11 : decode cX11_spans 11 = .ok (.aload_n 0, 1) := by decide +kernel
theorem dX11_spans_12 : decode cX11_spans 12 = .ok (.iload_n 2, 1) := by decide +kernel
theorem dX11_spans_13 : decode cX11_spans 13 = .ok (.invokevirtual 197, 3) := by decide +kernel
theorem dX11_spans_16 : decode cX11_spans 16 = .ok (.ifCond .eq 7, 3) := by decide +kernel
theorem dX11_spans_19 : decode cX11_spans 19 = .ok (.iconst 1, 1) := by decide +kernel
theorem dX11_spans_20 : decode cX11_spans 20 = .ok (.goto 4, 3) := by decide +kernel
theorem dX11_spans_23 : decode cX11_spans 23 = .ok (.iconst 0, 1) := by decide +kernel
theorem dX11_spans_24 : decode cX11_spans 24 = .ok (.iadd, 1) := by decide +kernel
theorem dX11_spans_25 : decode cX11_spans 25 = .ok (.istore_n 1, 1) := by decide +kernel
theorem dX11_spans_26 : decode cX11_spans 26 = .ok (.iinc 2 1, 3) := by decide +kernel
theorem dX11_spans_29 : decode cX11_spans 29 = .ok (.goto (-25), 3) := by decide +kernel
theorem dX11_spans_32 : decode cX11_spans 32 = .ok (.iload_n 1, 1) := by decide +kernel
theorem dX11_spans_33 : decode cX11_spans 33 = .ok (.ireturn, 1) := by decide +kernel
theorem dX11_span_0 : decode cX11_span 0 = .ok (.iload_n 1, 1) := by decide +kernel
theorem dX11_span_1 : decode cX11_span 1 = .ok (.invokestatic 78, 3) := by decide +kernel
theorem dX11_span_4 : decode cX11_span 4 = .ok (.ifCond .eq 29, 3) := by decide +kernel
theorem dX11_span_7 : decode cX11_span 7 = .ok (.iload_n 2, 1) := by decide +kernel
theorem dX11_span_8 : decode cX11_span 8 = .ok (.sipush (-1000), 3) := by decide +kernel
theorem dX11_span_11 : decode cX11_span 11 = .ok (.sipush 1000, 3) := by decide +kernel
theorem dX11_span_14 : decode cX11_span 14 = .ok (.invokestatic 58, 3) := by decide +kernel
theorem dX11_span_17 : decode cX11_span 17 = .ok (.ifCond .eq 16, 3) := by decide +kernel
theorem dX11_span_20 : decode cX11_span 20 = .ok (.iload_n 3, 1) := by decide +kernel
theorem dX11_span_21 : decode cX11_span 21 = .ok (.sipush (-1000), 3) := by decide +kernel
theorem dX11_span_24 : decode cX11_span 24 = .ok (.sipush 1000, 3) := by decide +kernel
theorem dX11_span_27 : decode cX11_span 27 = .ok (.invokestatic 58, 3) := by decide +kernel
theorem dX11_span_30 : decode cX11_span 30 = .ok (.ifCond .ne 11, 3) := by decide +kernel
theorem dX11_span_33 : decode cX11_span 33 = .ok (.aload_n 0, 1) := by decide +kernel
theorem dX11_span_34 : decode cX11_span 34 = .ok (.ldc2_w 62, 3) := by decide +kernel
theorem dX11_span_37 : decode cX11_span 37 = .ok (.invokevirtual 64, 3) := by decide +kernel
theorem dX11_span_40 : decode cX11_span 40 = .ok (.lreturn, 1) := by decide +kernel
theorem dX11_span_41 : decode cX11_span 41 = .ok (.aload_n 0, 1) := by decide +kernel
theorem dX11_span_42 : decode cX11_span 42 = .ok (.getfield 9, 3) := by decide +kernel
theorem dX11_span_45 : decode cX11_span 45 = .ok (.bipush 88, 2) := by decide +kernel
theorem dX11_span_47 : decode cX11_span 47 = .ok (.iload_n 1, 1) := by decide +kernel
theorem dX11_span_48 : decode cX11_span 48 = .ok (.iadd, 1) := by decide +kernel
theorem dX11_span_49 : decode cX11_span 49 = .ok (.iload_n 2, 1) := by decide +kernel
theorem dX11_span_50 : decode cX11_span 50 = .ok (.iload_n 3, 1) := by decide +kernel
theorem dX11_span_51 : decode cX11_span 51 = .ok (.if_icmp .gt 7, 3) := by decide +kernel
theorem dX11_span_54 : decode cX11_span 54 = .ok (.iload_n 2, 1) := by decide +kernel
theorem dX11_span_55 : decode cX11_span 55 = .ok (.goto 4, 3) := by decide +kernel
theorem dX11_span_58 : decode cX11_span 58 = .ok (.iconst 1, 1) := by decide +kernel
theorem dX11_span_59 : decode cX11_span 59 = .ok (.iastore, 1) := by decide +kernel
theorem dX11_span_60 : decode cX11_span 60 = .ok (.aload_n 0, 1) := by decide +kernel
theorem dX11_span_61 : decode cX11_span 61 = .ok (.getfield 9, 3) := by decide +kernel
theorem dX11_span_64 : decode cX11_span 64 = .ok (.bipush 124, 2) := by decide +kernel
theorem dX11_span_66 : decode cX11_span 66 = .ok (.iload_n 1, 1) := by decide +kernel
theorem dX11_span_67 : decode cX11_span 67 = .ok (.iadd, 1) := by decide +kernel
theorem dX11_span_68 : decode cX11_span 68 = .ok (.iload_n 2, 1) := by decide +kernel
theorem dX11_span_69 : decode cX11_span 69 = .ok (.iload_n 3, 1) := by decide +kernel
theorem dX11_span_70 : decode cX11_span 70 = .ok (.if_icmp .gt 7, 3) := by decide +kernel
theorem dX11_span_73 : decode cX11_span 73 = .ok (.iload_n 3, 1) := by decide +kernel
theorem dX11_span_74 : decode cX11_span 74 = .ok (.goto 4, 3) := by decide +kernel
theorem dX11_span_77 : decode cX11_span 77 = .ok (.iconst 0, 1) := by decide +kernel
theorem dX11_span_78 : decode cX11_span 78 = .ok (.iastore, 1) := by decide +kernel
theorem dX11_span_79 : decode cX11_span 79 = .ok (.iload_n 2, 1) := by decide +kernel
theorem dX11_span_80 : decode cX11_span 80 = .ok (.iload_n 3, 1) := by decide +kernel
theorem dX11_span_81 : decode cX11_span 81 = .ok (.if_icmp .gt 7, 3) := by decide +kernel
theorem dX11_span_84 : decode cX11_span 84 = .ok (.lconst 1, 1) := by decide +kernel
theorem dX11_span_85 : decode cX11_span 85 = .ok (.goto 4, 3) := by decide +kernel
theorem dX11_span_88 : decode cX11_span 88 = .ok (.lconst 0, 1) := by decide +kernel
theorem dX11_span_89 : decode cX11_span 89 = .ok (.lreturn, 1) := by decide +kernel
theorem dX11_isMend_0 : decode cX11_isMend 0 = .ok (.iload_n 1, 1) := by decide +kernel
theorem dX11_isMend_1 : decode cX11_isMend 1 = .ok (.iconst 0, 1) := by decide +kernel
theorem dX11_isMend_2 : decode cX11_isMend 2 = .ok (.aload_n 0, 1) := by decide +kernel
theorem dX11_isMend_3 : decode cX11_isMend 3 = .ok (.getfield 9, 3) := by decide +kernel
theorem dX11_isMend_6 : decode cX11_isMend 6 = .ok (.iconst 2, 1) := by decide +kernel
theorem dX11_isMend_7 : decode cX11_isMend 7 = .ok (.iaload, 1) := by decide +kernel
theorem dX11_isMend_8 : decode cX11_isMend 8 = .ok (.iconst 1, 1) := by decide +kernel
theorem dX11_isMend_9 : decode cX11_isMend 9 = .ok (.isub, 1) := by decide +kernel
theorem dX11_isMend_10 : decode cX11_isMend 10 = .ok (.invokestatic 58, 3) := by decide +kernel
theorem dX11_isMend_13 : decode cX11_isMend 13 = .ok (.ireturn, 1) := by decide +kernel
theorem dX11_mended_0 : decode cX11_mended 0 = .ok (.iload_n 1, 1) := by decide +kernel
theorem dX11_mended_1 : decode cX11_mended 1 = .ok (.ifCond .lt 19, 3) := by decide +kernel
theorem dX11_mended_4 : decode cX11_mended 4 = .ok (.aload_n 0, 1) := by decide +kernel
theorem dX11_mended_5 : decode cX11_mended 5 = .ok (.aload_n 0, 1) := by decide +kernel
theorem dX11_mended_6 : decode cX11_mended 6 = .ok (.getfield 9, 3) := by decide +kernel
theorem dX11_mended_9 : decode cX11_mended 9 = .ok (.bipush 72, 2) := by decide +kernel
theorem dX11_mended_11 : decode cX11_mended 11 = .ok (.iload_n 1, 1) := by decide +kernel
theorem dX11_mended_12 : decode cX11_mended 12 = .ok (.iadd, 1) := by decide +kernel
theorem dX11_mended_13 : decode cX11_mended 13 = .ok (.iaload, 1) := by decide +kernel
theorem dX11_mended_14 : decode cX11_mended 14 = .ok (.invokevirtual 183, 3) := by decide +kernel
theorem dX11_mended_17 : decode cX11_mended 17 = .ok (.ifCond .ge 5, 3) := by decide +kernel
theorem dX11_mended_20 : decode cX11_mended 20 = .ok (.lconst 0, 1) := by decide +kernel
theorem dX11_mended_21 : decode cX11_mended 21 = .ok (.lreturn, 1) := by decide +kernel
theorem dX11_mended_22 : decode cX11_mended 22 = .ok (.aload_n 0, 1) := by decide +kernel
theorem dX11_mended_23 : decode cX11_mended 23 = .ok (.aload_n 0, 1) := by decide +kernel
theorem dX11_mended_24 : decode cX11_mended 24 = .ok (.getfield 9, 3) := by decide +kernel
theorem dX11_mended_27 : decode cX11_mended 27 = .ok (.bipush 72, 2) := by decide +kernel
theorem dX11_mended_29 : decode cX11_mended 29 = .ok (.iload_n 1, 1) := by decide +kernel
theorem dX11_mended_30 : decode cX11_mended 30 = .ok (.iadd, 1) := by decide +kernel
theorem dX11_mended_31 : decode cX11_mended 31 = .ok (.iaload, 1) := by decide +kernel
theorem dX11_mended_32 : decode cX11_mended 32 = .ok (.iload_n 3, 1) := by decide +kernel
theorem dX11_mended_33 : decode cX11_mended 33 = .ok (.invokevirtual 81, 3) := by decide +kernel
theorem dX11_mended_36 : decode cX11_mended 36 = .ok (.aload_n 0, 1) := by decide +kernel
theorem dX11_mended_37 : decode cX11_mended 37 = .ok (.getfield 9, 3) := by decide +kernel
theorem dX11_mended_40 : decode cX11_mended 40 = .ok (.bipush 80, 2) := by decide +kernel
theorem dX11_mended_42 : decode cX11_mended 42 = .ok (.iload_n 1, 1) := by decide +kernel
theorem dX11_mended_43 : decode cX11_mended 43 = .ok (.iadd, 1) := by decide +kernel
theorem dX11_mended_44 : decode cX11_mended 44 = .ok (.iaload, 1) := by decide +kernel
theorem dX11_mended_45 : decode cX11_mended 45 = .ok (.i2l, 1) := by decide +kernel
theorem dX11_mended_46 : decode cX11_mended 46 = .ok (.lmul, 1) := by decide +kernel
theorem dX11_mended_47 : decode cX11_mended 47 = .ok (.iload_n 2, 1) := by decide +kernel
theorem dX11_mended_48 : decode cX11_mended 48 = .ok (.i2l, 1) := by decide +kernel
theorem dX11_mended_49 : decode cX11_mended 49 = .ok (.lmul, 1) := by decide +kernel
theorem dX11_mended_50 : decode cX11_mended 50 = .ok (.lreturn, 1) := by decide +kernel
theorem dX11_behind_0 : decode cX11_behind 0 = .ok (.aload_n 0, 1) := by decide +kernel
theorem dX11_behind_1 : decode cX11_behind 1 = .ok (.invokevirtual 180, 3) := by decide +kernel
theorem dX11_behind_4 : decode cX11_behind 4 = .ok (.lconst 0, 1) := by decide +kernel
theorem dX11_behind_5 : decode cX11_behind 5 = .ok (.lcmp, 1) := by decide +kernel
theorem dX11_behind_6 : decode cX11_behind 6 = .ok (.ifCond .eq 12, 3) := by decide +kernel
theorem dX11_behind_9 : decode cX11_behind 9 = .ok (.aload_n 0, 1) := by decide +kernel
theorem dX11_behind_10 : decode cX11_behind 10 = .ok (.aload_n 0, 1) := by decide +kernel
theorem dX11_behind_11 : decode cX11_behind 11 = .ok (.invokevirtual 180, 3) := by decide +kernel
theorem dX11_behind_14 : decode cX11_behind 14 = .ok (.invokevirtual 64, 3) := by decide +kernel
theorem dX11_behind_17 : decode cX11_behind 17 = .ok (.lreturn, 1) := by decide +kernel
theorem dX11_behind_18 : decode cX11_behind 18 = .ok (.iload_n 1, 1) := by decide +kernel
theorem dX11_behind_19 : decode cX11_behind 19 = .ok (.invokestatic 78, 3) := by decide +kernel
theorem dX11_behind_22 : decode cX11_behind 22 = .ok (.ifCond .eq 41, 3) := by decide +kernel
theorem dX11_behind_25 : decode cX11_behind 25 = .ok (.aload_n 0, 1) := by decide +kernel
theorem dX11_behind_26 : decode cX11_behind 26 = .ok (.iload_n 2, 1) := by decide +kernel
theorem dX11_behind_27 : decode cX11_behind 27 = .ok (.invokevirtual 200, 3) := by decide +kernel
theorem dX11_behind_30 : decode cX11_behind 30 = .ok (.ifCond .eq 33, 3) := by decide +kernel
theorem dX11_behind_33 : decode cX11_behind 33 = .ok (.aload_n 0, 1) := by decide +kernel
theorem dX11_behind_34 : decode cX11_behind 34 = .ok (.iload 4, 2) := by decide +kernel
theorem dX11_behind_36 : decode cX11_behind 36 = .ok (.invokevirtual 200, 3) := by decide +kernel
theorem dX11_behind_39 : decode cX11_behind 39 = .ok (.ifCond .eq 24, 3) := by decide +kernel
theorem dX11_behind_42 : decode cX11_behind 42 = .ok (.iload_n 3, 1) := by decide +kernel
theorem dX11_behind_43 : decode cX11_behind 43 = .ok (.bipush (-3), 2) := by decide +kernel
theorem dX11_behind_45 : decode cX11_behind 45 = .ok (.iconst 3, 1) := by decide +kernel
theorem dX11_behind_46 : decode cX11_behind 46 = .ok (.invokestatic 58, 3) := by decide +kernel
theorem dX11_behind_49 : decode cX11_behind 49 = .ok (.ifCond .eq 14, 3) := by decide +kernel
theorem dX11_behind_52 : decode cX11_behind 52 = .ok (.iload 5, 2) := by decide +kernel
theorem dX11_behind_54 : decode cX11_behind 54 = .ok (.bipush (-3), 2) := by decide +kernel
theorem dX11_behind_56 : decode cX11_behind 56 = .ok (.iconst 3, 1) := by decide +kernel
theorem dX11_behind_57 : decode cX11_behind 57 = .ok (.invokestatic 58, 3) := by decide +kernel
theorem dX11_behind_60 : decode cX11_behind 60 = .ok (.ifCond .ne 11, 3) := by decide +kernel
theorem dX11_behind_63 : decode cX11_behind 63 = .ok (.aload_n 0, 1) := by decide +kernel
theorem dX11_behind_64 : decode cX11_behind 64 = .ok (.ldc2_w 62, 3) := by decide +kernel
theorem dX11_behind_67 : decode cX11_behind 67 = .ok (.invokevirtual 64, 3) := by decide +kernel
theorem dX11_behind_70 : decode cX11_behind 70 = .ok (.lreturn, 1) := by decide +kernel
theorem dX11_behind_71 : decode cX11_behind 71 = .ok (.aload_n 0, 1) := by decide +kernel
theorem dX11_behind_72 : decode cX11_behind 72 = .ok (.iload_n 2, 1) := by decide +kernel
theorem dX11_behind_73 : decode cX11_behind 73 = .ok (.iload_n 3, 1) := by decide +kernel
theorem dX11_behind_74 : decode cX11_behind 74 = .ok (.iload_n 1, 1) := by decide +kernel
theorem dX11_behind_75 : decode cX11_behind 75 = .ok (.invokevirtual 203, 3) := by decide +kernel
theorem dX11_behind_78 : decode cX11_behind 78 = .ok (.aload_n 0, 1) := by decide +kernel
theorem dX11_behind_79 : decode cX11_behind 79 = .ok (.iload 4, 2) := by decide +kernel
theorem dX11_behind_81 : decode cX11_behind 81 = .ok (.iload 5, 2) := by decide +kernel
theorem dX11_behind_83 : decode cX11_behind 83 = .ok (.iload_n 1, 1) := by decide +kernel
theorem dX11_behind_84 : decode cX11_behind 84 = .ok (.invokevirtual 203, 3) := by decide +kernel
theorem dX11_behind_87 : decode cX11_behind 87 = .ok (.ladd, 1) := by decide +kernel
theorem dX11_behind_88 : decode cX11_behind 88 = .ok (.lstore 7, 2) := by decide +kernel
theorem dX11_behind_90 : decode cX11_behind 90 = .ok (.aload_n 0, 1) := by decide +kernel
theorem dX11_behind_91 : decode cX11_behind 91 = .ok (.iload_n 1, 1) := by decide +kernel
theorem dX11_behind_92 : decode cX11_behind 92 = .ok (.invokevirtual 190, 3) := by decide +kernel
theorem dX11_behind_95 : decode cX11_behind 95 = .ok (.lload 7, 2) := by decide +kernel
theorem dX11_behind_97 : decode cX11_behind 97 = .ok (.aload_n 0, 1) := by decide +kernel
theorem dX11_behind_98 : decode cX11_behind 98 = .ok (.getfield 146, 3) := by decide +kernel
theorem dX11_behind_101 : decode cX11_behind 101 = .ok (.lmul, 1) := by decide +kernel
theorem dX11_behind_102 : decode cX11_behind 102 = .ok (.ladd, 1) := by decide +kernel
theorem dX11_behind_103 : decode cX11_behind 103 = .ok (.aload_n 0, 1) := by decide +kernel
theorem dX11_behind_104 : decode cX11_behind 104 = .ok (.getfield 146, 3) := by decide +kernel
theorem dX11_behind_107 : decode cX11_behind 107 = .ok (.iload 6, 2) := by decide +kernel
theorem dX11_behind_109 : decode cX11_behind 109 = .ok (.invokestatic 186, 3) := by decide +kernel
theorem dX11_behind_112 : decode cX11_behind 112 = .ok (.lreturn, 1) := by decide +kernel
theorem dX11_worstWith_0 : decode cX11_worstWith 0 = .ok (.lconst 0, 1) := by decide +kernel
theorem dX11_worstWith_1 : decode cX11_worstWith 1 = .ok (.lstore 5, 2) := by decide +kernel
theorem dX11_worstWith_3 : decode cX11_worstWith 3 = .ok (.iconst 0, 1) := by decide +kernel
theorem dX11_worstWith_4 : decode cX11_worstWith 4 = .ok (.istore 7, 2) := by decide +kernel
theorem dX11_worstWith_6 : decode cX11_worstWith 6 = .ok (.iload 7, 2) := by decide +kernel
theorem dX11_worstWith_8 : decode cX11_worstWith 8 = .ok (.bipush 36, 2) := by decide +kernel
theorem dX11_worstWith_10 : decode cX11_worstWith 10 = .ok (.if_icmp .ge 87, 3) := by decide +kernel
theorem dX11_worstWith_13 : decode cX11_worstWith 13 = .ok (.aload_n 0, 1) := by decide +kernel
theorem dX11_worstWith_14 : decode cX11_worstWith 14 = .ok (.iload 7, 2) := by decide +kernel
theorem dX11_worstWith_16 : decode cX11_worstWith 16 = .ok (.invokevirtual 197, 3) := by decide +kernel
theorem dX11_worstWith_19 : decode cX11_worstWith 19 = .ok (.ifCond .ne 6, 3) := by decide +kernel
theorem dX11_worstWith_22 : decode cX11_worstWith 22 = .ok (.goto 69, 3) := by decide +kernel
theorem dX11_worstWith_25 : decode cX11_worstWith 25 = .ok (.aload_n 0, 1) := by decide +kernel
theorem dX11_worstWith_26 : decode cX11_worstWith 26 = .ok (.iload 7, 2) := by decide +kernel
theorem dX11_worstWith_28 : decode cX11_worstWith 28 = .ok (.invokevirtual 190, 3) := by decide +kernel
theorem dX11_worstWith_31 : decode cX11_worstWith 31 = .ok (.aload_n 0, 1) := by decide +kernel
theorem dX11_worstWith_32 : decode cX11_worstWith 32 = .ok (.iload_n 1, 1) := by decide +kernel
theorem dX11_worstWith_33 : decode cX11_worstWith 33 = .ok (.iload_n 2, 1) := by decide +kernel
theorem dX11_worstWith_34 : decode cX11_worstWith 34 = .ok (.iload 7, 2) := by decide +kernel
theorem dX11_worstWith_36 : decode cX11_worstWith 36 = .ok (.invokevirtual 203, 3) := by decide +kernel
theorem dX11_worstWith_39 : decode cX11_worstWith 39 = .ok (.aload_n 0, 1) := by decide +kernel
theorem dX11_worstWith_40 : decode cX11_worstWith 40 = .ok (.iload_n 3, 1) := by decide +kernel
theorem dX11_worstWith_41 : decode cX11_worstWith 41 = .ok (.iload 4, 2) := by decide +kernel
theorem dX11_worstWith_43 : decode cX11_worstWith 43 = .ok (.iload 7, 2) := by decide +kernel
theorem dX11_worstWith_45 : decode cX11_worstWith 45 = .ok (.invokevirtual 203, 3) := by decide +kernel
theorem dX11_worstWith_48 : decode cX11_worstWith 48 = .ok (.ladd, 1) := by decide +kernel
theorem dX11_worstWith_49 : decode cX11_worstWith 49 = .ok (.aload_n 0, 1) := by decide +kernel
theorem dX11_worstWith_50 : decode cX11_worstWith 50 = .ok (.getfield 146, 3) := by decide +kernel
theorem dX11_worstWith_53 : decode cX11_worstWith 53 = .ok (.lmul, 1) := by decide +kernel
theorem dX11_worstWith_54 : decode cX11_worstWith 54 = .ok (.ladd, 1) := by decide +kernel
theorem dX11_worstWith_55 : decode cX11_worstWith 55 = .ok (.lstore 8, 2) := by decide +kernel
theorem dX11_worstWith_57 : decode cX11_worstWith 57 = .ok (.lload 8, 2) := by decide +kernel
theorem dX11_worstWith_59 : decode cX11_worstWith 59 = .ok (.lconst 0, 1) := by decide +kernel
theorem dX11_worstWith_60 : decode cX11_worstWith 60 = .ok (.lcmp, 1) := by decide +kernel
theorem dX11_worstWith_61 : decode cX11_worstWith 61 = .ok (.ifCond .ge 9, 3) := by decide +kernel
theorem dX11_worstWith_64 : decode cX11_worstWith 64 = .ok (.lload 8, 2) := by decide +kernel
