theorem dX6_take_44 : decode cX6_take 44 = .ok (.aload_n 0, 1) := by decide +kernel
theorem dX6_take_45 : decode cX6_take 45 = .ok (.iload_n 3, 1) := by decide +kernel
theorem dX6_take_46 : decode cX6_take 46 = .ok (.invokevirtual 40, 3) := by decide +kernel
theorem dX6_take_49 : decode cX6_take 49 = .ok (.ifCond .eq 15, 3) := by decide +kernel
theorem dX6_take_52 : decode cX6_take 52 = .ok (.aload_n 2, 1) := by decide +kernel
theorem dX6_take_53 : decode cX6_take 53 = .ok (.aload_n 0, 1) := by decide +kernel
theorem dX6_take_54 : decode cX6_take 54 = .ok (.iload_n 3, 1) := by decide +kernel
theorem dX6_take_55 : decode cX6_take 55 = .ok (.invokevirtual 44, 3) := by decide +kernel
theorem dX6_take_58 : decode cX6_take 58 = .ok (.invokevirtual 48, 3) := by decide +kernel
theorem dX6_take_61 : decode cX6_take 61 = .ok (.goto 4, 3) := by decide +kernel
theorem dX6_take_64 : decode cX6_take 64 = .ok (.lconst 0, 1) := by decide +kernel
theorem dX6_take_65 : decode cX6_take 65 = .ok (.lastore, 1) := by decide +kernel
theorem dX6_take_66 : decode cX6_take 66 = .ok (.iinc 3 1, 3) := by decide +kernel
theorem dX6_take_69 : decode cX6_take 69 = .ok (.goto (-36), 3) := by decide +kernel
theorem dX6_take_72 : decode cX6_take 72 = .ok (.return_, 1) := by decide +kernel
theorem dX6_forget_0 : decode cX6_forget 0 = .ok (.aload_n 0, 1) := by decide +kernel
theorem dX6_forget_1 : decode cX6_forget 1 = .ok (.iconst 0, 1) := by decide +kernel
theorem dX6_forget_2 : decode cX6_forget 2 = .ok (.putfield 19, 3) := by decide +kernel
theorem dX6_forget_5 : decode cX6_forget 5 = .ok (.return_, 1) := by decide +kernel
theorem dX6_growStale_0 : decode cX6_growStale 0 = .ok (.aload_n 0, 1) := by decide +kernel
theorem dX6_growStale_1 : decode cX6_growStale 1 = .ok (.iconst 1, 1) := by decide +kernel
theorem dX6_growStale_2 : decode cX6_growStale 2 = .ok (.putfield 23, 3) := by decide +kernel
theorem dX6_growStale_5 : decode cX6_growStale 5 = .ok (.return_, 1) := by decide +kernel
theorem dX6_areFound_0 : decode cX6_areFound 0 = .ok (.aload_n 0, 1) := by decide +kernel
theorem dX6_areFound_1 : decode cX6_areFound 1 = .ok (.getfield 19, 3) := by decide +kernel
theorem dX6_areFound_4 : decode cX6_areFound 4 = .ok (.ireturn, 1) := by decide +kernel
theorem dX6_areStale_0 : decode cX6_areStale 0 = .ok (.aload_n 0, 1) := by decide +kernel
theorem dX6_areStale_1 : decode cX6_areStale 1 = .ok (.getfield 23, 3) := by decide +kernel
theorem dX6_areStale_4 : decode cX6_areStale 4 = .ok (.ireturn, 1) := by decide +kernel
theorem dX6_causeSet_0 : decode cX6_causeSet 0 = .ok (.aload_n 0, 1) := by decide +kernel
theorem dX6_causeSet_1 : decode cX6_causeSet 1 = .ok (.getfield 26, 3) := by decide +kernel
theorem dX6_causeSet_4 : decode cX6_causeSet 4 = .ok (.ireturn, 1) := by decide +kernel
theorem dX6_has_0 : decode cX6_has 0 = .ok (.iload_n 1, 1) := by decide +kernel
theorem dX6_has_1 : decode cX6_has 1 = .ok (.ifCond .lt 24, 3) := by decide +kernel
theorem dX6_has_4 : decode cX6_has 4 = .ok (.iload_n 1, 1) := by decide +kernel
theorem dX6_has_5 : decode cX6_has 5 = .ok (.bipush 8, 2) := by decide +kernel
theorem dX6_has_7 : decode cX6_has 7 = .ok (.if_icmp .ge 18, 3) := by decide +kernel
theorem dX6_has_10 : decode cX6_has 10 = .ok (.aload_n 0, 1) := by decide +kernel
theorem dX6_has_11 : decode cX6_has 11 = .ok (.getfield 26, 3) := by decide +kernel
theorem dX6_has_14 : decode cX6_has 14 = .ok (.iload_n 1, 1) := by decide +kernel
theorem dX6_has_15 : decode cX6_has 15 = .ok (.ishr, 1) := by decide +kernel
theorem dX6_has_16 : decode cX6_has 16 = .ok (.iconst 1, 1) := by decide +kernel
theorem dX6_has_17 : decode cX6_has 17 = .ok (.iand, 1) := by decide +kernel
theorem dX6_has_18 : decode cX6_has 18 = .ok (.ifCond .eq 7, 3) := by decide +kernel
theorem dX6_has_21 : decode cX6_has 21 = .ok (.iconst 1, 1) := by decide +kernel
theorem dX6_has_22 : decode cX6_has 22 = .ok (.goto 4, 3) := by decide +kernel
theorem dX6_has_25 : decode cX6_has 25 = .ok (.iconst 0, 1) := by decide +kernel
theorem dX6_has_26 : decode cX6_has 26 = .ok (.ireturn, 1) := by decide +kernel
theorem dX6_placeOf_0 : decode cX6_placeOf 0 = .ok (.aload_n 0, 1) := by decide +kernel
theorem dX6_placeOf_1 : decode cX6_placeOf 1 = .ok (.iload_n 1, 1) := by decide +kernel
theorem dX6_placeOf_2 : decode cX6_placeOf 2 = .ok (.invokevirtual 40, 3) := by decide +kernel
theorem dX6_placeOf_5 : decode cX6_placeOf 5 = .ok (.ifCond .eq 19, 3) := by decide +kernel
theorem dX6_placeOf_8 : decode cX6_placeOf 8 = .ok (.aload_n 0, 1) := by decide +kernel
theorem dX6_placeOf_9 : decode cX6_placeOf 9 = .ok (.getfield 26, 3) := by decide +kernel
theorem dX6_placeOf_12 : decode cX6_placeOf 12 = .ok (.iconst 1, 1) := by decide +kernel
theorem dX6_placeOf_13 : decode cX6_placeOf 13 = .ok (.iload_n 1, 1) := by decide +kernel
theorem dX6_placeOf_14 : decode cX6_placeOf 14 = .ok (.ishl, 1) := by decide +kernel
theorem dX6_placeOf_15 : decode cX6_placeOf 15 = .ok (.iconst 1, 1) := by decide +kernel
theorem dX6_placeOf_16 : decode cX6_placeOf 16 = .ok (.isub, 1) := by decide +kernel
theorem dX6_placeOf_17 : decode cX6_placeOf 17 = .ok (.iand, 1) := by decide +kernel
theorem dX6_placeOf_18 : decode cX6_placeOf 18 = .ok (.invokestatic 52, 3) := by decide +kernel
theorem dX6_placeOf_21 : decode cX6_placeOf 21 = .ok (.goto 4, 3) := by decide +kernel
theorem dX6_placeOf_24 : decode cX6_placeOf 24 = .ok (.iconst 0, 1) := by decide +kernel
theorem dX6_placeOf_25 : decode cX6_placeOf 25 = .ok (.ireturn, 1) := by decide +kernel
theorem dX6_above_0 : decode cX6_above 0 = .ok (.aload_n 0, 1) := by decide +kernel
theorem dX6_above_1 : decode cX6_above 1 = .ok (.iload_n 1, 1) := by decide +kernel
theorem dX6_above_2 : decode cX6_above 2 = .ok (.invokevirtual 40, 3) := by decide +kernel
theorem dX6_above_5 : decode cX6_above 5 = .ok (.ifCond .eq 12, 3) := by decide +kernel
theorem dX6_above_8 : decode cX6_above 8 = .ok (.aload_n 0, 1) := by decide +kernel
theorem dX6_above_9 : decode cX6_above 9 = .ok (.getfield 9, 3) := by decide +kernel
theorem dX6_above_12 : decode cX6_above 12 = .ok (.iload_n 1, 1) := by decide +kernel
theorem dX6_above_13 : decode cX6_above 13 = .ok (.laload, 1) := by decide +kernel
theorem dX6_above_14 : decode cX6_above 14 = .ok (.goto 4, 3) := by decide +kernel
theorem dX6_above_17 : decode cX6_above 17 = .ok (.lconst 0, 1) := by decide +kernel
theorem dX6_above_18 : decode cX6_above 18 = .ok (.lreturn, 1) := by decide +kernel
theorem dX6_below_0 : decode cX6_below 0 = .ok (.aload_n 0, 1) := by decide +kernel
theorem dX6_below_1 : decode cX6_below 1 = .ok (.getfield 15, 3) := by decide +kernel
theorem dX6_below_4 : decode cX6_below 4 = .ok (.lreturn, 1) := by decide +kernel
theorem dX6_squares_0 : decode cX6_squares 0 = .ok (.aload_n 0, 1) := by decide +kernel
theorem dX6_squares_1 : decode cX6_squares 1 = .ok (.getfield 38, 3) := by decide +kernel
theorem dX6_squares_4 : decode cX6_squares 4 = .ok (.lreturn, 1) := by decide +kernel
theorem dX6_aboveIn_0 : decode cX6_aboveIn 0 = .ok (.lconst 0, 1) := by decide +kernel
theorem dX6_aboveIn_1 : decode cX6_aboveIn 1 = .ok (.lstore_n 3, 1) := by decide +kernel
theorem dX6_aboveIn_2 : decode cX6_aboveIn 2 = .ok (.iconst 0, 1) := by decide +kernel
theorem dX6_aboveIn_3 : decode cX6_aboveIn 3 = .ok (.istore 5, 2) := by decide +kernel
theorem dX6_aboveIn_5 : decode cX6_aboveIn 5 = .ok (.iload 5, 2) := by decide +kernel
theorem dX6_aboveIn_7 : decode cX6_aboveIn 7 = .ok (.bipush 8, 2) := by decide +kernel
theorem dX6_aboveIn_9 : decode cX6_aboveIn 9 = .ok (.if_icmp .ge 37, 3) := by decide +kernel
theorem dX6_aboveIn_12 : decode cX6_aboveIn 12 = .ok (.aload_n 0, 1) := by decide +kernel
theorem dX6_aboveIn_13 : decode cX6_aboveIn 13 = .ok (.iload 5, 2) := by decide +kernel
theorem dX6_aboveIn_15 : decode cX6_aboveIn 15 = .ok (.invokevirtual 40, 3) := by decide +kernel
theorem dX6_aboveIn_18 : decode cX6_aboveIn 18 = .ok (.ifCond .eq 22, 3) := by decide +kernel
theorem dX6_aboveIn_21 : decode cX6_aboveIn 21 = .ok (.lload_n 3, 1) := by decide +kernel
theorem dX6_aboveIn_22 : decode cX6_aboveIn 22 = .ok (.aload_n 0, 1) := by decide +kernel
theorem dX6_aboveIn_23 : decode cX6_aboveIn 23 = .ok (.getfield 9, 3) := by decide +kernel
theorem dX6_aboveIn_26 : decode cX6_aboveIn 26 = .ok (.iload 5, 2) := by decide +kernel
theorem dX6_aboveIn_28 : decode cX6_aboveIn 28 = .ok (.laload, 1) := by decide +kernel
theorem dX6_aboveIn_29 : decode cX6_aboveIn 29 = .ok (.aload_n 2, 1) := by decide +kernel
theorem dX6_aboveIn_30 : decode cX6_aboveIn 30 = .ok (.iload 5, 2) := by decide +kernel
theorem dX6_aboveIn_32 : decode cX6_aboveIn 32 = .ok (.iload_n 1, 1) := by decide +kernel
theorem dX6_aboveIn_33 : decode cX6_aboveIn 33 = .ok (.invokevirtual 57, 3) := by decide +kernel
theorem dX6_aboveIn_36 : decode cX6_aboveIn 36 = .ok (.i2l, 1) := by decide +kernel
theorem dX6_aboveIn_37 : decode cX6_aboveIn 37 = .ok (.lmul, 1) := by decide +kernel
theorem dX6_aboveIn_38 : decode cX6_aboveIn 38 = .ok (.ladd, 1) := by decide +kernel
theorem dX6_aboveIn_39 : decode cX6_aboveIn 39 = .ok (.lstore_n 3, 1) := by decide +kernel
theorem dX6_aboveIn_40 : decode cX6_aboveIn 40 = .ok (.iinc 5 1, 3) := by decide +kernel
theorem dX6_aboveIn_43 : decode cX6_aboveIn 43 = .ok (.goto (-38), 3) := by decide +kernel
theorem dX6_aboveIn_46 : decode cX6_aboveIn 46 = .ok (.lload_n 3, 1) := by decide +kernel
theorem dX6_aboveIn_47 : decode cX6_aboveIn 47 = .ok (.lreturn, 1) := by decide +kernel
theorem dX6_stepIn_0 : decode cX6_stepIn 0 = .ok (.aload_n 3, 1) := by decide +kernel
theorem dX6_stepIn_1 : decode cX6_stepIn 1 = .ok (.getfield 63, 3) := by decide +kernel
theorem dX6_stepIn_4 : decode cX6_stepIn 4 = .ok (.iload_n 2, 1) := by decide +kernel
theorem dX6_stepIn_5 : decode cX6_stepIn 5 = .ok (.invokevirtual 69, 3) := by decide +kernel
theorem dX6_stepIn_8 : decode cX6_stepIn 8 = .ok (.istore 4, 2) := by decide +kernel
theorem dX6_stepIn_10 : decode cX6_stepIn 10 = .ok (.aload_n 0, 1) := by decide +kernel
theorem dX6_stepIn_11 : decode cX6_stepIn 11 = .ok (.iload 4, 2) := by decide +kernel
theorem dX6_stepIn_13 : decode cX6_stepIn 13 = .ok (.invokevirtual 40, 3) := by decide +kernel
theorem dX6_stepIn_16 : decode cX6_stepIn 16 = .ok (.ifCond .eq 32, 3) := by decide +kernel
theorem dX6_stepIn_19 : decode cX6_stepIn 19 = .ok (.aload_n 0, 1) := by decide +kernel
theorem dX6_stepIn_20 : decode cX6_stepIn 20 = .ok (.getfield 15, 3) := by decide +kernel
theorem dX6_stepIn_23 : decode cX6_stepIn 23 = .ok (.aload_n 3, 1) := by decide +kernel
theorem dX6_stepIn_24 : decode cX6_stepIn 24 = .ok (.getfield 63, 3) := by decide +kernel
theorem dX6_stepIn_27 : decode cX6_stepIn 27 = .ok (.iload_n 2, 1) := by decide +kernel
theorem dX6_stepIn_28 : decode cX6_stepIn 28 = .ok (.invokevirtual 74, 3) := by decide +kernel
theorem dX6_stepIn_31 : decode cX6_stepIn 31 = .ok (.i2l, 1) := by decide +kernel
theorem dX6_stepIn_32 : decode cX6_stepIn 32 = .ok (.lmul, 1) := by decide +kernel
theorem dX6_stepIn_33 : decode cX6_stepIn 33 = .ok (.aload_n 3, 1) := by decide +kernel
theorem dX6_stepIn_34 : decode cX6_stepIn 34 = .ok (.getfield 77, 3) := by decide +kernel
theorem dX6_stepIn_37 : decode cX6_stepIn 37 = .ok (.iload 4, 2) := by decide +kernel
theorem dX6_stepIn_39 : decode cX6_stepIn 39 = .ok (.iload_n 1, 1) := by decide +kernel
theorem dX6_stepIn_40 : decode cX6_stepIn 40 = .ok (.invokevirtual 57, 3) := by decide +kernel
theorem dX6_stepIn_43 : decode cX6_stepIn 43 = .ok (.i2l, 1) := by decide +kernel
theorem dX6_stepIn_44 : decode cX6_stepIn 44 = .ok (.lmul, 1) := by decide +kernel
theorem dX6_stepIn_45 : decode cX6_stepIn 45 = .ok (.goto 4, 3) := by decide +kernel
theorem dX6_stepIn_48 : decode cX6_stepIn 48 = .ok (.lconst 0, 1) := by decide +kernel
theorem dX6_stepIn_49 : decode cX6_stepIn 49 = .ok (.lreturn, 1) := by decide +kernel
theorem dX6_isSize_0 : decode cX6_isSize 0 = .ok (.iload_n 2, 1) := by decide +kernel
theorem dX6_isSize_1 : decode cX6_isSize 1 = .ok (.i2l, 1) := by decide +kernel
theorem dX6_isSize_2 : decode cX6_isSize 2 = .ok (.lstore 4, 2) := by decide +kernel
theorem dX6_isSize_4 : decode cX6_isSize 4 = .ok (.iload_n 3, 1) := by decide +kernel
theorem dX6_isSize_5 : decode cX6_isSize 5 = .ok (.i2l, 1) := by decide +kernel
theorem dX6_isSize_6 : decode cX6_isSize 6 = .ok (.lstore 6, 2) := by decide +kernel
theorem dX6_isSize_8 : decode cX6_isSize 8 = .ok (.lload 6, 2) := by decide +kernel
theorem dX6_isSize_10 : decode cX6_isSize 10 = .ok (.lconst 0, 1) := by decide +kernel
theorem dX6_isSize_11 : decode cX6_isSize 11 = .ok (.lcmp, 1) := by decide +kernel
theorem dX6_isSize_12 : decode cX6_isSize 12 = .ok (.ifCond .ge 13, 3) := by decide +kernel
theorem dX6_isSize_15 : decode cX6_isSize 15 = .ok (.lload 4, 2) := by decide +kernel
theorem dX6_isSize_17 : decode cX6_isSize 17 = .ok (.lneg, 1) := by decide +kernel
theorem dX6_isSize_18 : decode cX6_isSize 18 = .ok (.lstore 4, 2) := by decide +kernel
theorem dX6_isSize_20 : decode cX6_isSize 20 = .ok (.lload 6, 2) := by decide +kernel
theorem dX6_isSize_22 : decode cX6_isSize 22 = .ok (.lneg, 1) := by decide +kernel
theorem dX6_isSize_23 : decode cX6_isSize 23 = .ok (.lstore 6, 2) := by decide +kernel
theorem dX6_isSize_25 : decode cX6_isSize 25 = .ok (.lload 6, 2) := by decide +kernel
theorem dX6_isSize_27 : decode cX6_isSize 27 = .ok (.lconst 0, 1) := by decide +kernel
theorem dX6_isSize_28 : decode cX6_isSize 28 = .ok (.lcmp, 1) := by decide +kernel
theorem dX6_isSize_29 : decode cX6_isSize 29 = .ok (.ifCond .eq 35, 3) := by decide +kernel
theorem dX6_isSize_32 : decode cX6_isSize 32 = .ok (.aload_n 0, 1) := by decide +kernel
theorem dX6_isSize_33 : decode cX6_isSize 33 = .ok (.iload_n 1, 1) := by decide +kernel
theorem dX6_isSize_34 : decode cX6_isSize 34 = .ok (.invokevirtual 40, 3) := by decide +kernel
theorem dX6_isSize_37 : decode cX6_isSize 37 = .ok (.ifCond .eq 27, 3) := by decide +kernel
theorem dX6_isSize_40 : decode cX6_isSize 40 = .ok (.lload 4, 2) := by decide +kernel
theorem dX6_isSize_42 : decode cX6_isSize 42 = .ok (.lload 6, 2) := by decide +kernel
theorem dX6_isSize_44 : decode cX6_isSize 44 = .ok (.aload_n 0, 1) := by decide +kernel
theorem dX6_isSize_45 : decode cX6_isSize 45 = .ok (.getfield 9, 3) := by decide +kernel
theorem dX6_isSize_48 : decode cX6_isSize 48 = .ok (.iload_n 1, 1) := by decide +kernel
theorem dX6_isSize_49 : decode cX6_isSize 49 = .ok (.laload, 1) := by decide +kernel
theorem dX6_isSize_50 : decode cX6_isSize 50 = .ok (.aload_n 0, 1) := by decide +kernel
theorem dX6_isSize_51 : decode cX6_isSize 51 = .ok (.getfield 15, 3) := by decide +kernel
theorem dX6_isSize_54 : decode cX6_isSize 54 = .ok (.invokestatic 81, 3) := by decide +kernel
theorem dX6_isSize_57 : decode cX6_isSize 57 = .ok (.ifCond .ne 7, 3) := by decide +kernel
theorem dX6_isSize_60 : decode cX6_isSize 60 = .ok (.iconst 1, 1) := by decide +kernel
theorem dX6_isSize_61 : decode cX6_isSize 61 = .ok (.goto 4, 3) := by decide +kernel
theorem dX6_isSize_64 : decode cX6_isSize 64 = .ok (.iconst 0, 1) := by decide +kernel
theorem dX6_isSize_65 : decode cX6_isSize 65 = .ok (.ireturn, 1) := by decide +kernel
theorem dX7_init_0 : decode cX7_init 0 = .ok (.aload_n 0, 1) := by decide +kernel
theorem dX7_init_1 : decode cX7_init 1 = .ok (.invokespecial 3, 3) := by decide +kernel
theorem dX7_init_4 : decode cX7_init 4 = .ok (.aload_n 0, 1) := by decide +kernel
theorem dX7_init_5 : decode cX7_init 5 = .ok (.bipush 36, 2) := by decide +kernel
theorem dX7_init_7 : decode cX7_init 7 = .ok (.newarray .boolean, 2) := by decide +kernel
theorem dX7_init_9 : decode cX7_init 9 = .ok (.putfield 9, 3) := by decide +kernel
theorem dX7_init_12 : decode cX7_init 12 = .ok (.aload_n 0, 1) := by decide +kernel
theorem dX7_init_13 : decode cX7_init 13 = .ok (.bipush 36, 2) := by decide +kernel
theorem dX7_init_15 : decode cX7_init 15 = .ok (.newarray .int, 2) := by decide +kernel
theorem dX7_init_17 : decode cX7_init 17 = .ok (.putfield 15, 3) := by decide +kernel
theorem dX7_init_20 : decode cX7_init 20 = .ok (.aload_n 0, 1) := by decide +kernel
theorem dX7_init_21 : decode cX7_init 21 = .ok (.bipush 36, 2) := by decide +kernel
theorem dX7_init_23 : decode cX7_init 23 = .ok (.newarray .int, 2) := by decide +kernel
theorem dX7_init_25 : decode cX7_init 25 = .ok (.putfield 19, 3) := by decide +kernel
theorem dX7_init_28 : decode cX7_init 28 = .ok (.return_, 1) := by decide +kernel
theorem dX7_has_0 : decode cX7_has 0 = .ok (.iload_n 1, 1) := by decide +kernel
theorem dX7_has_1 : decode cX7_has 1 = .ok (.invokestatic 22, 3) := by decide +kernel
theorem dX7_has_4 : decode cX7_has 4 = .ok (.ifCond .eq 16, 3) := by decide +kernel
theorem dX7_has_7 : decode cX7_has 7 = .ok (.aload_n 0, 1) := by decide +kernel
theorem dX7_has_8 : decode cX7_has 8 = .ok (.getfield 9, 3) := by decide +kernel
theorem dX7_has_11 : decode cX7_has 11 = .ok (.iload_n 1, 1) := by decide +kernel
theorem dX7_has_12 : decode cX7_has 12 = .ok (.baload, 1) := by decide +kernel
theorem dX7_has_13 : decode cX7_has 13 = .ok (.ifCond .eq 7, 3) := by decide +kernel
theorem dX7_has_16 : decode cX7_has 16 = .ok (.iconst 1, 1) := by decide +kernel
theorem dX7_has_17 : decode cX7_has 17 = .ok (.goto 4, 3) := by decide +kernel
theorem dX7_has_20 : decode cX7_has 20 = .ok (.iconst 0, 1) := by decide +kernel
theorem dX7_has_21 : decode cX7_has 21 = .ok (.ireturn, 1) := by decide +kernel
theorem dX7_write_0 : decode cX7_write 0 = .ok (.iload_n 1, 1) := by decide +kernel
theorem dX7_write_1 : decode cX7_write 1 = .ok (.invokestatic 22, 3) := by decide +kernel
theorem dX7_write_4 : decode cX7_write 4 = .ok (.ifCond .eq 33, 3) := by decide +kernel
theorem dX7_write_7 : decode cX7_write 7 = .ok (.aload_n 0, 1) := by decide +kernel
theorem dX7_write_8 : decode cX7_write 8 = .ok (.getfield 9, 3) := by decide +kernel
theorem dX7_write_11 : decode cX7_write 11 = .ok (.iload_n 1, 1) := by decide +kernel
theorem dX7_write_12 : decode cX7_write 12 = .ok (.iload_n 2, 1) := by decide +kernel
theorem dX7_write_13 : decode cX7_write 13 = .ok (.iload_n 3, 1) := by decide +kernel
theorem dX7_write_14 : decode cX7_write 14 = .ok (.if_icmp .gt 7, 3) := by decide +kernel
theorem dX7_write_17 : decode cX7_write 17 = .ok (.iconst 1, 1) := by decide +kernel
theorem dX7_write_18 : decode cX7_write 18 = .ok (.goto 4, 3) := by decide +kernel
theorem dX7_write_21 : decode cX7_write 21 = .ok (.iconst 0, 1) := by decide +kernel
theorem dX7_write_22 : decode cX7_write 22 = .ok (.bastore, 1) := by decide +kernel
theorem dX7_write_23 : decode cX7_write 23 = .ok (.aload_n 0, 1) := by decide +kernel
theorem dX7_write_24 : decode cX7_write 24 = .ok (.getfield 15, 3) := by decide +kernel
theorem dX7_write_27 : decode cX7_write 27 = .ok (.iload_n 1, 1) := by decide +kernel
theorem dX7_write_28 : decode cX7_write 28 = .ok (.iload_n 2, 1) := by decide +kernel
theorem dX7_write_29 : decode cX7_write 29 = .ok (.iastore, 1) := by decide +kernel
theorem dX7_write_30 : decode cX7_write 30 = .ok (.aload_n 0, 1) := by decide +kernel
theorem dX7_write_31 : decode cX7_write 31 = .ok (.getfield 19, 3) := by decide +kernel
theorem dX7_write_34 : decode cX7_write 34 = .ok (.iload_n 1, 1) := by decide +kernel
theorem dX7_write_35 : decode cX7_write 35 = .ok (.iload_n 3, 1) := by decide +kernel
theorem dX7_write_36 : decode cX7_write 36 = .ok (.iastore, 1) := by decide +kernel
theorem dX7_write_37 : decode cX7_write 37 = .ok (.return_, 1) := by decide +kernel
theorem dX7_howMany_0 : decode cX7_howMany 0 = .ok (.iconst 0, 1) := by decide +kernel
theorem dX7_howMany_1 : decode cX7_howMany 1 = .ok (.istore_n 1, 1) := by decide +kernel
theorem dX7_howMany_2 : decode cX7_howMany 2 = .ok (.aload_n 0, 1) := by decide +kernel
theorem dX7_howMany_3 : decode cX7_howMany 3 = .ok (.getfield 9, 3) := by decide +kernel
theorem dX7_howMany_6 : decode cX7_howMany 6 = .ok (.astore_n 2, 1) := by decide +kernel
theorem dX7_howMany_7 : decode cX7_howMany 7 = .ok (.aload_n 2, 1) := by decide +kernel
theorem dX7_howMany_8 : decode cX7_howMany 8 = .ok (.arraylength, 1) := by decide +kernel
theorem dX7_howMany_9 : decode cX7_howMany 9 = .ok (.istore_n 3, 1) := by decide +kernel
theorem dX7_howMany_10 : decode cX7_howMany 10 = .ok (.iconst 0, 1) := by decide +kernel
theorem dX7_howMany_11 : decode cX7_howMany 11 = .ok (.istore 4, 2) := by decide +kernel
theorem dX7_howMany_13 : decode cX7_howMany 13 = .ok (.iload 4, 2) := by decide +kernel
theorem dX7_howMany_15 : decode cX7_howMany 15 = .ok (.iload_n 3, 1) := by decide +kernel
theorem dX7_howMany_16 : decode cX7_howMany 16 = .ok (.if_icmp .ge 23, 3) := by decide +kernel
theorem dX7_howMany_19 : decode cX7_howMany 19 = .ok (.aload_n 2, 1) := by decide +kernel
theorem dX7_howMany_20 : decode cX7_howMany 20 = .ok (.iload 4, 2) := by decide +kernel
theorem dX7_howMany_22 : decode cX7_howMany 22 = .ok (.baload, 1) := by decide +kernel
theorem dX7_howMany_23 : decode cX7_howMany 23 = .ok (.istore 5, 2) := by decide +kernel
theorem dX7_howMany_25 : decode cX7_howMany 25 = .ok (.iload 5, 2) := by decide +kernel
theorem dX7_howMany_27 : decode cX7_howMany 27 = .ok (.ifCond .eq 6, 3) := by decide +kernel
theorem dX7_howMany_30 : decode cX7_howMany 30 = .ok (.iinc 1 1, 3) := by decide +kernel
theorem dX7_howMany_33 : decode cX7_howMany 33 = .ok (.iinc 4 1, 3) := by decide +kernel
theorem dX7_howMany_36 : decode cX7_howMany 36 = .ok (.goto (-23), 3) := by decide +kernel
theorem dX7_howMany_39 : decode cX7_howMany 39 = .ok (.iload_n 1, 1) := by decide +kernel
theorem dX7_howMany_40 : decode cX7_howMany 40 = .ok (.ireturn, 1) := by decide +kernel
theorem dX7_holds_0 : decode cX7_holds 0 = .ok (.aload_n 0, 1) := by decide +kernel
theorem dX7_holds_1 : decode cX7_holds 1 = .ok (.iload_n 1, 1) := by decide +kernel
theorem dX7_holds_2 : decode cX7_holds 2 = .ok (.invokevirtual 26, 3) := by decide +kernel
theorem dX7_holds_5 : decode cX7_holds 5 = .ok (.ifCond .eq 37, 3) := by decide +kernel
theorem dX7_holds_8 : decode cX7_holds 8 = .ok (.aload_n 0, 1) := by decide +kernel
theorem dX7_holds_9 : decode cX7_holds 9 = .ok (.getfield 15, 3) := by decide +kernel
theorem dX7_holds_12 : decode cX7_holds 12 = .ok (.iload_n 1, 1) := by decide +kernel
theorem dX7_holds_13 : decode cX7_holds 13 = .ok (.iaload, 1) := by decide +kernel
theorem dX7_holds_14 : decode cX7_holds 14 = .ok (.i2l, 1) := by decide +kernel
theorem dX7_holds_15 : decode cX7_holds 15 = .ok (.lload 4, 2) := by decide +kernel
theorem dX7_holds_17 : decode cX7_holds 17 = .ok (.lmul, 1) := by decide +kernel
theorem dX7_holds_18 : decode cX7_holds 18 = .ok (.lload_n 2, 1) := by decide +kernel
theorem dX7_holds_19 : decode cX7_holds 19 = .ok (.lcmp, 1) := by decide +kernel
theorem dX7_holds_20 : decode cX7_holds 20 = .ok (.ifCond .gt 22, 3) := by decide +kernel
theorem dX7_holds_23 : decode cX7_holds 23 = .ok (.lload_n 2, 1) := by decide +kernel
theorem dX7_holds_24 : decode cX7_holds 24 = .ok (.aload_n 0, 1) := by decide +kernel
theorem dX7_holds_25 : decode cX7_holds 25 = .ok (.getfield 19, 3) := by decide +kernel
theorem dX7_holds_28 : decode cX7_holds 28 = .ok (.iload_n 1, 1) := by decide +kernel
theorem dX7_holds_29 : decode cX7_holds 29 = .ok (.iaload, 1) := by decide +kernel
theorem dX7_holds_30 : decode cX7_holds 30 = .ok (.i2l, 1) := by decide +kernel
theorem dX7_holds_31 : decode cX7_holds 31 = .ok (.lload 4, 2) := by decide +kernel
theorem dX7_holds_33 : decode cX7_holds 33 = .ok (.lmul, 1) := by decide +kernel
theorem dX7_holds_34 : decode cX7_holds 34 = .ok (.lcmp, 1) := by decide +kernel
theorem dX7_holds_35 : decode cX7_holds 35 = .ok (.ifCond .gt 7, 3) := by decide +kernel
theorem dX7_holds_38 : decode cX7_holds 38 = .ok (.iconst 1, 1) := by decide +kernel
theorem dX7_holds_39 : decode cX7_holds 39 = .ok (.goto 4, 3) := by decide +kernel
theorem dX7_holds_42 : decode cX7_holds 42 = .ok (.iconst 0, 1) := by decide +kernel
theorem dX7_holds_43 : decode cX7_holds 43 = .ok (.ireturn, 1) := by decide +kernel
theorem dX7_copyFrom_0 : decode cX7_copyFrom 0 = .ok (.iconst 0, 1) := by decide +kernel
theorem dX7_copyFrom_1 : decode cX7_copyFrom 1 = .ok (.istore_n 2, 1) := by decide +kernel
theorem dX7_copyFrom_2 : decode cX7_copyFrom 2 = .ok (.iload_n 2, 1) := by decide +kernel
theorem dX7_copyFrom_3 : decode cX7_copyFrom 3 = .ok (.bipush 36, 2) := by decide +kernel
theorem dX7_copyFrom_5 : decode cX7_copyFrom 5 = .ok (.if_icmp .ge 45, 3) := by decide +kernel
theorem dX7_copyFrom_8 : decode cX7_copyFrom 8 = .ok (.aload_n 0, 1) := by decide +kernel
theorem dX7_copyFrom_9 : decode cX7_copyFrom 9 = .ok (.getfield 9, 3) := by decide +kernel
theorem dX7_copyFrom_12 : decode cX7_copyFrom 12 = .ok (.iload_n 2, 1) := by decide +kernel
theorem dX7_copyFrom_13 : decode cX7_copyFrom 13 = .ok (.aload_n 1, 1) := by decide +kernel
theorem dX7_copyFrom_14 : decode cX7_copyFrom 14 = .ok (.getfield 9, 3) := by decide +kernel
theorem dX7_copyFrom_17 : decode cX7_copyFrom 17 = .ok (.iload_n 2, 1) := by decide +kernel
theorem dX7_copyFrom_18 : decode cX7_copyFrom 18 = .ok (.baload, 1) := by decide +kernel
theorem dX7_copyFrom_19 : decode cX7_copyFrom 19 = .ok (.bastore, 1) := by decide +kernel
theorem dX7_copyFrom_20 : decode cX7_copyFrom 20 = .ok (.aload_n 0, 1) := by decide +kernel
theorem dX7_copyFrom_21 : decode cX7_copyFrom 21 = .ok (.getfield 15, 3) := by decide +kernel
theorem dX7_copyFrom_24 : decode cX7_copyFrom 24 = .ok (.iload_n 2, 1) := by decide +kernel
theorem dX7_copyFrom_25 : decode cX7_copyFrom 25 = .ok (.aload_n 1, 1) := by decide +kernel
theorem dX7_copyFrom_26 : decode cX7_copyFrom 26 = .ok (.getfield 15, 3) := by decide +kernel
theorem dX7_copyFrom_29 : decode cX7_copyFrom 29 = .ok (.iload_n 2, 1) := by decide +kernel
theorem dX7_copyFrom_30 : decode cX7_copyFrom 30 = .ok (.iaload, 1) := by decide +kernel
theorem dX7_copyFrom_31 : decode cX7_copyFrom 31 = .ok (.iastore, 1) := by decide +kernel
theorem dX7_copyFrom_32 : decode cX7_copyFrom 32 = .ok (.aload_n 0, 1) := by decide +kernel
theorem dX7_copyFrom_33 : decode cX7_copyFrom 33 = .ok (.getfield 19, 3) := by decide +kernel
theorem dX7_copyFrom_36 : decode cX7_copyFrom 36 = .ok (.iload_n 2, 1) := by decide +kernel
theorem dX7_copyFrom_37 : decode cX7_copyFrom 37 = .ok (.aload_n 1, 1) := by decide +kernel
theorem dX7_copyFrom_38 : decode cX7_copyFrom 38 = .ok (.getfield 19, 3) := by decide +kernel
theorem dX7_copyFrom_41 : decode cX7_copyFrom 41 = .ok (.iload_n 2, 1) := by decide +kernel
theorem dX7_copyFrom_42 : decode cX7_copyFrom 42 = .ok (.iaload, 1) := by decide +kernel
theorem dX7_copyFrom_43 : decode cX7_copyFrom 43 = .ok (.iastore, 1) := by decide +kernel
theorem dX7_copyFrom_44 : decode cX7_copyFrom 44 = .ok (.iinc 2 1, 3) := by decide +kernel
theorem dX7_copyFrom_47 : decode cX7_copyFrom 47 = .ok (.goto (-45), 3) := by decide +kernel
theorem dX7_copyFrom_50 : decode cX7_copyFrom 50 = .ok (.return_, 1) := by decide +kernel
theorem dX8_init_0 : decode cX8_init 0 = .ok (.aload_n 0, 1) := by decide +kernel
theorem dX8_init_1 : decode cX8_init 1 = .ok (.invokespecial 3, 3) := by decide +kernel
theorem dX8_init_4 : decode cX8_init 4 = .ok (.aload_n 0, 1) := by decide +kernel
theorem dX8_init_5 : decode cX8_init 5 = .ok (.new 9, 3) := by decide +kernel
theorem dX8_init_8 : decode cX8_init 8 = .ok (.dup, 1) := by decide +kernel
theorem dX8_init_9 : decode cX8_init 9 = .ok (.invokespecial 11, 3) := by decide +kernel
theorem dX8_init_12 : decode cX8_init 12 = .ok (.putfield 12, 3) := by decide +kernel
theorem dX8_init_15 : decode cX8_init 15 = .ok (.aload_n 0, 1) := by decide +kernel
theorem dX8_init_16 : decode cX8_init 16 = .ok (.new 18, 3) := by decide +kernel
theorem dX8_init_19 : decode cX8_init 19 = .ok (.dup, 1) := by decide +kernel
theorem dX8_init_20 : decode cX8_init 20 = .ok (.bipush 20, 2) := by decide +kernel
theorem dX8_init_22 : decode cX8_init 22 = .ok (.invokespecial 20, 3) := by decide +kernel
theorem dX8_init_25 : decode cX8_init 25 = .ok (.putfield 23, 3) := by decide +kernel
theorem dX8_init_28 : decode cX8_init 28 = .ok (.aload_n 0, 1) := by decide +kernel
theorem dX8_init_29 : decode cX8_init 29 = .ok (.new 18, 3) := by decide +kernel
theorem dX8_init_32 : decode cX8_init 32 = .ok (.dup, 1) := by decide +kernel
theorem dX8_init_33 : decode cX8_init 33 = .ok (.bipush 8, 2) := by decide +kernel
theorem dX8_init_35 : decode cX8_init 35 = .ok (.invokespecial 20, 3) := by decide +kernel
theorem dX8_init_38 : decode cX8_init 38 = .ok (.putfield 27, 3) := by decide +kernel
theorem dX8_init_41 : decode cX8_init 41 = .ok (.aload_n 0, 1) := by decide +kernel
theorem dX8_init_42 : decode cX8_init 42 = .ok (.new 30, 3) := by decide +kernel
theorem dX8_init_45 : decode cX8_init 45 = .ok (.dup, 1) := by decide +kernel
theorem dX8_init_46 : decode cX8_init 46 = .ok (.invokespecial 32, 3) := by decide +kernel
theorem dX8_init_49 : decode cX8_init 49 = .ok (.putfield 33, 3) := by decide +kernel
theorem dX8_init_52 : decode cX8_init 52 = .ok (.return_, 1) := by decide +kernel
theorem dX8_copyFrom_0 : decode cX8_copyFrom 0 = .ok (.aload_n 0, 1) := by decide +kernel
theorem dX8_copyFrom_1 : decode cX8_copyFrom 1 = .ok (.getfield 12, 3) := by decide +kernel
theorem dX8_copyFrom_4 : decode cX8_copyFrom 4 = .ok (.aload_n 1, 1) := by decide +kernel
theorem dX8_copyFrom_5 : decode cX8_copyFrom 5 = .ok (.getfield 12, 3) := by decide +kernel
theorem dX8_copyFrom_8 : decode cX8_copyFrom 8 = .ok (.invokevirtual 37, 3) := by decide +kernel
theorem dX8_copyFrom_11 : decode cX8_copyFrom 11 = .ok (.aload_n 0, 1) := by decide +kernel
theorem dX8_copyFrom_12 : decode cX8_copyFrom 12 = .ok (.getfield 23, 3) := by decide +kernel
theorem dX8_copyFrom_15 : decode cX8_copyFrom 15 = .ok (.aload_n 1, 1) := by decide +kernel
theorem dX8_copyFrom_16 : decode cX8_copyFrom 16 = .ok (.getfield 23, 3) := by decide +kernel
theorem dX8_copyFrom_19 : decode cX8_copyFrom 19 = .ok (.invokevirtual 41, 3) := by decide +kernel
theorem dX8_copyFrom_22 : decode cX8_copyFrom 22 = .ok (.aload_n 0, 1) := by decide +kernel
theorem dX8_copyFrom_23 : decode cX8_copyFrom 23 = .ok (.getfield 27, 3) := by decide +kernel
theorem dX8_copyFrom_26 : decode cX8_copyFrom 26 = .ok (.aload_n 1, 1) := by decide +kernel
theorem dX8_copyFrom_27 : decode cX8_copyFrom 27 = .ok (.getfield 27, 3) := by decide +kernel
theorem dX8_copyFrom_30 : decode cX8_copyFrom 30 = .ok (.invokevirtual 41, 3) := by decide +kernel
theorem dX8_copyFrom_33 : decode cX8_copyFrom 33 = .ok (.aload_n 0, 1) := by decide +kernel
theorem dX8_copyFrom_34 : decode cX8_copyFrom 34 = .ok (.getfield 33, 3) := by decide +kernel
theorem dX8_copyFrom_37 : decode cX8_copyFrom 37 = .ok (.aload_n 1, 1) := by decide +kernel
theorem dX8_copyFrom_38 : decode cX8_copyFrom 38 = .ok (.getfield 33, 3) := by decide +kernel
theorem dX8_copyFrom_41 : decode cX8_copyFrom 41 = .ok (.invokevirtual 44, 3) := by decide +kernel
theorem dX8_copyFrom_44 : decode cX8_copyFrom 44 = .ok (.return_, 1) := by decide +kernel
theorem dX9_init_0 : decode cX9_init 0 = .ok (.aload_n 0, 1) := by decide +kernel
theorem dX9_init_1 : decode cX9_init 1 = .ok (.invokespecial 3, 3) := by decide +kernel
theorem dX9_init_4 : decode cX9_init 4 = .ok (.aload_n 0, 1) := by decide +kernel
theorem dX9_init_5 : decode cX9_init 5 = .ok (.new 9, 3) := by decide +kernel
theorem dX9_init_8 : decode cX9_init 8 = .ok (.dup, 1) := by decide +kernel
theorem dX9_init_9 : decode cX9_init 9 = .ok (.bipush 60, 2) := by decide +kernel
theorem dX9_init_11 : decode cX9_init 11 = .ok (.invokespecial 11, 3) := by decide +kernel
theorem dX9_init_14 : decode cX9_init 14 = .ok (.putfield 14, 3) := by decide +kernel
theorem dX9_init_17 : decode cX9_init 17 = .ok (.return_, 1) := by decide +kernel
theorem dX9_isPlace_0 : decode cX9_isPlace 0 = .ok (.iload_n 0, 1) := by decide +kernel
theorem dX9_isPlace_1 : decode cX9_isPlace 1 = .ok (.iconst (-1), 1) := by decide +kernel
theorem dX9_isPlace_2 : decode cX9_isPlace 2 = .ok (.iconst 5, 1) := by decide +kernel
theorem dX9_isPlace_3 : decode cX9_isPlace 3 = .ok (.invokestatic 20, 3) := by decide +kernel
theorem dX9_isPlace_6 : decode cX9_isPlace 6 = .ok (.ireturn, 1) := by decide +kernel
theorem dX9_isAt_0 : decode cX9_isAt 0 = .ok (.iload_n 2, 1) := by decide +kernel
theorem dX9_isAt_1 : decode cX9_isAt 1 = .ok (.iconst (-1), 1) := by decide +kernel
theorem dX9_isAt_2 : decode cX9_isAt 2 = .ok (.if_icmp .eq 18, 3) := by decide +kernel
theorem dX9_isAt_5 : decode cX9_isAt 5 = .ok (.aload_n 0, 1) := by decide +kernel
theorem dX9_isAt_6 : decode cX9_isAt 6 = .ok (.getfield 14, 3) := by decide +kernel
theorem dX9_isAt_9 : decode cX9_isAt 9 = .ok (.iload_n 1, 1) := by decide +kernel
theorem dX9_isAt_10 : decode cX9_isAt 10 = .ok (.invokevirtual 26, 3) := by decide +kernel
theorem dX9_isAt_13 : decode cX9_isAt 13 = .ok (.bipush 6, 2) := by decide +kernel
theorem dX9_isAt_15 : decode cX9_isAt 15 = .ok (.idiv, 1) := by decide +kernel
theorem dX9_isAt_16 : decode cX9_isAt 16 = .ok (.iload_n 2, 1) := by decide +kernel
theorem dX9_isAt_17 : decode cX9_isAt 17 = .ok (.if_icmp .ne 7, 3) := by decide +kernel
theorem dX9_isAt_20 : decode cX9_isAt 20 = .ok (.iconst 1, 1) := by decide +kernel
theorem dX9_isAt_21 : decode cX9_isAt 21 = .ok (.goto 4, 3) := by decide +kernel
theorem dX9_isAt_24 : decode cX9_isAt 24 = .ok (.iconst 0, 1) := by decide +kernel
theorem dX9_isAt_25 : decode cX9_isAt 25 = .ok (.ireturn, 1) := by decide +kernel
theorem dX9_daysAt_0 : decode cX9_daysAt 0 = .ok (.iconst 0, 1) := by decide +kernel
theorem dX9_daysAt_1 : decode cX9_daysAt 1 = .ok (.istore_n 2, 1) := by decide +kernel
theorem dX9_daysAt_2 : decode cX9_daysAt 2 = .ok (.iconst 0, 1) := by decide +kernel
theorem dX9_daysAt_3 : decode cX9_daysAt 3 = .ok (.istore_n 3, 1) := by decide +kernel
theorem dX9_daysAt_4 : decode cX9_daysAt 4 = .ok (.iload_n 3, 1) := by decide +kernel
theorem dX9_daysAt_5 : decode cX9_daysAt 5 = .ok (.aload_n 0, 1) := by decide +kernel
theorem dX9_daysAt_6 : decode cX9_daysAt 6 = .ok (.getfield 14, 3) := by decide +kernel
theorem dX9_daysAt_9 : decode cX9_daysAt 9 = .ok (.invokevirtual 30, 3) := by decide +kernel
theorem dX9_daysAt_12 : decode cX9_daysAt 12 = .ok (.if_icmp .ge 21, 3) := by decide +kernel
theorem dX9_daysAt_15 : decode cX9_daysAt 15 = .ok (.aload_n 0, 1) := by decide +kernel
theorem dX9_daysAt_16 : decode cX9_daysAt 16 = .ok (.iload_n 3, 1) := by decide +kernel
theorem dX9_daysAt_17 : decode cX9_daysAt 17 = .ok (.iload_n 1, 1) := by decide +kernel
theorem dX9_daysAt_18 : decode cX9_daysAt 18 = .ok (.invokevirtual 34, 3) := by decide +kernel
theorem dX9_daysAt_21 : decode cX9_daysAt 21 = .ok (.ifCond .eq 6, 3) := by decide +kernel
theorem dX9_daysAt_24 : decode cX9_daysAt 24 = .ok (.iinc 2 1, 3) := by decide +kernel
theorem dX9_daysAt_27 : decode cX9_daysAt 27 = .ok (.iinc 3 1, 3) := by decide +kernel
theorem dX9_daysAt_30 : decode cX9_daysAt 30 = .ok (.goto (-26), 3) := by decide +kernel
theorem dX9_daysAt_33 : decode cX9_daysAt 33 = .ok (.iload_n 2, 1) := by decide +kernel
theorem dX9_daysAt_34 : decode cX9_daysAt 34 = .ok (.ireturn, 1) := by decide +kernel
theorem dX9_gainAt_0 : decode cX9_gainAt 0 = .ok (.iconst 0, 1) := by decide +kernel
theorem dX9_gainAt_1 : decode cX9_gainAt 1 = .ok (.istore_n 2, 1) := by decide +kernel
theorem dX9_gainAt_2 : decode cX9_gainAt 2 = .ok (.iconst 0, 1) := by decide +kernel
theorem dX9_gainAt_3 : decode cX9_gainAt 3 = .ok (.istore_n 3, 1) := by decide +kernel
theorem dX9_gainAt_4 : decode cX9_gainAt 4 = .ok (.iload_n 3, 1) := by decide +kernel
theorem dX9_gainAt_5 : decode cX9_gainAt 5 = .ok (.aload_n 0, 1) := by decide +kernel
theorem dX9_gainAt_6 : decode cX9_gainAt 6 = .ok (.getfield 14, 3) := by decide +kernel
theorem dX9_gainAt_9 : decode cX9_gainAt 9 = .ok (.invokevirtual 30, 3) := by decide +kernel
theorem dX9_gainAt_12 : decode cX9_gainAt 12 = .ok (.if_icmp .ge 29, 3) := by decide +kernel
theorem dX9_gainAt_15 : decode cX9_gainAt 15 = .ok (.aload_n 0, 1) := by decide +kernel
theorem dX9_gainAt_16 : decode cX9_gainAt 16 = .ok (.iload_n 3, 1) := by decide +kernel
theorem dX9_gainAt_17 : decode cX9_gainAt 17 = .ok (.iload_n 1, 1) := by decide +kernel
theorem dX9_gainAt_18 : decode cX9_gainAt 18 = .ok (.invokevirtual 34, 3) := by decide +kernel
theorem dX9_gainAt_21 : decode cX9_gainAt 21 = .ok (.ifCond .eq 14, 3) := by decide +kernel
theorem dX9_gainAt_24 : decode cX9_gainAt 24 = .ok (.iload_n 2, 1) := by decide +kernel
theorem dX9_gainAt_25 : decode cX9_gainAt 25 = .ok (.aload_n 0, 1) := by decide +kernel
theorem dX9_gainAt_26 : decode cX9_gainAt 26 = .ok (.getfield 14, 3) := by decide +kernel
theorem dX9_gainAt_29 : decode cX9_gainAt 29 = .ok (.iload_n 3, 1) := by decide +kernel
theorem dX9_gainAt_30 : decode cX9_gainAt 30 = .ok (.invokevirtual 38, 3) := by decide +kernel
theorem dX9_gainAt_33 : decode cX9_gainAt 33 = .ok (.iadd, 1) := by decide +kernel
theorem dX9_gainAt_34 : decode cX9_gainAt 34 = .ok (.istore_n 2, 1) := by decide +kernel
theorem dX9_gainAt_35 : decode cX9_gainAt 35 = .ok (.iinc 3 1, 3) := by decide +kernel
theorem dX9_gainAt_38 : decode cX9_gainAt 38 = .ok (.goto (-34), 3) := by decide +kernel
theorem dX9_gainAt_41 : decode cX9_gainAt 41 = .ok (.iload_n 2, 1) := by decide +kernel
theorem dX9_gainAt_42 : decode cX9_gainAt 42 = .ok (.ireturn, 1) := by decide +kernel
theorem dX9_greatestTurnAt_0 : decode cX9_greatestTurnAt 0 = .ok (.iconst 0, 1) := by decide +kernel
theorem dX9_greatestTurnAt_1 : decode cX9_greatestTurnAt 1 = .ok (.istore_n 2, 1) := by decide +kernel
theorem dX9_greatestTurnAt_2 : decode cX9_greatestTurnAt 2 = .ok (.iconst 0, 1) := by decide +kernel
theorem dX9_greatestTurnAt_3 : decode cX9_greatestTurnAt 3 = .ok (.istore_n 3, 1) := by decide +kernel
theorem dX9_greatestTurnAt_4 : decode cX9_greatestTurnAt 4 = .ok (.iconst 0, 1) := by decide +kernel
theorem dX9_greatestTurnAt_5 : decode cX9_greatestTurnAt 5 = .ok (.istore 4, 2) := by decide +kernel
theorem dX9_greatestTurnAt_7 : decode cX9_greatestTurnAt 7 = .ok (.iconst 0, 1) := by decide +kernel
theorem dX9_greatestTurnAt_8 : decode cX9_greatestTurnAt 8 = .ok (.istore 5, 2) := by decide +kernel
theorem dX9_greatestTurnAt_10 : decode cX9_greatestTurnAt 10 = .ok (.iload 5, 2) := by decide +kernel
theorem dX9_greatestTurnAt_12 : decode cX9_greatestTurnAt 12 = .ok (.aload_n 0, 1) := by decide +kernel
theorem dX9_greatestTurnAt_13 : decode cX9_greatestTurnAt 13 = .ok (.getfield 14, 3) := by decide +kernel
theorem dX9_greatestTurnAt_16 : decode cX9_greatestTurnAt 16 = .ok (.invokevirtual 30, 3) := by decide +kernel
theorem dX9_greatestTurnAt_19 : decode cX9_greatestTurnAt 19 = .ok (.if_icmp .ge 53, 3) := by decide +kernel
theorem dX9_greatestTurnAt_22 : decode cX9_greatestTurnAt 22 = .ok (.aload_n 0, 1) := by decide +kernel
theorem dX9_greatestTurnAt_23 : decode cX9_greatestTurnAt 23 = .ok (.iload 5, 2) := by decide +kernel
theorem dX9_greatestTurnAt_25 : decode cX9_greatestTurnAt 25 = .ok (.iload_n 1, 1) := by decide +kernel
theorem dX9_greatestTurnAt_26 : decode cX9_greatestTurnAt 26 = .ok (.invokevirtual 34, 3) := by decide +kernel
theorem dX9_greatestTurnAt_29 : decode cX9_greatestTurnAt 29 = .ok (.ifCond .eq 37, 3) := by decide +kernel
theorem dX9_greatestTurnAt_32 : decode cX9_greatestTurnAt 32 = .ok (.aload_n 0, 1) := by decide +kernel
theorem dX9_greatestTurnAt_33 : decode cX9_greatestTurnAt 33 = .ok (.getfield 14, 3) := by decide +kernel
theorem dX9_greatestTurnAt_36 : decode cX9_greatestTurnAt 36 = .ok (.iload 5, 2) := by decide +kernel
theorem dX9_greatestTurnAt_38 : decode cX9_greatestTurnAt 38 = .ok (.invokevirtual 38, 3) := by decide +kernel
theorem dX9_greatestTurnAt_41 : decode cX9_greatestTurnAt 41 = .ok (.istore 6, 2) := by decide +kernel
theorem dX9_greatestTurnAt_43 : decode cX9_greatestTurnAt 43 = .ok (.iload_n 3, 1) := by decide +kernel
theorem dX9_greatestTurnAt_44 : decode cX9_greatestTurnAt 44 = .ok (.ifCond .eq 16, 3) := by decide +kernel
theorem dX9_greatestTurnAt_47 : decode cX9_greatestTurnAt 47 = .ok (.iload_n 2, 1) := by decide +kernel
theorem dX9_greatestTurnAt_48 : decode cX9_greatestTurnAt 48 = .ok (.iload 6, 2) := by decide +kernel
theorem dX9_greatestTurnAt_50 : decode cX9_greatestTurnAt 50 = .ok (.iload 4, 2) := by decide +kernel
theorem dX9_greatestTurnAt_52 : decode cX9_greatestTurnAt 52 = .ok (.isub, 1) := by decide +kernel
theorem dX9_greatestTurnAt_53 : decode cX9_greatestTurnAt 53 = .ok (.invokestatic 41, 3) := by decide +kernel
theorem dX9_greatestTurnAt_56 : decode cX9_greatestTurnAt 56 = .ok (.invokestatic 46, 3) := by decide +kernel
theorem dX9_greatestTurnAt_59 : decode cX9_greatestTurnAt 59 = .ok (.istore_n 2, 1) := by decide +kernel
theorem dX9_greatestTurnAt_60 : decode cX9_greatestTurnAt 60 = .ok (.iconst 1, 1) := by decide +kernel
theorem dX9_greatestTurnAt_61 : decode cX9_greatestTurnAt 61 = .ok (.istore_n 3, 1) := by decide +kernel
theorem dX9_greatestTurnAt_62 : decode cX9_greatestTurnAt 62 = .ok (.iload 6, 2) := by decide +kernel
theorem dX9_greatestTurnAt_64 : decode cX9_greatestTurnAt 64 = .ok (.istore 4, 2) := by decide +kernel
theorem dX9_greatestTurnAt_66 : decode cX9_greatestTurnAt 66 = .ok (.iinc 5 1, 3) := by decide +kernel
theorem dX9_greatestTurnAt_69 : decode cX9_greatestTurnAt 69 = .ok (.goto (-59), 3) := by decide +kernel
theorem dX9_greatestTurnAt_72 : decode cX9_greatestTurnAt 72 = .ok (.iload_n 2, 1) := by decide +kernel
theorem dX9_greatestTurnAt_73 : decode cX9_greatestTurnAt 73 = .ok (.ireturn, 1) := by decide +kernel
theorem dX10_init_0 : decode cX10_init 0 = .ok (.aload_n 0, 1) := by decide +kernel
theorem dX10_init_1 : decode cX10_init 1 = .ok (.invokespecial 1, 3) := by decide +kernel
theorem dX10_init_4 : decode cX10_init 4 = .ok (.aload_n 0, 1) := by decide +kernel
theorem dX10_init_5 : decode cX10_init 5 = .ok (.new 7, 3) := by decide +kernel
theorem dX10_init_8 : decode cX10_init 8 = .ok (.dup, 1) := by decide +kernel
theorem dX10_init_9 : decode cX10_init 9 = .ok (.invokespecial 9, 3) := by decide +kernel
theorem dX10_init_12 : decode cX10_init 12 = .ok (.putfield 10, 3) := by decide +kernel
theorem dX10_init_15 : decode cX10_init 15 = .ok (.aload_n 0, 1) := by decide +kernel
theorem dX10_init_16 : decode cX10_init 16 = .ok (.new 7, 3) := by decide +kernel
theorem dX10_init_19 : decode cX10_init 19 = .ok (.dup, 1) := by decide +kernel
theorem dX10_init_20 : decode cX10_init 20 = .ok (.invokespecial 9, 3) := by decide +kernel
theorem dX10_init_23 : decode cX10_init 23 = .ok (.putfield 16, 3) := by decide +kernel
theorem dX10_init_26 : decode cX10_init 26 = .ok (.aload_n 0, 1) := by decide +kernel
theorem dX10_init_27 : decode cX10_init 27 = .ok (.new 19, 3) := by decide +kernel
theorem dX10_init_30 : decode cX10_init 30 = .ok (.dup, 1) := by decide +kernel
theorem dX10_init_31 : decode cX10_init 31 = .ok (.invokespecial 21, 3) := by decide +kernel
theorem dX10_init_34 : decode cX10_init 34 = .ok (.putfield 22, 3) := by decide +kernel
theorem dX10_init_37 : decode cX10_init 37 = .ok (.aload_n 0, 1) := by decide +kernel
theorem dX10_init_38 : decode cX10_init 38 = .ok (.new 26, 3) := by decide +kernel
theorem dX10_init_41 : decode cX10_init 41 = .ok (.dup, 1) := by decide +kernel
theorem dX10_init_42 : decode cX10_init 42 = .ok (.invokespecial 28, 3) := by decide +kernel
theorem dX10_init_45 : decode cX10_init 45 = .ok (.putfield 29, 3) := by decide +kernel
theorem dX10_init_48 : decode cX10_init 48 = .ok (.aload_n 0, 1) := by decide +kernel
theorem dX10_init_49 : decode cX10_init 49 = .ok (.new 33, 3) := by decide +kernel
theorem dX10_init_52 : decode cX10_init 52 = .ok (.dup, 1) := by decide +kernel
theorem dX10_init_53 : decode cX10_init 53 = .ok (.invokespecial 35, 3) := by decide +kernel
theorem dX10_init_56 : decode cX10_init 56 = .ok (.putfield 36, 3) := by decide +kernel
theorem dX10_init_59 : decode cX10_init 59 = .ok (.aload_n 0, 1) := by decide +kernel
theorem dX10_init_60 : decode cX10_init 60 = .ok (.new 40, 3) := by decide +kernel
theorem dX10_init_63 : decode cX10_init 63 = .ok (.dup, 1) := by decide +kernel
theorem dX10_init_64 : decode cX10_init 64 = .ok (.invokespecial 42, 3) := by decide +kernel
theorem dX10_init_67 : decode cX10_init 67 = .ok (.putfield 43, 3) := by decide +kernel
theorem dX10_init_70 : decode cX10_init 70 = .ok (.aload_n 0, 1) := by decide +kernel
theorem dX10_init_71 : decode cX10_init 71 = .ok (.new 47, 3) := by decide +kernel
theorem dX10_init_74 : decode cX10_init 74 = .ok (.dup, 1) := by decide +kernel
theorem dX10_init_75 : decode cX10_init 75 = .ok (.invokespecial 49, 3) := by decide +kernel
theorem dX10_init_78 : decode cX10_init 78 = .ok (.putfield 50, 3) := by decide +kernel
theorem dX10_init_81 : decode cX10_init 81 = .ok (.aload_n 0, 1) := by decide +kernel
theorem dX10_init_82 : decode cX10_init 82 = .ok (.bipush 16, 2) := by decide +kernel
theorem dX10_init_84 : decode cX10_init 84 = .ok (.newarray .int, 2) := by decide +kernel
theorem dX10_init_86 : decode cX10_init 86 = .ok (.putfield 54, 3) := by decide +kernel
theorem dX10_init_89 : decode cX10_init 89 = .ok (.aload_n 0, 1) := by decide +kernel
theorem dX10_init_90 : decode cX10_init 90 = .ok (.bipush 8, 2) := by decide +kernel
theorem dX10_init_92 : decode cX10_init 92 = .ok (.newarray .int, 2) := by decide +kernel
theorem dX10_init_94 : decode cX10_init 94 = .ok (.putfield 58, 3) := by decide +kernel
theorem dX10_init_97 : decode cX10_init 97 = .ok (.return_, 1) := by decide +kernel
theorem dX10_cause_0 : decode cX10_cause 0 = .ok (.iload_n 1, 1) := by decide +kernel
theorem dX10_cause_1 : decode cX10_cause 1 = .ok (.iload_n 2, 1) := by decide +kernel
theorem dX10_cause_2 : decode cX10_cause 2 = .ok (.iload_n 3, 1) := by decide +kernel
theorem dX10_cause_3 : decode cX10_cause 3 = .ok (.invokestatic 61, 3) := by decide +kernel
theorem dX10_cause_6 : decode cX10_cause 6 = .ok (.ifCond .ne 9, 3) := by decide +kernel
theorem dX10_cause_9 : decode cX10_cause 9 = .ok (.aload_n 0, 1) := by decide +kernel
theorem dX10_cause_10 : decode cX10_cause 10 = .ok (.iconst 1, 1) := by decide +kernel
theorem dX10_cause_11 : decode cX10_cause 11 = .ok (.invokevirtual 67, 3) := by decide +kernel
theorem dX10_cause_14 : decode cX10_cause 14 = .ok (.lreturn, 1) := by decide +kernel
theorem dX10_cause_15 : decode cX10_cause 15 = .ok (.aload_n 0, 1) := by decide +kernel
theorem dX10_cause_16 : decode cX10_cause 16 = .ok (.getfield 10, 3) := by decide +kernel
theorem dX10_cause_19 : decode cX10_cause 19 = .ok (.getfield 71, 3) := by decide +kernel
theorem dX10_cause_22 : decode cX10_cause 22 = .ok (.invokevirtual 75, 3) := by decide +kernel
theorem dX10_cause_25 : decode cX10_cause 25 = .ok (.ifCond .eq 9, 3) := by decide +kernel
theorem dX10_cause_28 : decode cX10_cause 28 = .ok (.aload_n 0, 1) := by decide +kernel
theorem dX10_cause_29 : decode cX10_cause 29 = .ok (.iconst 5, 1) := by decide +kernel
theorem dX10_cause_30 : decode cX10_cause 30 = .ok (.invokevirtual 67, 3) := by decide +kernel
theorem dX10_cause_33 : decode cX10_cause 33 = .ok (.lreturn, 1) := by decide +kernel
theorem dX10_cause_34 : decode cX10_cause 34 = .ok (.aload_n 0, 1) := by decide +kernel
theorem dX10_cause_35 : decode cX10_cause 35 = .ok (.getfield 36, 3) := by decide +kernel
theorem dX10_cause_38 : decode cX10_cause 38 = .ok (.invokevirtual 79, 3) := by decide +kernel
theorem dX10_cause_41 : decode cX10_cause 41 = .ok (.aload_n 0, 1) := by decide +kernel
theorem dX10_cause_42 : decode cX10_cause 42 = .ok (.getfield 10, 3) := by decide +kernel
theorem dX10_cause_45 : decode cX10_cause 45 = .ok (.getfield 71, 3) := by decide +kernel
theorem dX10_cause_48 : decode cX10_cause 48 = .ok (.iload_n 1, 1) := by decide +kernel
theorem dX10_cause_49 : decode cX10_cause 49 = .ok (.iload_n 2, 1) := by decide +kernel
theorem dX10_cause_50 : decode cX10_cause 50 = .ok (.iload_n 3, 1) := by decide +kernel
theorem dX10_cause_51 : decode cX10_cause 51 = .ok (.invokevirtual 82, 3) := by decide +kernel
theorem dX10_cause_54 : decode cX10_cause 54 = .ok (.i2l, 1) := by decide +kernel
theorem dX10_cause_55 : decode cX10_cause 55 = .ok (.lreturn, 1) := by decide +kernel
theorem dX10_shows_0 : decode cX10_shows 0 = .ok (.aload_n 0, 1) := by decide +kernel
theorem dX10_shows_1 : decode cX10_shows 1 = .ok (.getfield 10, 3) := by decide +kernel
theorem dX10_shows_4 : decode cX10_shows 4 = .ok (.getfield 71, 3) := by decide +kernel
theorem dX10_shows_7 : decode cX10_shows 7 = .ok (.iload_n 1, 1) := by decide +kernel
theorem dX10_shows_8 : decode cX10_shows 8 = .ok (.invokevirtual 86, 3) := by decide +kernel
theorem dX10_shows_11 : decode cX10_shows 11 = .ok (.ifCond .eq 10, 3) := by decide +kernel
theorem dX10_shows_14 : decode cX10_shows 14 = .ok (.iload_n 2, 1) := by decide +kernel
theorem dX10_shows_15 : decode cX10_shows 15 = .ok (.invokestatic 90, 3) := by decide +kernel
theorem dX10_shows_18 : decode cX10_shows 18 = .ok (.ifCond .ne 9, 3) := by decide +kernel
theorem dX10_shows_21 : decode cX10_shows 21 = .ok (.aload_n 0, 1) := by decide +kernel
theorem dX10_shows_22 : decode cX10_shows 22 = .ok (.iconst 1, 1) := by decide +kernel
theorem dX10_shows_23 : decode cX10_shows 23 = .ok (.invokevirtual 67, 3) := by decide +kernel
theorem dX10_shows_26 : decode cX10_shows 26 = .ok (.lreturn, 1) := by decide +kernel
theorem dX10_shows_27 : decode cX10_shows 27 = .ok (.aload_n 0, 1) := by decide +kernel
theorem dX10_shows_28 : decode cX10_shows 28 = .ok (.getfield 10, 3) := by decide +kernel
theorem dX10_shows_31 : decode cX10_shows 31 = .ok (.getfield 71, 3) := by decide +kernel
theorem dX10_shows_34 : decode cX10_shows 34 = .ok (.iload_n 1, 1) := by decide +kernel
theorem dX10_shows_35 : decode cX10_shows 35 = .ok (.iload_n 2, 1) := by decide +kernel
theorem dX10_shows_36 : decode cX10_shows 36 = .ok (.invokevirtual 93, 3) := by decide +kernel
theorem dX10_shows_39 : decode cX10_shows 39 = .ok (.i2l, 1) := by decide +kernel
theorem dX10_shows_40 : decode cX10_shows 40 = .ok (.lreturn, 1) := by decide +kernel
theorem dX10_as_0 : decode cX10_as 0 = .ok (.aload_n 0, 1) := by decide +kernel
theorem dX10_as_1 : decode cX10_as 1 = .ok (.getfield 10, 3) := by decide +kernel
theorem dX10_as_4 : decode cX10_as 4 = .ok (.getfield 71, 3) := by decide +kernel
theorem dX10_as_7 : decode cX10_as 7 = .ok (.iload_n 1, 1) := by decide +kernel
theorem dX10_as_8 : decode cX10_as 8 = .ok (.invokevirtual 86, 3) := by decide +kernel
theorem dX10_as_11 : decode cX10_as 11 = .ok (.ifCond .eq 10, 3) := by decide +kernel
theorem dX10_as_14 : decode cX10_as 14 = .ok (.iload_n 2, 1) := by decide +kernel
theorem dX10_as_15 : decode cX10_as 15 = .ok (.invokestatic 97, 3) := by decide +kernel
theorem dX10_as_18 : decode cX10_as 18 = .ok (.ifCond .ne 9, 3) := by decide +kernel
theorem dX10_as_21 : decode cX10_as 21 = .ok (.aload_n 0, 1) := by decide +kernel
theorem dX10_as_22 : decode cX10_as 22 = .ok (.iconst 1, 1) := by decide +kernel
theorem dX10_as_23 : decode cX10_as 23 = .ok (.invokevirtual 67, 3) := by decide +kernel
theorem dX10_as_26 : decode cX10_as 26 = .ok (.lreturn, 1) := by decide +kernel
theorem dX10_as_27 : decode cX10_as 27 = .ok (.aload_n 0, 1) := by decide +kernel
theorem dX10_as_28 : decode cX10_as 28 = .ok (.getfield 10, 3) := by decide +kernel
theorem dX10_as_31 : decode cX10_as 31 = .ok (.getfield 71, 3) := by decide +kernel
theorem dX10_as_34 : decode cX10_as 34 = .ok (.iload_n 1, 1) := by decide +kernel
theorem dX10_as_35 : decode cX10_as 35 = .ok (.iload_n 2, 1) := by decide +kernel
theorem dX10_as_36 : decode cX10_as 36 = .ok (.invokevirtual 100, 3) := by decide +kernel
theorem dX10_as_39 : decode cX10_as 39 = .ok (.ifCond .ne 9, 3) := by decide +kernel
theorem dX10_as_42 : decode cX10_as 42 = .ok (.aload_n 0, 1) := by decide +kernel
theorem dX10_as_43 : decode cX10_as 43 = .ok (.iconst 3, 1) := by decide +kernel
theorem dX10_as_44 : decode cX10_as 44 = .ok (.invokevirtual 67, 3) := by decide +kernel
theorem dX10_as_47 : decode cX10_as 47 = .ok (.lreturn, 1) := by decide +kernel
theorem dX10_as_48 : decode cX10_as 48 = .ok (.aload_n 0, 1) := by decide +kernel
theorem dX10_as_49 : decode cX10_as 49 = .ok (.getfield 10, 3) := by decide +kernel
theorem dX10_as_52 : decode cX10_as 52 = .ok (.getfield 71, 3) := by decide +kernel
theorem dX10_as_55 : decode cX10_as 55 = .ok (.iload_n 1, 1) := by decide +kernel
theorem dX10_as_56 : decode cX10_as 56 = .ok (.invokevirtual 104, 3) := by decide +kernel
theorem dX10_as_59 : decode cX10_as 59 = .ok (.i2l, 1) := by decide +kernel
theorem dX10_as_60 : decode cX10_as 60 = .ok (.lreturn, 1) := by decide +kernel
theorem dX10_read_0 : decode cX10_read 0 = .ok (.iload_n 1, 1) := by decide +kernel
theorem dX10_read_1 : decode cX10_read 1 = .ok (.invokestatic 90, 3) := by decide +kernel
theorem dX10_read_4 : decode cX10_read 4 = .ok (.ifCond .eq 10, 3) := by decide +kernel
theorem dX10_read_7 : decode cX10_read 7 = .ok (.iload_n 2, 1) := by decide +kernel
theorem dX10_read_8 : decode cX10_read 8 = .ok (.invokestatic 108, 3) := by decide +kernel
theorem dX10_read_11 : decode cX10_read 11 = .ok (.ifCond .ne 9, 3) := by decide +kernel
theorem dX10_read_14 : decode cX10_read 14 = .ok (.aload_n 0, 1) := by decide +kernel
theorem dX10_read_15 : decode cX10_read 15 = .ok (.iconst 1, 1) := by decide +kernel
theorem dX10_read_16 : decode cX10_read 16 = .ok (.invokevirtual 67, 3) := by decide +kernel
theorem dX10_read_19 : decode cX10_read 19 = .ok (.lreturn, 1) := by decide +kernel
theorem dX10_read_20 : decode cX10_read 20 = .ok (.aload_n 0, 1) := by decide +kernel
theorem dX10_read_21 : decode cX10_read 21 = .ok (.getfield 10, 3) := by decide +kernel
theorem dX10_read_24 : decode cX10_read 24 = .ok (.getfield 111, 3) := by decide +kernel
theorem dX10_read_27 : decode cX10_read 27 = .ok (.invokevirtual 115, 3) := by decide +kernel
theorem dX10_read_30 : decode cX10_read 30 = .ok (.ifCond .eq 9, 3) := by decide +kernel
theorem dX10_read_33 : decode cX10_read 33 = .ok (.aload_n 0, 1) := by decide +kernel
theorem dX10_read_34 : decode cX10_read 34 = .ok (.iconst 5, 1) := by decide +kernel
theorem dX10_read_35 : decode cX10_read 35 = .ok (.invokevirtual 67, 3) := by decide +kernel
theorem dX10_read_38 : decode cX10_read 38 = .ok (.lreturn, 1) := by decide +kernel
theorem dX10_read_39 : decode cX10_read 39 = .ok (.aload_n 0, 1) := by decide +kernel
theorem dX10_read_40 : decode cX10_read 40 = .ok (.getfield 36, 3) := by decide +kernel
theorem dX10_read_43 : decode cX10_read 43 = .ok (.invokevirtual 79, 3) := by decide +kernel
theorem dX10_read_46 : decode cX10_read 46 = .ok (.aload_n 0, 1) := by decide +kernel
theorem dX10_read_47 : decode cX10_read 47 = .ok (.getfield 10, 3) := by decide +kernel
theorem dX10_read_50 : decode cX10_read 50 = .ok (.getfield 111, 3) := by decide +kernel
theorem dX10_read_53 : decode cX10_read 53 = .ok (.iload_n 1, 1) := by decide +kernel
theorem dX10_read_54 : decode cX10_read 54 = .ok (.iload_n 2, 1) := by decide +kernel
theorem dX10_read_55 : decode cX10_read 55 = .ok (.invokevirtual 118, 3) := by decide +kernel
theorem dX10_read_58 : decode cX10_read 58 = .ok (.i2l, 1) := by decide +kernel
theorem dX10_read_59 : decode cX10_read 59 = .ok (.lreturn, 1) := by decide +kernel
theorem dX10_drop_0 : decode cX10_drop 0 = .ok (.aload_n 0, 1) := by decide +kernel
theorem dX10_drop_1 : decode cX10_drop 1 = .ok (.getfield 10, 3) := by decide +kernel
theorem dX10_drop_4 : decode cX10_drop 4 = .ok (.getfield 111, 3) := by decide +kernel
theorem dX10_drop_7 : decode cX10_drop 7 = .ok (.iload_n 1, 1) := by decide +kernel
theorem dX10_drop_8 : decode cX10_drop 8 = .ok (.invokevirtual 120, 3) := by decide +kernel
theorem dX10_drop_11 : decode cX10_drop 11 = .ok (.ifCond .ne 9, 3) := by decide +kernel
theorem dX10_drop_14 : decode cX10_drop 14 = .ok (.aload_n 0, 1) := by decide +kernel
theorem dX10_drop_15 : decode cX10_drop 15 = .ok (.iconst 1, 1) := by decide +kernel
theorem dX10_drop_16 : decode cX10_drop 16 = .ok (.invokevirtual 67, 3) := by decide +kernel
theorem dX10_drop_19 : decode cX10_drop 19 = .ok (.lreturn, 1) := by decide +kernel
theorem dX10_drop_20 : decode cX10_drop 20 = .ok (.aload_n 0, 1) := by decide +kernel
theorem dX10_drop_21 : decode cX10_drop 21 = .ok (.getfield 36, 3) := by decide +kernel
theorem dX10_drop_24 : decode cX10_drop 24 = .ok (.invokevirtual 79, 3) := by decide +kernel
theorem dX10_drop_27 : decode cX10_drop 27 = .ok (.aload_n 0, 1) := by decide +kernel
theorem dX10_drop_28 : decode cX10_drop 28 = .ok (.getfield 10, 3) := by decide +kernel
theorem dX10_drop_31 : decode cX10_drop 31 = .ok (.getfield 111, 3) := by decide +kernel
theorem dX10_drop_34 : decode cX10_drop 34 = .ok (.iload_n 1, 1) := by decide +kernel
theorem dX10_drop_35 : decode cX10_drop 35 = .ok (.invokevirtual 121, 3) := by decide +kernel
theorem dX10_drop_38 : decode cX10_drop 38 = .ok (.aload_n 0, 1) := by decide +kernel
theorem dX10_drop_39 : decode cX10_drop 39 = .ok (.getfield 10, 3) := by decide +kernel
theorem dX10_drop_42 : decode cX10_drop 42 = .ok (.getfield 111, 3) := by decide +kernel
theorem dX10_drop_45 : decode cX10_drop 45 = .ok (.invokevirtual 125, 3) := by decide +kernel
theorem dX10_drop_48 : decode cX10_drop 48 = .ok (.i2l, 1) := by decide +kernel
theorem dX10_drop_49 : decode cX10_drop 49 = .ok (.lreturn, 1) := by decide +kernel
theorem dX10_reading_0 : decode cX10_reading 0 = .ok (.aload_n 0, 1) := by decide +kernel
theorem dX10_reading_1 : decode cX10_reading 1 = .ok (.getfield 10, 3) := by decide +kernel
theorem dX10_reading_4 : decode cX10_reading 4 = .ok (.getfield 111, 3) := by decide +kernel
theorem dX10_reading_7 : decode cX10_reading 7 = .ok (.iload_n 1, 1) := by decide +kernel
theorem dX10_reading_8 : decode cX10_reading 8 = .ok (.invokevirtual 120, 3) := by decide +kernel
theorem dX10_reading_11 : decode cX10_reading 11 = .ok (.ifCond .eq 12, 3) := by decide +kernel
theorem dX10_reading_14 : decode cX10_reading 14 = .ok (.iload_n 2, 1) := by decide +kernel
theorem dX10_reading_15 : decode cX10_reading 15 = .ok (.iconst 0, 1) := by decide +kernel
theorem dX10_reading_16 : decode cX10_reading 16 = .ok (.iconst 1, 1) := by decide +kernel
theorem dX10_reading_17 : decode cX10_reading 17 = .ok (.invokestatic 129, 3) := by decide +kernel
theorem dX10_reading_20 : decode cX10_reading 20 = .ok (.ifCond .ne 9, 3) := by decide +kernel
theorem dX10_reading_23 : decode cX10_reading 23 = .ok (.aload_n 0, 1) := by decide +kernel
theorem dX10_reading_24 : decode cX10_reading 24 = .ok (.iconst 1, 1) := by decide +kernel
theorem dX10_reading_25 : decode cX10_reading 25 = .ok (.invokevirtual 67, 3) := by decide +kernel
theorem dX10_reading_28 : decode cX10_reading 28 = .ok (.lreturn, 1) := by decide +kernel
theorem dX10_reading_29 : decode cX10_reading 29 = .ok (.iload_n 2, 1) := by decide +kernel
theorem dX10_reading_30 : decode cX10_reading 30 = .ok (.ifCond .ne 18, 3) := by decide +kernel
theorem dX10_reading_33 : decode cX10_reading 33 = .ok (.aload_n 0, 1) := by decide +kernel
theorem dX10_reading_34 : decode cX10_reading 34 = .ok (.getfield 10, 3) := by decide +kernel
theorem dX10_reading_37 : decode cX10_reading 37 = .ok (.getfield 111, 3) := by decide +kernel
theorem dX10_reading_40 : decode cX10_reading 40 = .ok (.iload_n 1, 1) := by decide +kernel
theorem dX10_reading_41 : decode cX10_reading 41 = .ok (.invokevirtual 134, 3) := by decide +kernel
theorem dX10_reading_44 : decode cX10_reading 44 = .ok (.i2l, 1) := by decide +kernel
theorem dX10_reading_45 : decode cX10_reading 45 = .ok (.goto 15, 3) := by decide +kernel
theorem dX10_reading_48 : decode cX10_reading 48 = .ok (.aload_n 0, 1) := by decide +kernel
theorem dX10_reading_49 : decode cX10_reading 49 = .ok (.getfield 10, 3) := by decide +kernel
theorem dX10_reading_52 : decode cX10_reading 52 = .ok (.getfield 111, 3) := by decide +kernel
theorem dX10_reading_55 : decode cX10_reading 55 = .ok (.iload_n 1, 1) := by decide +kernel
theorem dX10_reading_56 : decode cX10_reading 56 = .ok (.invokevirtual 137, 3) := by decide +kernel
theorem dX10_reading_59 : decode cX10_reading 59 = .ok (.i2l, 1) := by decide +kernel
theorem dX10_reading_60 : decode cX10_reading 60 = .ok (.lreturn, 1) := by decide +kernel
theorem dX10_sheet_0 : decode cX10_sheet 0 = .ok (.iload_n 1, 1) := by decide +kernel
theorem dX10_sheet_1 : decode cX10_sheet 1 = .ok (.invokestatic 140, 3) := by decide +kernel
theorem dX10_sheet_4 : decode cX10_sheet 4 = .ok (.ifCond .ne 9, 3) := by decide +kernel
theorem dX10_sheet_7 : decode cX10_sheet 7 = .ok (.aload_n 0, 1) := by decide +kernel
theorem dX10_sheet_8 : decode cX10_sheet 8 = .ok (.iconst 1, 1) := by decide +kernel
theorem dX10_sheet_9 : decode cX10_sheet 9 = .ok (.invokevirtual 67, 3) := by decide +kernel
theorem dX10_sheet_12 : decode cX10_sheet 12 = .ok (.lreturn, 1) := by decide +kernel
theorem dX10_sheet_13 : decode cX10_sheet 13 = .ok (.iload_n 2, 1) := by decide +kernel
theorem dX10_sheet_14 : decode cX10_sheet 14 = .ok (.iconst (-1), 1) := by decide +kernel
theorem dX10_sheet_15 : decode cX10_sheet 15 = .ok (.if_icmp .ge 9, 3) := by decide +kernel
theorem dX10_sheet_18 : decode cX10_sheet 18 = .ok (.aload_n 0, 1) := by decide +kernel
theorem dX10_sheet_19 : decode cX10_sheet 19 = .ok (.iconst 4, 1) := by decide +kernel
theorem dX10_sheet_20 : decode cX10_sheet 20 = .ok (.invokevirtual 67, 3) := by decide +kernel
theorem dX10_sheet_23 : decode cX10_sheet 23 = .ok (.lreturn, 1) := by decide +kernel
theorem dX10_sheet_24 : decode cX10_sheet 24 = .ok (.iload_n 2, 1) := by decide +kernel
theorem dX10_sheet_25 : decode cX10_sheet 25 = .ok (.bipush 36, 2) := by decide +kernel
theorem dX10_sheet_27 : decode cX10_sheet 27 = .ok (.if_icmp .le 9, 3) := by decide +kernel
theorem dX10_sheet_30 : decode cX10_sheet 30 = .ok (.aload_n 0, 1) := by decide +kernel
theorem dX10_sheet_31 : decode cX10_sheet 31 = .ok (.iconst 1, 1) := by decide +kernel
