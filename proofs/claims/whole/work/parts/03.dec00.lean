theorem dX0_init_0 : decode cX0_init 0 = .ok (.aload_n 0, 1) := by decide +kernel
theorem dX0_init_1 : decode cX0_init 1 = .ok (.invokespecial 3, 3) := by decide +kernel
theorem dX0_init_4 : decode cX0_init 4 = .ok (.aload_n 0, 1) := by decide +kernel
theorem dX0_init_5 : decode cX0_init 5 = .ok (.bipush 8, 2) := by decide +kernel
theorem dX0_init_7 : decode cX0_init 7 = .ok (.newarray .int, 2) := by decide +kernel
theorem dX0_init_9 : decode cX0_init 9 = .ok (.putfield 9, 3) := by decide +kernel
theorem dX0_init_12 : decode cX0_init 12 = .ok (.aload_n 0, 1) := by decide +kernel
theorem dX0_init_13 : decode cX0_init 13 = .ok (.new 15, 3) := by decide +kernel
theorem dX0_init_16 : decode cX0_init 16 = .ok (.dup, 1) := by decide +kernel
theorem dX0_init_17 : decode cX0_init 17 = .ok (.bipush 8, 2) := by decide +kernel
theorem dX0_init_19 : decode cX0_init 19 = .ok (.invokespecial 17, 3) := by decide +kernel
theorem dX0_init_22 : decode cX0_init 22 = .ok (.putfield 20, 3) := by decide +kernel
theorem dX0_init_25 : decode cX0_init 25 = .ok (.return_, 1) := by decide +kernel
theorem dX0_isKind_0 : decode cX0_isKind 0 = .ok (.iload_n 0, 1) := by decide +kernel
theorem dX0_isKind_1 : decode cX0_isKind 1 = .ok (.iconst 0, 1) := by decide +kernel
theorem dX0_isKind_2 : decode cX0_isKind 2 = .ok (.iconst 5, 1) := by decide +kernel
theorem dX0_isKind_3 : decode cX0_isKind 3 = .ok (.invokestatic 24, 3) := by decide +kernel
theorem dX0_isKind_6 : decode cX0_isKind 6 = .ok (.ireturn, 1) := by decide +kernel
theorem dX0_allows_0 : decode cX0_allows 0 = .ok (.iload_n 0, 1) := by decide +kernel
theorem dX0_allows_1 : decode cX0_allows 1 = .ok (.tableswitch 91 0 5 #[39, 41, 65, 65, 65, 41], 39) := by decide +kernel
theorem dX0_allows_40 : decode cX0_allows 40 = .ok (.iconst 1, 1) := by decide +kernel
theorem dX0_allows_41 : decode cX0_allows 41 = .ok (.ireturn, 1) := by decide +kernel
theorem dX0_allows_42 : decode cX0_allows 42 = .ok (.iload_n 1, 1) := by decide +kernel
theorem dX0_allows_43 : decode cX0_allows 43 = .ok (.iconst 0, 1) := by decide +kernel
theorem dX0_allows_44 : decode cX0_allows 44 = .ok (.iconst 3, 1) := by decide +kernel
theorem dX0_allows_45 : decode cX0_allows 45 = .ok (.invokestatic 24, 3) := by decide +kernel
theorem dX0_allows_48 : decode cX0_allows 48 = .ok (.ifCond .eq 16, 3) := by decide +kernel
theorem dX0_allows_51 : decode cX0_allows 51 = .ok (.iload_n 2, 1) := by decide +kernel
theorem dX0_allows_52 : decode cX0_allows 52 = .ok (.iconst 1, 1) := by decide +kernel
theorem dX0_allows_53 : decode cX0_allows 53 = .ok (.iconst 3, 1) := by decide +kernel
theorem dX0_allows_54 : decode cX0_allows 54 = .ok (.invokestatic 24, 3) := by decide +kernel
theorem dX0_allows_57 : decode cX0_allows 57 = .ok (.ifCond .eq 7, 3) := by decide +kernel
theorem dX0_allows_60 : decode cX0_allows 60 = .ok (.iconst 1, 1) := by decide +kernel
theorem dX0_allows_61 : decode cX0_allows 61 = .ok (.goto 4, 3) := by decide +kernel
theorem dX0_allows_64 : decode cX0_allows 64 = .ok (.iconst 0, 1) := by decide +kernel
theorem dX0_allows_65 : decode cX0_allows 65 = .ok (.ireturn, 1) := by decide +kernel
theorem dX0_allows_66 : decode cX0_allows 66 = .ok (.iload_n 1, 1) := by decide +kernel
theorem dX0_allows_67 : decode cX0_allows 67 = .ok (.bipush (-2), 2) := by decide +kernel
theorem dX0_allows_69 : decode cX0_allows 69 = .ok (.iconst 2, 1) := by decide +kernel
theorem dX0_allows_70 : decode cX0_allows 70 = .ok (.invokestatic 24, 3) := by decide +kernel
theorem dX0_allows_73 : decode cX0_allows 73 = .ok (.ifCond .eq 17, 3) := by decide +kernel
theorem dX0_allows_76 : decode cX0_allows 76 = .ok (.iload_n 2, 1) := by decide +kernel
theorem dX0_allows_77 : decode cX0_allows 77 = .ok (.bipush (-2), 2) := by decide +kernel
theorem dX0_allows_79 : decode cX0_allows 79 = .ok (.iconst 2, 1) := by decide +kernel
theorem dX0_allows_80 : decode cX0_allows 80 = .ok (.invokestatic 24, 3) := by decide +kernel
theorem dX0_allows_83 : decode cX0_allows 83 = .ok (.ifCond .eq 7, 3) := by decide +kernel
theorem dX0_allows_86 : decode cX0_allows 86 = .ok (.iconst 1, 1) := by decide +kernel
theorem dX0_allows_87 : decode cX0_allows 87 = .ok (.goto 4, 3) := by decide +kernel
theorem dX0_allows_90 : decode cX0_allows 90 = .ok (.iconst 0, 1) := by decide +kernel
theorem dX0_allows_91 : decode cX0_allows 91 = .ok (.ireturn, 1) := by decide +kernel
theorem dX0_allows_92 : decode cX0_allows 92 = .ok (.iconst 0, 1) := by decide +kernel
theorem dX0_allows_93 : decode cX0_allows 93 = .ok (.ireturn, 1) := by decide +kernel
theorem dX0_length_0 : decode cX0_length 0 = .ok (.aload_n 0, 1) := by decide +kernel
theorem dX0_length_1 : decode cX0_length 1 = .ok (.getfield 20, 3) := by decide +kernel
theorem dX0_length_4 : decode cX0_length 4 = .ok (.invokevirtual 30, 3) := by decide +kernel
theorem dX0_length_7 : decode cX0_length 7 = .ok (.ireturn, 1) := by decide +kernel
theorem dX0_has_0 : decode cX0_has 0 = .ok (.aload_n 0, 1) := by decide +kernel
theorem dX0_has_1 : decode cX0_has 1 = .ok (.getfield 20, 3) := by decide +kernel
theorem dX0_has_4 : decode cX0_has 4 = .ok (.iload_n 1, 1) := by decide +kernel
theorem dX0_has_5 : decode cX0_has 5 = .ok (.invokevirtual 34, 3) := by decide +kernel
theorem dX0_has_8 : decode cX0_has 8 = .ok (.ireturn, 1) := by decide +kernel
theorem dX0_isFull_0 : decode cX0_isFull 0 = .ok (.aload_n 0, 1) := by decide +kernel
theorem dX0_isFull_1 : decode cX0_isFull 1 = .ok (.getfield 20, 3) := by decide +kernel
theorem dX0_isFull_4 : decode cX0_isFull 4 = .ok (.invokevirtual 38, 3) := by decide +kernel
theorem dX0_isFull_7 : decode cX0_isFull 7 = .ok (.ireturn, 1) := by decide +kernel
theorem dX0_append_0 : decode cX0_append 0 = .ok (.aload_n 0, 1) := by decide +kernel
theorem dX0_append_1 : decode cX0_append 1 = .ok (.invokevirtual 42, 3) := by decide +kernel
theorem dX0_append_4 : decode cX0_append 4 = .ok (.ifCond .ne 10, 3) := by decide +kernel
theorem dX0_append_7 : decode cX0_append 7 = .ok (.iload_n 1, 1) := by decide +kernel
theorem dX0_append_8 : decode cX0_append 8 = .ok (.invokestatic 43, 3) := by decide +kernel
theorem dX0_append_11 : decode cX0_append 11 = .ok (.ifCond .ne 10, 3) := by decide +kernel
theorem dX0_append_14 : decode cX0_append 14 = .ok (.aload_n 0, 1) := by decide +kernel
theorem dX0_append_15 : decode cX0_append 15 = .ok (.invokevirtual 46, 3) := by decide +kernel
theorem dX0_append_18 : decode cX0_append 18 = .ok (.iconst 1, 1) := by decide +kernel
theorem dX0_append_19 : decode cX0_append 19 = .ok (.isub, 1) := by decide +kernel
theorem dX0_append_20 : decode cX0_append 20 = .ok (.ireturn, 1) := by decide +kernel
theorem dX0_append_21 : decode cX0_append 21 = .ok (.aload_n 0, 1) := by decide +kernel
theorem dX0_append_22 : decode cX0_append 22 = .ok (.getfield 9, 3) := by decide +kernel
theorem dX0_append_25 : decode cX0_append 25 = .ok (.aload_n 0, 1) := by decide +kernel
theorem dX0_append_26 : decode cX0_append 26 = .ok (.invokevirtual 46, 3) := by decide +kernel
theorem dX0_append_29 : decode cX0_append 29 = .ok (.iload_n 1, 1) := by decide +kernel
theorem dX0_append_30 : decode cX0_append 30 = .ok (.iastore, 1) := by decide +kernel
theorem dX0_append_31 : decode cX0_append 31 = .ok (.iload_n 1, 1) := by decide +kernel
theorem dX0_append_32 : decode cX0_append 32 = .ok (.ifCond .ne 15, 3) := by decide +kernel
theorem dX0_append_35 : decode cX0_append 35 = .ok (.aload_n 0, 1) := by decide +kernel
theorem dX0_append_36 : decode cX0_append 36 = .ok (.getfield 20, 3) := by decide +kernel
theorem dX0_append_39 : decode cX0_append 39 = .ok (.iconst 0, 1) := by decide +kernel
theorem dX0_append_40 : decode cX0_append 40 = .ok (.iconst 0, 1) := by decide +kernel
theorem dX0_append_41 : decode cX0_append 41 = .ok (.invokevirtual 47, 3) := by decide +kernel
theorem dX0_append_44 : decode cX0_append 44 = .ok (.goto 12, 3) := by decide +kernel
theorem dX0_append_47 : decode cX0_append 47 = .ok (.aload_n 0, 1) := by decide +kernel
theorem dX0_append_48 : decode cX0_append 48 = .ok (.getfield 20, 3) := by decide +kernel
theorem dX0_append_51 : decode cX0_append 51 = .ok (.iload_n 2, 1) := by decide +kernel
theorem dX0_append_52 : decode cX0_append 52 = .ok (.iload_n 3, 1) := by decide +kernel
theorem dX0_append_53 : decode cX0_append 53 = .ok (.invokevirtual 47, 3) := by decide +kernel
theorem dX0_append_56 : decode cX0_append 56 = .ok (.ireturn, 1) := by decide +kernel
theorem dX0_isOf_0 : decode cX0_isOf 0 = .ok (.aload_n 0, 1) := by decide +kernel
theorem dX0_isOf_1 : decode cX0_isOf 1 = .ok (.iload_n 1, 1) := by decide +kernel
theorem dX0_isOf_2 : decode cX0_isOf 2 = .ok (.invokevirtual 51, 3) := by decide +kernel
theorem dX0_isOf_5 : decode cX0_isOf 5 = .ok (.ifCond .ne 5, 3) := by decide +kernel
theorem dX0_isOf_8 : decode cX0_isOf 8 = .ok (.iconst 0, 1) := by decide +kernel
theorem dX0_isOf_9 : decode cX0_isOf 9 = .ok (.ireturn, 1) := by decide +kernel
theorem dX0_isOf_10 : decode cX0_isOf 10 = .ok (.aload_n 0, 1) := by decide +kernel
theorem dX0_isOf_11 : decode cX0_isOf 11 = .ok (.getfield 9, 3) := by decide +kernel
theorem dX0_isOf_14 : decode cX0_isOf 14 = .ok (.iload_n 1, 1) := by decide +kernel
theorem dX0_isOf_15 : decode cX0_isOf 15 = .ok (.iaload, 1) := by decide +kernel
theorem dX0_isOf_16 : decode cX0_isOf 16 = .ok (.istore_n 3, 1) := by decide +kernel
theorem dX0_isOf_17 : decode cX0_isOf 17 = .ok (.iconst 0, 1) := by decide +kernel
theorem dX0_isOf_18 : decode cX0_isOf 18 = .ok (.istore 4, 2) := by decide +kernel
theorem dX0_isOf_20 : decode cX0_isOf 20 = .ok (.iload 4, 2) := by decide +kernel
theorem dX0_isOf_22 : decode cX0_isOf 22 = .ok (.getstatic 52, 3) := by decide +kernel
theorem dX0_isOf_25 : decode cX0_isOf 25 = .ok (.arraylength, 1) := by decide +kernel
theorem dX0_isOf_26 : decode cX0_isOf 26 = .ok (.if_icmp .ge 27, 3) := by decide +kernel
theorem dX0_isOf_29 : decode cX0_isOf 29 = .ok (.iload_n 3, 1) := by decide +kernel
theorem dX0_isOf_30 : decode cX0_isOf 30 = .ok (.iload_n 2, 1) := by decide +kernel
theorem dX0_isOf_31 : decode cX0_isOf 31 = .ok (.if_icmp .eq 22, 3) := by decide +kernel
theorem dX0_isOf_34 : decode cX0_isOf 34 = .ok (.iload_n 3, 1) := by decide +kernel
theorem dX0_isOf_35 : decode cX0_isOf 35 = .ok (.invokestatic 43, 3) := by decide +kernel
theorem dX0_isOf_38 : decode cX0_isOf 38 = .ok (.ifCond .eq 15, 3) := by decide +kernel
theorem dX0_isOf_41 : decode cX0_isOf 41 = .ok (.getstatic 52, 3) := by decide +kernel
theorem dX0_isOf_44 : decode cX0_isOf 44 = .ok (.iload_n 3, 1) := by decide +kernel
theorem dX0_isOf_45 : decode cX0_isOf 45 = .ok (.iaload, 1) := by decide +kernel
theorem dX0_isOf_46 : decode cX0_isOf 46 = .ok (.istore_n 3, 1) := by decide +kernel
theorem dX0_isOf_47 : decode cX0_isOf 47 = .ok (.iinc 4 1, 3) := by decide +kernel
theorem dX0_isOf_50 : decode cX0_isOf 50 = .ok (.goto (-30), 3) := by decide +kernel
theorem dX0_isOf_53 : decode cX0_isOf 53 = .ok (.iload_n 3, 1) := by decide +kernel
theorem dX0_isOf_54 : decode cX0_isOf 54 = .ok (.iload_n 2, 1) := by decide +kernel
theorem dX0_isOf_55 : decode cX0_isOf 55 = .ok (.if_icmp .ne 7, 3) := by decide +kernel
theorem dX0_isOf_58 : decode cX0_isOf 58 = .ok (.iconst 1, 1) := by decide +kernel
theorem dX0_isOf_59 : decode cX0_isOf 59 = .ok (.goto 4, 3) := by decide +kernel
theorem dX0_isOf_62 : decode cX0_isOf 62 = .ok (.iconst 0, 1) := by decide +kernel
theorem dX0_isOf_63 : decode cX0_isOf 63 = .ok (.ireturn, 1) := by decide +kernel
theorem dX0_numberA_0 : decode cX0_numberA 0 = .ok (.aload_n 0, 1) := by decide +kernel
theorem dX0_numberA_1 : decode cX0_numberA 1 = .ok (.getfield 20, 3) := by decide +kernel
theorem dX0_numberA_4 : decode cX0_numberA 4 = .ok (.iload_n 1, 1) := by decide +kernel
theorem dX0_numberA_5 : decode cX0_numberA 5 = .ok (.invokevirtual 55, 3) := by decide +kernel
theorem dX0_numberA_8 : decode cX0_numberA 8 = .ok (.ireturn, 1) := by decide +kernel
theorem dX0_shownIn_0 : decode cX0_shownIn 0 = .ok (.aload_n 0, 1) := by decide +kernel
theorem dX0_shownIn_1 : decode cX0_shownIn 1 = .ok (.iload_n 1, 1) := by decide +kernel
theorem dX0_shownIn_2 : decode cX0_shownIn 2 = .ok (.invokevirtual 51, 3) := by decide +kernel
theorem dX0_shownIn_5 : decode cX0_shownIn 5 = .ok (.ifCond .eq 10, 3) := by decide +kernel
theorem dX0_shownIn_8 : decode cX0_shownIn 8 = .ok (.iload_n 2, 1) := by decide +kernel
theorem dX0_shownIn_9 : decode cX0_shownIn 9 = .ok (.invokestatic 59, 3) := by decide +kernel
theorem dX0_shownIn_12 : decode cX0_shownIn 12 = .ok (.ifCond .ne 5, 3) := by decide +kernel
theorem dX0_shownIn_15 : decode cX0_shownIn 15 = .ok (.iconst 0, 1) := by decide +kernel
theorem dX0_shownIn_16 : decode cX0_shownIn 16 = .ok (.ireturn, 1) := by decide +kernel
theorem dX0_shownIn_17 : decode cX0_shownIn 17 = .ok (.aload_n 0, 1) := by decide +kernel
theorem dX0_shownIn_18 : decode cX0_shownIn 18 = .ok (.getfield 20, 3) := by decide +kernel
theorem dX0_shownIn_21 : decode cX0_shownIn 21 = .ok (.iload_n 1, 1) := by decide +kernel
theorem dX0_shownIn_22 : decode cX0_shownIn 22 = .ok (.invokevirtual 55, 3) := by decide +kernel
theorem dX0_shownIn_25 : decode cX0_shownIn 25 = .ok (.istore_n 3, 1) := by decide +kernel
theorem dX0_shownIn_26 : decode cX0_shownIn 26 = .ok (.aload_n 0, 1) := by decide +kernel
theorem dX0_shownIn_27 : decode cX0_shownIn 27 = .ok (.getfield 20, 3) := by decide +kernel
theorem dX0_shownIn_30 : decode cX0_shownIn 30 = .ok (.iload_n 1, 1) := by decide +kernel
theorem dX0_shownIn_31 : decode cX0_shownIn 31 = .ok (.invokevirtual 62, 3) := by decide +kernel
theorem dX0_shownIn_34 : decode cX0_shownIn 34 = .ok (.istore 4, 2) := by decide +kernel
theorem dX0_shownIn_36 : decode cX0_shownIn 36 = .ok (.iload_n 2, 1) := by decide +kernel
theorem dX0_shownIn_37 : decode cX0_shownIn 37 = .ok (.bipush 6, 2) := by decide +kernel
theorem dX0_shownIn_39 : decode cX0_shownIn 39 = .ok (.idiv, 1) := by decide +kernel
theorem dX0_shownIn_40 : decode cX0_shownIn 40 = .ok (.istore 5, 2) := by decide +kernel
theorem dX0_shownIn_42 : decode cX0_shownIn 42 = .ok (.iload_n 2, 1) := by decide +kernel
theorem dX0_shownIn_43 : decode cX0_shownIn 43 = .ok (.bipush 6, 2) := by decide +kernel
theorem dX0_shownIn_45 : decode cX0_shownIn 45 = .ok (.irem, 1) := by decide +kernel
theorem dX0_shownIn_46 : decode cX0_shownIn 46 = .ok (.iconst 3, 1) := by decide +kernel
theorem dX0_shownIn_47 : decode cX0_shownIn 47 = .ok (.if_icmp .ge 7, 3) := by decide +kernel
theorem dX0_shownIn_50 : decode cX0_shownIn 50 = .ok (.iconst 1, 1) := by decide +kernel
theorem dX0_shownIn_51 : decode cX0_shownIn 51 = .ok (.goto 4, 3) := by decide +kernel
theorem dX0_shownIn_54 : decode cX0_shownIn 54 = .ok (.iconst 0, 1) := by decide +kernel
theorem dX0_shownIn_55 : decode cX0_shownIn 55 = .ok (.istore 6, 2) := by decide +kernel
theorem dX0_shownIn_57 : decode cX0_shownIn 57 = .ok (.iload_n 2, 1) := by decide +kernel
theorem dX0_shownIn_58 : decode cX0_shownIn 58 = .ok (.iconst 3, 1) := by decide +kernel
theorem dX0_shownIn_59 : decode cX0_shownIn 59 = .ok (.irem, 1) := by decide +kernel
theorem dX0_shownIn_60 : decode cX0_shownIn 60 = .ok (.istore 7, 2) := by decide +kernel
theorem dX0_shownIn_62 : decode cX0_shownIn 62 = .ok (.aload_n 0, 1) := by decide +kernel
theorem dX0_shownIn_63 : decode cX0_shownIn 63 = .ok (.getfield 9, 3) := by decide +kernel
theorem dX0_shownIn_66 : decode cX0_shownIn 66 = .ok (.iload_n 1, 1) := by decide +kernel
theorem dX0_shownIn_67 : decode cX0_shownIn 67 = .ok (.iaload, 1) := by decide +kernel
theorem dX0_shownIn_68 : decode cX0_shownIn 68 = .ok (.tableswitch 111 1 5 #[36, 46, 58, 81, 101], 36) := by decide +kernel
theorem dX0_shownIn_104 : decode cX0_shownIn 104 = .ok (.iload 5, 2) := by decide +kernel
theorem dX0_shownIn_106 : decode cX0_shownIn 106 = .ok (.iload_n 3, 1) := by decide +kernel
theorem dX0_shownIn_107 : decode cX0_shownIn 107 = .ok (.iload 4, 2) := by decide +kernel
theorem dX0_shownIn_109 : decode cX0_shownIn 109 = .ok (.iconst 0, 1) := by decide +kernel
theorem dX0_shownIn_110 : decode cX0_shownIn 110 = .ok (.invokestatic 65, 3) := by decide +kernel
theorem dX0_shownIn_113 : decode cX0_shownIn 113 = .ok (.ireturn, 1) := by decide +kernel
theorem dX0_shownIn_114 : decode cX0_shownIn 114 = .ok (.iload 6, 2) := by decide +kernel
theorem dX0_shownIn_116 : decode cX0_shownIn 116 = .ok (.ifCond .eq 7, 3) := by decide +kernel
theorem dX0_shownIn_119 : decode cX0_shownIn 119 = .ok (.iload_n 3, 1) := by decide +kernel
theorem dX0_shownIn_120 : decode cX0_shownIn 120 = .ok (.goto 5, 3) := by decide +kernel
theorem dX0_shownIn_123 : decode cX0_shownIn 123 = .ok (.iload 4, 2) := by decide +kernel
theorem dX0_shownIn_125 : decode cX0_shownIn 125 = .ok (.ireturn, 1) := by decide +kernel
theorem dX0_shownIn_126 : decode cX0_shownIn 126 = .ok (.iload 6, 2) := by decide +kernel
theorem dX0_shownIn_128 : decode cX0_shownIn 128 = .ok (.ifCond .eq 7, 3) := by decide +kernel
theorem dX0_shownIn_131 : decode cX0_shownIn 131 = .ok (.iload_n 3, 1) := by decide +kernel
theorem dX0_shownIn_132 : decode cX0_shownIn 132 = .ok (.goto 5, 3) := by decide +kernel
theorem dX0_shownIn_135 : decode cX0_shownIn 135 = .ok (.iload 4, 2) := by decide +kernel
theorem dX0_shownIn_137 : decode cX0_shownIn 137 = .ok (.iload 7, 2) := by decide +kernel
theorem dX0_shownIn_139 : decode cX0_shownIn 139 = .ok (.ifCond .ne 7, 3) := by decide +kernel
theorem dX0_shownIn_142 : decode cX0_shownIn 142 = .ok (.iconst 1, 1) := by decide +kernel
theorem dX0_shownIn_143 : decode cX0_shownIn 143 = .ok (.goto 4, 3) := by decide +kernel
theorem dX0_shownIn_146 : decode cX0_shownIn 146 = .ok (.iconst 0, 1) := by decide +kernel
theorem dX0_shownIn_147 : decode cX0_shownIn 147 = .ok (.iadd, 1) := by decide +kernel
theorem dX0_shownIn_148 : decode cX0_shownIn 148 = .ok (.ireturn, 1) := by decide +kernel
theorem dX0_shownIn_149 : decode cX0_shownIn 149 = .ok (.iload_n 3, 1) := by decide +kernel
theorem dX0_shownIn_150 : decode cX0_shownIn 150 = .ok (.iload 7, 2) := by decide +kernel
theorem dX0_shownIn_152 : decode cX0_shownIn 152 = .ok (.iconst 1, 1) := by decide +kernel
theorem dX0_shownIn_153 : decode cX0_shownIn 153 = .ok (.isub, 1) := by decide +kernel
theorem dX0_shownIn_154 : decode cX0_shownIn 154 = .ok (.imul, 1) := by decide +kernel
theorem dX0_shownIn_155 : decode cX0_shownIn 155 = .ok (.iload 7, 2) := by decide +kernel
theorem dX0_shownIn_157 : decode cX0_shownIn 157 = .ok (.iconst 1, 1) := by decide +kernel
theorem dX0_shownIn_158 : decode cX0_shownIn 158 = .ok (.if_icmp .ne 8, 3) := by decide +kernel
theorem dX0_shownIn_161 : decode cX0_shownIn 161 = .ok (.iload 4, 2) := by decide +kernel
theorem dX0_shownIn_163 : decode cX0_shownIn 163 = .ok (.goto 4, 3) := by decide +kernel
theorem dX0_shownIn_166 : decode cX0_shownIn 166 = .ok (.iconst 0, 1) := by decide +kernel
theorem dX0_shownIn_167 : decode cX0_shownIn 167 = .ok (.iadd, 1) := by decide +kernel
theorem dX0_shownIn_168 : decode cX0_shownIn 168 = .ok (.ireturn, 1) := by decide +kernel
theorem dX0_shownIn_169 : decode cX0_shownIn 169 = .ok (.iload 5, 2) := by decide +kernel
theorem dX0_shownIn_171 : decode cX0_shownIn 171 = .ok (.iload_n 3, 1) := by decide +kernel
theorem dX0_shownIn_172 : decode cX0_shownIn 172 = .ok (.iload 4, 2) := by decide +kernel
theorem dX0_shownIn_174 : decode cX0_shownIn 174 = .ok (.iconst 1, 1) := by decide +kernel
theorem dX0_shownIn_175 : decode cX0_shownIn 175 = .ok (.invokestatic 65, 3) := by decide +kernel
theorem dX0_shownIn_178 : decode cX0_shownIn 178 = .ok (.ireturn, 1) := by decide +kernel
theorem dX0_shownIn_179 : decode cX0_shownIn 179 = .ok (.iconst 1, 1) := by decide +kernel
theorem dX0_shownIn_180 : decode cX0_shownIn 180 = .ok (.ireturn, 1) := by decide +kernel
theorem dX0_hanging_0 : decode cX0_hanging 0 = .ok (.iload_n 0, 1) := by decide +kernel
theorem dX0_hanging_1 : decode cX0_hanging 1 = .ok (.iconst 2, 1) := by decide +kernel
theorem dX0_hanging_2 : decode cX0_hanging 2 = .ok (.if_icmp .ge 5, 3) := by decide +kernel
theorem dX0_hanging_5 : decode cX0_hanging 5 = .ok (.iconst 0, 1) := by decide +kernel
theorem dX0_hanging_6 : decode cX0_hanging 6 = .ok (.ireturn, 1) := by decide +kernel
theorem dX0_hanging_7 : decode cX0_hanging 7 = .ok (.iload_n 0, 1) := by decide +kernel
theorem dX0_hanging_8 : decode cX0_hanging 8 = .ok (.iconst 2, 1) := by decide +kernel
theorem dX0_hanging_9 : decode cX0_hanging 9 = .ok (.isub, 1) := by decide +kernel
theorem dX0_hanging_10 : decode cX0_hanging 10 = .ok (.iload_n 1, 1) := by decide +kernel
theorem dX0_hanging_11 : decode cX0_hanging 11 = .ok (.isub, 1) := by decide +kernel
theorem dX0_hanging_12 : decode cX0_hanging 12 = .ok (.iconst 4, 1) := by decide +kernel
theorem dX0_hanging_13 : decode cX0_hanging 13 = .ok (.iadd, 1) := by decide +kernel
theorem dX0_hanging_14 : decode cX0_hanging 14 = .ok (.iconst 4, 1) := by decide +kernel
theorem dX0_hanging_15 : decode cX0_hanging 15 = .ok (.irem, 1) := by decide +kernel
theorem dX0_hanging_16 : decode cX0_hanging 16 = .ok (.istore 4, 2) := by decide +kernel
theorem dX0_hanging_18 : decode cX0_hanging 18 = .ok (.iload 4, 2) := by decide +kernel
theorem dX0_hanging_20 : decode cX0_hanging 20 = .ok (.ifCond .ne 5, 3) := by decide +kernel
theorem dX0_hanging_23 : decode cX0_hanging 23 = .ok (.iload_n 2, 1) := by decide +kernel
theorem dX0_hanging_24 : decode cX0_hanging 24 = .ok (.ireturn, 1) := by decide +kernel
theorem dX0_hanging_25 : decode cX0_hanging 25 = .ok (.iload 4, 2) := by decide +kernel
theorem dX0_hanging_27 : decode cX0_hanging 27 = .ok (.iconst 2, 1) := by decide +kernel
theorem dX0_hanging_28 : decode cX0_hanging 28 = .ok (.if_icmp .ne 8, 3) := by decide +kernel
theorem dX0_hanging_31 : decode cX0_hanging 31 = .ok (.iload_n 2, 1) := by decide +kernel
theorem dX0_hanging_32 : decode cX0_hanging 32 = .ok (.ineg, 1) := by decide +kernel
theorem dX0_hanging_33 : decode cX0_hanging 33 = .ok (.goto 4, 3) := by decide +kernel
theorem dX0_hanging_36 : decode cX0_hanging 36 = .ok (.iload_n 3, 1) := by decide +kernel
theorem dX0_hanging_37 : decode cX0_hanging 37 = .ok (.ireturn, 1) := by decide +kernel
theorem dX0_copyFrom_0 : decode cX0_copyFrom 0 = .ok (.aload_n 1, 1) := by decide +kernel
theorem dX0_copyFrom_1 : decode cX0_copyFrom 1 = .ok (.getfield 9, 3) := by decide +kernel
theorem dX0_copyFrom_4 : decode cX0_copyFrom 4 = .ok (.iconst 0, 1) := by decide +kernel
theorem dX0_copyFrom_5 : decode cX0_copyFrom 5 = .ok (.aload_n 0, 1) := by decide +kernel
theorem dX0_copyFrom_6 : decode cX0_copyFrom 6 = .ok (.getfield 9, 3) := by decide +kernel
theorem dX0_copyFrom_9 : decode cX0_copyFrom 9 = .ok (.iconst 0, 1) := by decide +kernel
theorem dX0_copyFrom_10 : decode cX0_copyFrom 10 = .ok (.bipush 8, 2) := by decide +kernel
theorem dX0_copyFrom_12 : decode cX0_copyFrom 12 = .ok (.invokestatic 69, 3) := by decide +kernel
theorem dX0_copyFrom_15 : decode cX0_copyFrom 15 = .ok (.aload_n 0, 1) := by decide +kernel
theorem dX0_copyFrom_16 : decode cX0_copyFrom 16 = .ok (.getfield 20, 3) := by decide +kernel
theorem dX0_copyFrom_19 : decode cX0_copyFrom 19 = .ok (.aload_n 1, 1) := by decide +kernel
theorem dX0_copyFrom_20 : decode cX0_copyFrom 20 = .ok (.getfield 20, 3) := by decide +kernel
theorem dX0_copyFrom_23 : decode cX0_copyFrom 23 = .ok (.invokevirtual 75, 3) := by decide +kernel
theorem dX0_copyFrom_26 : decode cX0_copyFrom 26 = .ok (.return_, 1) := by decide +kernel
theorem dX1_init_0 : decode cX1_init 0 = .ok (.aload_n 0, 1) := by decide +kernel
theorem dX1_init_1 : decode cX1_init 1 = .ok (.invokespecial 3, 3) := by decide +kernel
theorem dX1_init_4 : decode cX1_init 4 = .ok (.aload_n 0, 1) := by decide +kernel
theorem dX1_init_5 : decode cX1_init 5 = .ok (.bipush 36, 2) := by decide +kernel
theorem dX1_init_7 : decode cX1_init 7 = .ok (.newarray .long, 2) := by decide +kernel
theorem dX1_init_9 : decode cX1_init 9 = .ok (.putfield 9, 3) := by decide +kernel
theorem dX1_init_12 : decode cX1_init 12 = .ok (.aload_n 0, 1) := by decide +kernel
theorem dX1_init_13 : decode cX1_init 13 = .ok (.sipush 288, 3) := by decide +kernel
theorem dX1_init_16 : decode cX1_init 16 = .ok (.newarray .long, 2) := by decide +kernel
theorem dX1_init_18 : decode cX1_init 18 = .ok (.putfield 15, 3) := by decide +kernel
theorem dX1_init_21 : decode cX1_init 21 = .ok (.return_, 1) := by decide +kernel
theorem dX1_prepare_0 : decode cX1_prepare 0 = .ok (.aload_n 0, 1) := by decide +kernel
theorem dX1_prepare_1 : decode cX1_prepare 1 = .ok (.iconst 0, 1) := by decide +kernel
theorem dX1_prepare_2 : decode cX1_prepare 2 = .ok (.putfield 18, 3) := by decide +kernel
theorem dX1_prepare_5 : decode cX1_prepare 5 = .ok (.aload_n 0, 1) := by decide +kernel
theorem dX1_prepare_6 : decode cX1_prepare 6 = .ok (.aload_n 1, 1) := by decide +kernel
theorem dX1_prepare_7 : decode cX1_prepare 7 = .ok (.getfield 22, 3) := by decide +kernel
theorem dX1_prepare_10 : decode cX1_prepare 10 = .ok (.invokevirtual 28, 3) := by decide +kernel
theorem dX1_prepare_13 : decode cX1_prepare 13 = .ok (.bipush 8, 2) := by decide +kernel
theorem dX1_prepare_15 : decode cX1_prepare 15 = .ok (.invokestatic 34, 3) := by decide +kernel
theorem dX1_prepare_18 : decode cX1_prepare 18 = .ok (.putfield 40, 3) := by decide +kernel
theorem dX1_prepare_21 : decode cX1_prepare 21 = .ok (.iconst 0, 1) := by decide +kernel
theorem dX1_prepare_22 : decode cX1_prepare 22 = .ok (.istore_n 3, 1) := by decide +kernel
theorem dX1_prepare_23 : decode cX1_prepare 23 = .ok (.iload_n 3, 1) := by decide +kernel
theorem dX1_prepare_24 : decode cX1_prepare 24 = .ok (.bipush 36, 2) := by decide +kernel
theorem dX1_prepare_26 : decode cX1_prepare 26 = .ok (.if_icmp .ge 89, 3) := by decide +kernel
theorem dX1_prepare_29 : decode cX1_prepare 29 = .ok (.aload_n 1, 1) := by decide +kernel
theorem dX1_prepare_30 : decode cX1_prepare 30 = .ok (.getfield 42, 3) := by decide +kernel
theorem dX1_prepare_33 : decode cX1_prepare 33 = .ok (.iload_n 3, 1) := by decide +kernel
theorem dX1_prepare_34 : decode cX1_prepare 34 = .ok (.invokevirtual 46, 3) := by decide +kernel
theorem dX1_prepare_37 : decode cX1_prepare 37 = .ok (.ifCond .eq 72, 3) := by decide +kernel
theorem dX1_prepare_40 : decode cX1_prepare 40 = .ok (.aload_n 0, 1) := by decide +kernel
theorem dX1_prepare_41 : decode cX1_prepare 41 = .ok (.getfield 9, 3) := by decide +kernel
theorem dX1_prepare_44 : decode cX1_prepare 44 = .ok (.aload_n 0, 1) := by decide +kernel
theorem dX1_prepare_45 : decode cX1_prepare 45 = .ok (.getfield 18, 3) := by decide +kernel
theorem dX1_prepare_48 : decode cX1_prepare 48 = .ok (.aload_n 2, 1) := by decide +kernel
theorem dX1_prepare_49 : decode cX1_prepare 49 = .ok (.iload_n 3, 1) := by decide +kernel
theorem dX1_prepare_50 : decode cX1_prepare 50 = .ok (.aload_n 1, 1) := by decide +kernel
theorem dX1_prepare_51 : decode cX1_prepare 51 = .ok (.getfield 52, 3) := by decide +kernel
theorem dX1_prepare_54 : decode cX1_prepare 54 = .ok (.invokevirtual 56, 3) := by decide +kernel
theorem dX1_prepare_57 : decode cX1_prepare 57 = .ok (.lastore, 1) := by decide +kernel
theorem dX1_prepare_58 : decode cX1_prepare 58 = .ok (.iconst 0, 1) := by decide +kernel
theorem dX1_prepare_59 : decode cX1_prepare 59 = .ok (.istore 4, 2) := by decide +kernel
theorem dX1_prepare_61 : decode cX1_prepare 61 = .ok (.iload 4, 2) := by decide +kernel
theorem dX1_prepare_63 : decode cX1_prepare 63 = .ok (.aload_n 0, 1) := by decide +kernel
theorem dX1_prepare_64 : decode cX1_prepare 64 = .ok (.getfield 40, 3) := by decide +kernel
theorem dX1_prepare_67 : decode cX1_prepare 67 = .ok (.if_icmp .ge 32, 3) := by decide +kernel
theorem dX1_prepare_70 : decode cX1_prepare 70 = .ok (.aload_n 0, 1) := by decide +kernel
theorem dX1_prepare_71 : decode cX1_prepare 71 = .ok (.getfield 15, 3) := by decide +kernel
theorem dX1_prepare_74 : decode cX1_prepare 74 = .ok (.iload 4, 2) := by decide +kernel
theorem dX1_prepare_76 : decode cX1_prepare 76 = .ok (.bipush 36, 2) := by decide +kernel
theorem dX1_prepare_78 : decode cX1_prepare 78 = .ok (.imul, 1) := by decide +kernel
theorem dX1_prepare_79 : decode cX1_prepare 79 = .ok (.aload_n 0, 1) := by decide +kernel
theorem dX1_prepare_80 : decode cX1_prepare 80 = .ok (.getfield 18, 3) := by decide +kernel
theorem dX1_prepare_83 : decode cX1_prepare 83 = .ok (.iadd, 1) := by decide +kernel
theorem dX1_prepare_84 : decode cX1_prepare 84 = .ok (.aload_n 2, 1) := by decide +kernel
theorem dX1_prepare_85 : decode cX1_prepare 85 = .ok (.iload_n 3, 1) := by decide +kernel
theorem dX1_prepare_86 : decode cX1_prepare 86 = .ok (.iload 4, 2) := by decide +kernel
theorem dX1_prepare_88 : decode cX1_prepare 88 = .ok (.aload_n 1, 1) := by decide +kernel
theorem dX1_prepare_89 : decode cX1_prepare 89 = .ok (.invokevirtual 62, 3) := by decide +kernel
theorem dX1_prepare_92 : decode cX1_prepare 92 = .ok (.lastore, 1) := by decide +kernel
theorem dX1_prepare_93 : decode cX1_prepare 93 = .ok (.iinc 4 1, 3) := by decide +kernel
theorem dX1_prepare_96 : decode cX1_prepare 96 = .ok (.goto (-35), 3) := by decide +kernel
theorem dX1_prepare_99 : decode cX1_prepare 99 = .ok (.aload_n 0, 1) := by decide +kernel
theorem dX1_prepare_100 : decode cX1_prepare 100 = .ok (.dup, 1) := by decide +kernel
theorem dX1_prepare_101 : decode cX1_prepare 101 = .ok (.getfield 18, 3) := by decide +kernel
theorem dX1_prepare_104 : decode cX1_prepare 104 = .ok (.iconst 1, 1) := by decide +kernel
theorem dX1_prepare_105 : decode cX1_prepare 105 = .ok (.iadd, 1) := by decide +kernel
theorem dX1_prepare_106 : decode cX1_prepare 106 = .ok (.putfield 18, 3) := by decide +kernel
theorem dX1_prepare_109 : decode cX1_prepare 109 = .ok (.iinc 3 1, 3) := by decide +kernel
theorem dX1_prepare_112 : decode cX1_prepare 112 = .ok (.goto (-89), 3) := by decide +kernel
theorem dX1_prepare_115 : decode cX1_prepare 115 = .ok (.return_, 1) := by decide +kernel
theorem dX1_run_0 : decode cX1_run 0 = .ok (.aload_n 0, 1) := by decide +kernel
theorem dX1_run_1 : decode cX1_run 1 = .ok (.ldc2_w 68, 3) := by decide +kernel
theorem dX1_run_4 : decode cX1_run 4 = .ok (.putfield 70, 3) := by decide +kernel
theorem dX1_run_7 : decode cX1_run 7 = .ok (.aload_n 0, 1) := by decide +kernel
theorem dX1_run_8 : decode cX1_run 8 = .ok (.iconst (-1), 1) := by decide +kernel
theorem dX1_run_9 : decode cX1_run 9 = .ok (.iconst 0, 1) := by decide +kernel
theorem dX1_run_10 : decode cX1_run 10 = .ok (.iconst (-1), 1) := by decide +kernel
theorem dX1_run_11 : decode cX1_run 11 = .ok (.iconst 0, 1) := by decide +kernel
theorem dX1_run_12 : decode cX1_run 12 = .ok (.invokevirtual 74, 3) := by decide +kernel
theorem dX1_run_15 : decode cX1_run 15 = .ok (.iconst 0, 1) := by decide +kernel
theorem dX1_run_16 : decode cX1_run 16 = .ok (.istore_n 1, 1) := by decide +kernel
theorem dX1_run_17 : decode cX1_run 17 = .ok (.iload_n 1, 1) := by decide +kernel
theorem dX1_run_18 : decode cX1_run 18 = .ok (.aload_n 0, 1) := by decide +kernel
theorem dX1_run_19 : decode cX1_run 19 = .ok (.getfield 40, 3) := by decide +kernel
theorem dX1_run_22 : decode cX1_run 22 = .ok (.if_icmp .ge 35, 3) := by decide +kernel
theorem dX1_run_25 : decode cX1_run 25 = .ok (.bipush (-3), 2) := by decide +kernel
theorem dX1_run_27 : decode cX1_run 27 = .ok (.istore_n 2, 1) := by decide +kernel
theorem dX1_run_28 : decode cX1_run 28 = .ok (.iload_n 2, 1) := by decide +kernel
theorem dX1_run_29 : decode cX1_run 29 = .ok (.iconst 3, 1) := by decide +kernel
theorem dX1_run_30 : decode cX1_run 30 = .ok (.if_icmp .gt 21, 3) := by decide +kernel
theorem dX1_run_33 : decode cX1_run 33 = .ok (.iload_n 2, 1) := by decide +kernel
theorem dX1_run_34 : decode cX1_run 34 = .ok (.ifCond .eq 11, 3) := by decide +kernel
theorem dX1_run_37 : decode cX1_run 37 = .ok (.aload_n 0, 1) := by decide +kernel
theorem dX1_run_38 : decode cX1_run 38 = .ok (.iload_n 1, 1) := by decide +kernel
theorem dX1_run_39 : decode cX1_run 39 = .ok (.iload_n 2, 1) := by decide +kernel
theorem dX1_run_40 : decode cX1_run 40 = .ok (.iconst (-1), 1) := by decide +kernel
theorem dX1_run_41 : decode cX1_run 41 = .ok (.iconst 0, 1) := by decide +kernel
theorem dX1_run_42 : decode cX1_run 42 = .ok (.invokevirtual 74, 3) := by decide +kernel
theorem dX1_run_45 : decode cX1_run 45 = .ok (.iinc 2 1, 3) := by decide +kernel
theorem dX1_run_48 : decode cX1_run 48 = .ok (.goto (-20), 3) := by decide +kernel
theorem dX1_run_51 : decode cX1_run 51 = .ok (.iinc 1 1, 3) := by decide +kernel
theorem dX1_run_54 : decode cX1_run 54 = .ok (.goto (-37), 3) := by decide +kernel
theorem dX1_run_57 : decode cX1_run 57 = .ok (.iconst 0, 1) := by decide +kernel
theorem dX1_run_58 : decode cX1_run 58 = .ok (.istore_n 1, 1) := by decide +kernel
theorem dX1_run_59 : decode cX1_run 59 = .ok (.iload_n 1, 1) := by decide +kernel
theorem dX1_run_60 : decode cX1_run 60 = .ok (.aload_n 0, 1) := by decide +kernel
theorem dX1_run_61 : decode cX1_run 61 = .ok (.getfield 40, 3) := by decide +kernel
theorem dX1_run_64 : decode cX1_run 64 = .ok (.if_icmp .ge 33, 3) := by decide +kernel
theorem dX1_run_67 : decode cX1_run 67 = .ok (.bipush (-3), 2) := by decide +kernel
theorem dX1_run_69 : decode cX1_run 69 = .ok (.istore_n 2, 1) := by decide +kernel
theorem dX1_run_70 : decode cX1_run 70 = .ok (.iload_n 2, 1) := by decide +kernel
theorem dX1_run_71 : decode cX1_run 71 = .ok (.iconst 3, 1) := by decide +kernel
theorem dX1_run_72 : decode cX1_run 72 = .ok (.if_icmp .gt 19, 3) := by decide +kernel
theorem dX1_run_75 : decode cX1_run 75 = .ok (.iload_n 2, 1) := by decide +kernel
theorem dX1_run_76 : decode cX1_run 76 = .ok (.ifCond .eq 9, 3) := by decide +kernel
theorem dX1_run_79 : decode cX1_run 79 = .ok (.aload_n 0, 1) := by decide +kernel
theorem dX1_run_80 : decode cX1_run 80 = .ok (.iload_n 1, 1) := by decide +kernel
theorem dX1_run_81 : decode cX1_run 81 = .ok (.iload_n 2, 1) := by decide +kernel
theorem dX1_run_82 : decode cX1_run 82 = .ok (.invokevirtual 78, 3) := by decide +kernel
theorem dX1_run_85 : decode cX1_run 85 = .ok (.iinc 2 1, 3) := by decide +kernel
theorem dX1_run_88 : decode cX1_run 88 = .ok (.goto (-18), 3) := by decide +kernel
theorem dX1_run_91 : decode cX1_run 91 = .ok (.iinc 1 1, 3) := by decide +kernel
theorem dX1_run_94 : decode cX1_run 94 = .ok (.goto (-35), 3) := by decide +kernel
theorem dX1_run_97 : decode cX1_run 97 = .ok (.aload_n 0, 1) := by decide +kernel
theorem dX1_run_98 : decode cX1_run 98 = .ok (.getfield 82, 3) := by decide +kernel
theorem dX1_run_101 : decode cX1_run 101 = .ok (.lreturn, 1) := by decide +kernel
theorem dX1_trySecond_0 : decode cX1_trySecond 0 = .ok (.iload_n 1, 1) := by decide +kernel
theorem dX1_trySecond_1 : decode cX1_trySecond 1 = .ok (.iconst 1, 1) := by decide +kernel
theorem dX1_trySecond_2 : decode cX1_trySecond 2 = .ok (.iadd, 1) := by decide +kernel
theorem dX1_trySecond_3 : decode cX1_trySecond 3 = .ok (.istore_n 3, 1) := by decide +kernel
theorem dX1_trySecond_4 : decode cX1_trySecond 4 = .ok (.iload_n 3, 1) := by decide +kernel
theorem dX1_trySecond_5 : decode cX1_trySecond 5 = .ok (.aload_n 0, 1) := by decide +kernel
theorem dX1_trySecond_6 : decode cX1_trySecond 6 = .ok (.getfield 40, 3) := by decide +kernel
theorem dX1_trySecond_9 : decode cX1_trySecond 9 = .ok (.if_icmp .ge 39, 3) := by decide +kernel
theorem dX1_trySecond_12 : decode cX1_trySecond 12 = .ok (.bipush (-3), 2) := by decide +kernel
theorem dX1_trySecond_14 : decode cX1_trySecond 14 = .ok (.istore 4, 2) := by decide +kernel
theorem dX1_trySecond_16 : decode cX1_trySecond 16 = .ok (.iload 4, 2) := by decide +kernel
theorem dX1_trySecond_18 : decode cX1_trySecond 18 = .ok (.iconst 3, 1) := by decide +kernel
theorem dX1_trySecond_19 : decode cX1_trySecond 19 = .ok (.if_icmp .gt 23, 3) := by decide +kernel
theorem dX1_trySecond_22 : decode cX1_trySecond 22 = .ok (.iload 4, 2) := by decide +kernel
theorem dX1_trySecond_24 : decode cX1_trySecond 24 = .ok (.ifCond .eq 12, 3) := by decide +kernel
theorem dX1_trySecond_27 : decode cX1_trySecond 27 = .ok (.aload_n 0, 1) := by decide +kernel
theorem dX1_trySecond_28 : decode cX1_trySecond 28 = .ok (.iload_n 1, 1) := by decide +kernel
theorem dX1_trySecond_29 : decode cX1_trySecond 29 = .ok (.iload_n 2, 1) := by decide +kernel
theorem dX1_trySecond_30 : decode cX1_trySecond 30 = .ok (.iload_n 3, 1) := by decide +kernel
theorem dX1_trySecond_31 : decode cX1_trySecond 31 = .ok (.iload 4, 2) := by decide +kernel
theorem dX1_trySecond_33 : decode cX1_trySecond 33 = .ok (.invokevirtual 74, 3) := by decide +kernel
theorem dX1_trySecond_36 : decode cX1_trySecond 36 = .ok (.iinc 4 1, 3) := by decide +kernel
theorem dX1_trySecond_39 : decode cX1_trySecond 39 = .ok (.goto (-23), 3) := by decide +kernel
theorem dX1_trySecond_42 : decode cX1_trySecond 42 = .ok (.iinc 3 1, 3) := by decide +kernel
theorem dX1_trySecond_45 : decode cX1_trySecond 45 = .ok (.goto (-41), 3) := by decide +kernel
theorem dX1_trySecond_48 : decode cX1_trySecond 48 = .ok (.return_, 1) := by decide +kernel
theorem dX1_tryOut_0 : decode cX1_tryOut 0 = .ok (.iconst 0, 1) := by decide +kernel
theorem dX1_tryOut_1 : decode cX1_tryOut 1 = .ok (.iload_n 1, 1) := by decide +kernel
theorem dX1_tryOut_2 : decode cX1_tryOut 2 = .ok (.invokestatic 85, 3) := by decide +kernel
theorem dX1_tryOut_5 : decode cX1_tryOut 5 = .ok (.bipush 36, 2) := by decide +kernel
theorem dX1_tryOut_7 : decode cX1_tryOut 7 = .ok (.imul, 1) := by decide +kernel
theorem dX1_tryOut_8 : decode cX1_tryOut 8 = .ok (.istore 5, 2) := by decide +kernel
theorem dX1_tryOut_10 : decode cX1_tryOut 10 = .ok (.iconst 0, 1) := by decide +kernel
theorem dX1_tryOut_11 : decode cX1_tryOut 11 = .ok (.iload_n 3, 1) := by decide +kernel
theorem dX1_tryOut_12 : decode cX1_tryOut 12 = .ok (.invokestatic 85, 3) := by decide +kernel
theorem dX1_tryOut_15 : decode cX1_tryOut 15 = .ok (.bipush 36, 2) := by decide +kernel
theorem dX1_tryOut_17 : decode cX1_tryOut 17 = .ok (.imul, 1) := by decide +kernel
theorem dX1_tryOut_18 : decode cX1_tryOut 18 = .ok (.istore 6, 2) := by decide +kernel
theorem dX1_tryOut_20 : decode cX1_tryOut 20 = .ok (.lconst 0, 1) := by decide +kernel
theorem dX1_tryOut_21 : decode cX1_tryOut 21 = .ok (.lstore 7, 2) := by decide +kernel
theorem dX1_tryOut_23 : decode cX1_tryOut 23 = .ok (.iconst 0, 1) := by decide +kernel
theorem dX1_tryOut_24 : decode cX1_tryOut 24 = .ok (.istore 9, 2) := by decide +kernel
theorem dX1_tryOut_26 : decode cX1_tryOut 26 = .ok (.iload 9, 2) := by decide +kernel
theorem dX1_tryOut_28 : decode cX1_tryOut 28 = .ok (.aload_n 0, 1) := by decide +kernel
theorem dX1_tryOut_29 : decode cX1_tryOut 29 = .ok (.getfield 18, 3) := by decide +kernel
theorem dX1_tryOut_32 : decode cX1_tryOut 32 = .ok (.if_icmp .ge 70, 3) := by decide +kernel
theorem dX1_tryOut_35 : decode cX1_tryOut 35 = .ok (.aload_n 0, 1) := by decide +kernel
theorem dX1_tryOut_36 : decode cX1_tryOut 36 = .ok (.getfield 9, 3) := by decide +kernel
theorem dX1_tryOut_39 : decode cX1_tryOut 39 = .ok (.iload 9, 2) := by decide +kernel
theorem dX1_tryOut_41 : decode cX1_tryOut 41 = .ok (.laload, 1) := by decide +kernel
theorem dX1_tryOut_42 : decode cX1_tryOut 42 = .ok (.iload_n 2, 1) := by decide +kernel
theorem dX1_tryOut_43 : decode cX1_tryOut 43 = .ok (.i2l, 1) := by decide +kernel
theorem dX1_tryOut_44 : decode cX1_tryOut 44 = .ok (.aload_n 0, 1) := by decide +kernel
theorem dX1_tryOut_45 : decode cX1_tryOut 45 = .ok (.getfield 15, 3) := by decide +kernel
theorem dX1_tryOut_48 : decode cX1_tryOut 48 = .ok (.iload 5, 2) := by decide +kernel
theorem dX1_tryOut_50 : decode cX1_tryOut 50 = .ok (.iload 9, 2) := by decide +kernel
theorem dX1_tryOut_52 : decode cX1_tryOut 52 = .ok (.iadd, 1) := by decide +kernel
theorem dX1_tryOut_53 : decode cX1_tryOut 53 = .ok (.laload, 1) := by decide +kernel
theorem dX1_tryOut_54 : decode cX1_tryOut 54 = .ok (.lmul, 1) := by decide +kernel
theorem dX1_tryOut_55 : decode cX1_tryOut 55 = .ok (.ladd, 1) := by decide +kernel
theorem dX1_tryOut_56 : decode cX1_tryOut 56 = .ok (.iload 4, 2) := by decide +kernel
theorem dX1_tryOut_58 : decode cX1_tryOut 58 = .ok (.i2l, 1) := by decide +kernel
theorem dX1_tryOut_59 : decode cX1_tryOut 59 = .ok (.aload_n 0, 1) := by decide +kernel
theorem dX1_tryOut_60 : decode cX1_tryOut 60 = .ok (.getfield 15, 3) := by decide +kernel
theorem dX1_tryOut_63 : decode cX1_tryOut 63 = .ok (.iload 6, 2) := by decide +kernel
theorem dX1_tryOut_65 : decode cX1_tryOut 65 = .ok (.iload 9, 2) := by decide +kernel
theorem dX1_tryOut_67 : decode cX1_tryOut 67 = .ok (.iadd, 1) := by decide +kernel
theorem dX1_tryOut_68 : decode cX1_tryOut 68 = .ok (.laload, 1) := by decide +kernel
theorem dX1_tryOut_69 : decode cX1_tryOut 69 = .ok (.lmul, 1) := by decide +kernel
theorem dX1_tryOut_70 : decode cX1_tryOut 70 = .ok (.ladd, 1) := by decide +kernel
theorem dX1_tryOut_71 : decode cX1_tryOut 71 = .ok (.invokestatic 88, 3) := by decide +kernel
theorem dX1_tryOut_74 : decode cX1_tryOut 74 = .ok (.lstore 10, 2) := by decide +kernel
theorem dX1_tryOut_76 : decode cX1_tryOut 76 = .ok (.lload 10, 2) := by decide +kernel
theorem dX1_tryOut_78 : decode cX1_tryOut 78 = .ok (.aload_n 0, 1) := by decide +kernel
theorem dX1_tryOut_79 : decode cX1_tryOut 79 = .ok (.getfield 70, 3) := by decide +kernel
theorem dX1_tryOut_82 : decode cX1_tryOut 82 = .ok (.lcmp, 1) := by decide +kernel
theorem dX1_tryOut_83 : decode cX1_tryOut 83 = .ok (.ifCond .lt 4, 3) := by decide +kernel
theorem dX1_tryOut_86 : decode cX1_tryOut 86 = .ok (.return_, 1) := by decide +kernel
theorem dX1_tryOut_87 : decode cX1_tryOut 87 = .ok (.lload 7, 2) := by decide +kernel
theorem dX1_tryOut_89 : decode cX1_tryOut 89 = .ok (.lload 10, 2) := by decide +kernel
theorem dX1_tryOut_91 : decode cX1_tryOut 91 = .ok (.invokestatic 92, 3) := by decide +kernel
theorem dX1_tryOut_94 : decode cX1_tryOut 94 = .ok (.lstore 7, 2) := by decide +kernel
theorem dX1_tryOut_96 : decode cX1_tryOut 96 = .ok (.iinc 9 1, 3) := by decide +kernel
theorem dX1_tryOut_99 : decode cX1_tryOut 99 = .ok (.goto (-73), 3) := by decide +kernel
theorem dX1_tryOut_102 : decode cX1_tryOut 102 = .ok (.aload_n 0, 1) := by decide +kernel
theorem dX1_tryOut_103 : decode cX1_tryOut 103 = .ok (.lload 7, 2) := by decide +kernel
theorem dX1_tryOut_105 : decode cX1_tryOut 105 = .ok (.putfield 70, 3) := by decide +kernel
theorem dX1_tryOut_108 : decode cX1_tryOut 108 = .ok (.aload_n 0, 1) := by decide +kernel
theorem dX1_tryOut_109 : decode cX1_tryOut 109 = .ok (.sipush 10000, 3) := by decide +kernel
theorem dX1_tryOut_112 : decode cX1_tryOut 112 = .ok (.iload_n 1, 1) := by decide +kernel
theorem dX1_tryOut_113 : decode cX1_tryOut 113 = .ok (.iconst 1, 1) := by decide +kernel
theorem dX1_tryOut_114 : decode cX1_tryOut 114 = .ok (.iadd, 1) := by decide +kernel
theorem dX1_tryOut_115 : decode cX1_tryOut 115 = .ok (.imul, 1) := by decide +kernel
theorem dX1_tryOut_116 : decode cX1_tryOut 116 = .ok (.sipush 1000, 3) := by decide +kernel
theorem dX1_tryOut_119 : decode cX1_tryOut 119 = .ok (.iload_n 2, 1) := by decide +kernel
theorem dX1_tryOut_120 : decode cX1_tryOut 120 = .ok (.iconst 3, 1) := by decide +kernel
theorem dX1_tryOut_121 : decode cX1_tryOut 121 = .ok (.iadd, 1) := by decide +kernel
theorem dX1_tryOut_122 : decode cX1_tryOut 122 = .ok (.imul, 1) := by decide +kernel
theorem dX1_tryOut_123 : decode cX1_tryOut 123 = .ok (.iadd, 1) := by decide +kernel
theorem dX1_tryOut_124 : decode cX1_tryOut 124 = .ok (.bipush 10, 2) := by decide +kernel
theorem dX1_tryOut_126 : decode cX1_tryOut 126 = .ok (.iload_n 3, 1) := by decide +kernel
theorem dX1_tryOut_127 : decode cX1_tryOut 127 = .ok (.iconst 1, 1) := by decide +kernel
theorem dX1_tryOut_128 : decode cX1_tryOut 128 = .ok (.iadd, 1) := by decide +kernel
theorem dX1_tryOut_129 : decode cX1_tryOut 129 = .ok (.imul, 1) := by decide +kernel
theorem dX1_tryOut_130 : decode cX1_tryOut 130 = .ok (.iadd, 1) := by decide +kernel
theorem dX1_tryOut_131 : decode cX1_tryOut 131 = .ok (.iload 4, 2) := by decide +kernel
theorem dX1_tryOut_133 : decode cX1_tryOut 133 = .ok (.iconst 3, 1) := by decide +kernel
theorem dX1_tryOut_134 : decode cX1_tryOut 134 = .ok (.iadd, 1) := by decide +kernel
theorem dX1_tryOut_135 : decode cX1_tryOut 135 = .ok (.iadd, 1) := by decide +kernel
theorem dX1_tryOut_136 : decode cX1_tryOut 136 = .ok (.i2l, 1) := by decide +kernel
theorem dX1_tryOut_137 : decode cX1_tryOut 137 = .ok (.putfield 82, 3) := by decide +kernel
theorem dX1_tryOut_140 : decode cX1_tryOut 140 = .ok (.return_, 1) := by decide +kernel
theorem dX2_within_0 : decode cX2_within 0 = .ok (.iload_n 0, 1) := by decide +kernel
theorem dX2_within_1 : decode cX2_within 1 = .ok (.iload_n 1, 1) := by decide +kernel
theorem dX2_within_2 : decode cX2_within 2 = .ok (.if_icmp .lt 12, 3) := by decide +kernel
theorem dX2_within_5 : decode cX2_within 5 = .ok (.iload_n 0, 1) := by decide +kernel
theorem dX2_within_6 : decode cX2_within 6 = .ok (.iload_n 2, 1) := by decide +kernel
theorem dX2_within_7 : decode cX2_within 7 = .ok (.if_icmp .gt 7, 3) := by decide +kernel
theorem dX2_within_10 : decode cX2_within 10 = .ok (.iconst 1, 1) := by decide +kernel
theorem dX2_within_11 : decode cX2_within 11 = .ok (.goto 4, 3) := by decide +kernel
theorem dX2_within_14 : decode cX2_within 14 = .ok (.iconst 0, 1) := by decide +kernel
theorem dX2_within_15 : decode cX2_within 15 = .ok (.ireturn, 1) := by decide +kernel
theorem dX2_lowest_0 : decode cX2_lowest 0 = .ok (.iload 4, 2) := by decide +kernel
theorem dX2_lowest_2 : decode cX2_lowest 2 = .ok (.ifCond .eq 7, 3) := by decide +kernel
theorem dX2_lowest_5 : decode cX2_lowest 5 = .ok (.lload_n 2, 1) := by decide +kernel
theorem dX2_lowest_6 : decode cX2_lowest 6 = .ok (.goto 4, 3) := by decide +kernel
theorem dX2_lowest_9 : decode cX2_lowest 9 = .ok (.lload_n 0, 1) := by decide +kernel
theorem dX2_lowest_10 : decode cX2_lowest 10 = .ok (.lstore 5, 2) := by decide +kernel
theorem dX2_lowest_12 : decode cX2_lowest 12 = .ok (.lload_n 0, 1) := by decide +kernel
theorem dX2_lowest_13 : decode cX2_lowest 13 = .ok (.invokestatic 7, 3) := by decide +kernel
theorem dX2_lowest_16 : decode cX2_lowest 16 = .ok (.lload_n 2, 1) := by decide +kernel
theorem dX2_lowest_17 : decode cX2_lowest 17 = .ok (.invokestatic 13, 3) := by decide +kernel
theorem dX2_lowest_20 : decode cX2_lowest 20 = .ok (.lstore 7, 2) := by decide +kernel
theorem dX2_lowest_22 : decode cX2_lowest 22 = .ok (.lload 7, 2) := by decide +kernel
theorem dX2_lowest_24 : decode cX2_lowest 24 = .ok (.lconst 1, 1) := by decide +kernel
theorem dX2_lowest_25 : decode cX2_lowest 25 = .ok (.lcmp, 1) := by decide +kernel
theorem dX2_lowest_26 : decode cX2_lowest 26 = .ok (.ifCond .le 11, 3) := by decide +kernel
theorem dX2_lowest_29 : decode cX2_lowest 29 = .ok (.lload 5, 2) := by decide +kernel
theorem dX2_lowest_31 : decode cX2_lowest 31 = .ok (.lload 7, 2) := by decide +kernel
theorem dX2_lowest_33 : decode cX2_lowest 33 = .ok (.ldiv, 1) := by decide +kernel
theorem dX2_lowest_34 : decode cX2_lowest 34 = .ok (.goto 5, 3) := by decide +kernel
theorem dX2_lowest_37 : decode cX2_lowest 37 = .ok (.lload 5, 2) := by decide +kernel
theorem dX2_lowest_39 : decode cX2_lowest 39 = .ok (.lreturn, 1) := by decide +kernel
theorem dX2_commonOf_0 : decode cX2_commonOf 0 = .ok (.iconst 0, 1) := by decide +kernel
theorem dX2_commonOf_1 : decode cX2_commonOf 1 = .ok (.istore 4, 2) := by decide +kernel
theorem dX2_commonOf_3 : decode cX2_commonOf 3 = .ok (.iload 4, 2) := by decide +kernel
theorem dX2_commonOf_5 : decode cX2_commonOf 5 = .ok (.bipush 100, 2) := by decide +kernel
theorem dX2_commonOf_7 : decode cX2_commonOf 7 = .ok (.if_icmp .ge 25, 3) := by decide +kernel
theorem dX2_commonOf_10 : decode cX2_commonOf 10 = .ok (.lload_n 2, 1) := by decide +kernel
theorem dX2_commonOf_11 : decode cX2_commonOf 11 = .ok (.lconst 0, 1) := by decide +kernel
theorem dX2_commonOf_12 : decode cX2_commonOf 12 = .ok (.lcmp, 1) := by decide +kernel
theorem dX2_commonOf_13 : decode cX2_commonOf 13 = .ok (.ifCond .eq 19, 3) := by decide +kernel
theorem dX2_commonOf_16 : decode cX2_commonOf 16 = .ok (.lload_n 0, 1) := by decide +kernel
theorem dX2_commonOf_17 : decode cX2_commonOf 17 = .ok (.lload_n 2, 1) := by decide +kernel
theorem dX2_commonOf_18 : decode cX2_commonOf 18 = .ok (.lrem, 1) := by decide +kernel
theorem dX2_commonOf_19 : decode cX2_commonOf 19 = .ok (.lstore 5, 2) := by decide +kernel
theorem dX2_commonOf_21 : decode cX2_commonOf 21 = .ok (.lload_n 2, 1) := by decide +kernel
theorem dX2_commonOf_22 : decode cX2_commonOf 22 = .ok (.lstore_n 0, 1) := by decide +kernel
theorem dX2_commonOf_23 : decode cX2_commonOf 23 = .ok (.lload 5, 2) := by decide +kernel
theorem dX2_commonOf_25 : decode cX2_commonOf 25 = .ok (.lstore_n 2, 1) := by decide +kernel
theorem dX2_commonOf_26 : decode cX2_commonOf 26 = .ok (.iinc 4 1, 3) := by decide +kernel
theorem dX2_commonOf_29 : decode cX2_commonOf 29 = .ok (.goto (-26), 3) := by decide +kernel
theorem dX2_commonOf_32 : decode cX2_commonOf 32 = .ok (.lload_n 0, 1) := by decide +kernel
theorem dX2_commonOf_33 : decode cX2_commonOf 33 = .ok (.lreturn, 1) := by decide +kernel
theorem dX2_order_0 : decode cX2_order 0 = .ok (.iconst 0, 1) := by decide +kernel
theorem dX2_order_1 : decode cX2_order 1 = .ok (.istore 8, 2) := by decide +kernel
theorem dX2_order_3 : decode cX2_order 3 = .ok (.iload 8, 2) := by decide +kernel
theorem dX2_order_5 : decode cX2_order 5 = .ok (.bipush 100, 2) := by decide +kernel
theorem dX2_order_7 : decode cX2_order 7 = .ok (.if_icmp .ge 107, 3) := by decide +kernel
theorem dX2_order_10 : decode cX2_order 10 = .ok (.lload_n 2, 1) := by decide +kernel
theorem dX2_order_11 : decode cX2_order 11 = .ok (.lconst 0, 1) := by decide +kernel
theorem dX2_order_12 : decode cX2_order 12 = .ok (.lcmp, 1) := by decide +kernel
theorem dX2_order_13 : decode cX2_order 13 = .ok (.ifCond .le 101, 3) := by decide +kernel
theorem dX2_order_16 : decode cX2_order 16 = .ok (.lload 6, 2) := by decide +kernel
theorem dX2_order_18 : decode cX2_order 18 = .ok (.lconst 0, 1) := by decide +kernel
theorem dX2_order_19 : decode cX2_order 19 = .ok (.lcmp, 1) := by decide +kernel
theorem dX2_order_20 : decode cX2_order 20 = .ok (.ifCond .le 94, 3) := by decide +kernel
theorem dX2_order_23 : decode cX2_order 23 = .ok (.lload_n 0, 1) := by decide +kernel
theorem dX2_order_24 : decode cX2_order 24 = .ok (.lload_n 2, 1) := by decide +kernel
theorem dX2_order_25 : decode cX2_order 25 = .ok (.invokestatic 19, 3) := by decide +kernel
theorem dX2_order_28 : decode cX2_order 28 = .ok (.lstore 9, 2) := by decide +kernel
theorem dX2_order_30 : decode cX2_order 30 = .ok (.lload 4, 2) := by decide +kernel
theorem dX2_order_32 : decode cX2_order 32 = .ok (.lload 6, 2) := by decide +kernel
theorem dX2_order_34 : decode cX2_order 34 = .ok (.invokestatic 19, 3) := by decide +kernel
theorem dX2_order_37 : decode cX2_order 37 = .ok (.lstore 11, 2) := by decide +kernel
theorem dX2_order_39 : decode cX2_order 39 = .ok (.lload 9, 2) := by decide +kernel
theorem dX2_order_41 : decode cX2_order 41 = .ok (.lload 11, 2) := by decide +kernel
theorem dX2_order_43 : decode cX2_order 43 = .ok (.lcmp, 1) := by decide +kernel
theorem dX2_order_44 : decode cX2_order 44 = .ok (.ifCond .eq 11, 3) := by decide +kernel
theorem dX2_order_47 : decode cX2_order 47 = .ok (.lload 9, 2) := by decide +kernel
theorem dX2_order_49 : decode cX2_order 49 = .ok (.lload 11, 2) := by decide +kernel
theorem dX2_order_51 : decode cX2_order 51 = .ok (.invokestatic 22, 3) := by decide +kernel
theorem dX2_order_54 : decode cX2_order 54 = .ok (.ireturn, 1) := by decide +kernel
theorem dX2_order_55 : decode cX2_order 55 = .ok (.lload_n 0, 1) := by decide +kernel
theorem dX2_order_56 : decode cX2_order 56 = .ok (.lload 9, 2) := by decide +kernel
theorem dX2_order_58 : decode cX2_order 58 = .ok (.lload_n 2, 1) := by decide +kernel
theorem dX2_order_59 : decode cX2_order 59 = .ok (.lmul, 1) := by decide +kernel
theorem dX2_order_60 : decode cX2_order 60 = .ok (.lsub, 1) := by decide +kernel
theorem dX2_order_61 : decode cX2_order 61 = .ok (.lstore 13, 2) := by decide +kernel
theorem dX2_order_63 : decode cX2_order 63 = .ok (.lload 4, 2) := by decide +kernel
theorem dX2_order_65 : decode cX2_order 65 = .ok (.lload 11, 2) := by decide +kernel
theorem dX2_order_67 : decode cX2_order 67 = .ok (.lload 6, 2) := by decide +kernel
theorem dX2_order_69 : decode cX2_order 69 = .ok (.lmul, 1) := by decide +kernel
theorem dX2_order_70 : decode cX2_order 70 = .ok (.lsub, 1) := by decide +kernel
theorem dX2_order_71 : decode cX2_order 71 = .ok (.lstore 15, 2) := by decide +kernel
theorem dX2_order_73 : decode cX2_order 73 = .ok (.lload 13, 2) := by decide +kernel
theorem dX2_order_75 : decode cX2_order 75 = .ok (.lconst 0, 1) := by decide +kernel
theorem dX2_order_76 : decode cX2_order 76 = .ok (.lcmp, 1) := by decide +kernel
theorem dX2_order_77 : decode cX2_order 77 = .ok (.ifCond .eq 10, 3) := by decide +kernel
theorem dX2_order_80 : decode cX2_order 80 = .ok (.lload 15, 2) := by decide +kernel
theorem dX2_order_82 : decode cX2_order 82 = .ok (.lconst 0, 1) := by decide +kernel
theorem dX2_order_83 : decode cX2_order 83 = .ok (.lcmp, 1) := by decide +kernel
theorem dX2_order_84 : decode cX2_order 84 = .ok (.ifCond .ne 11, 3) := by decide +kernel
theorem dX2_order_87 : decode cX2_order 87 = .ok (.lload 13, 2) := by decide +kernel
theorem dX2_order_89 : decode cX2_order 89 = .ok (.lload 15, 2) := by decide +kernel
theorem dX2_order_91 : decode cX2_order 91 = .ok (.invokestatic 22, 3) := by decide +kernel
theorem dX2_order_94 : decode cX2_order 94 = .ok (.ireturn, 1) := by decide +kernel
theorem dX2_order_95 : decode cX2_order 95 = .ok (.lload 6, 2) := by decide +kernel
theorem dX2_order_97 : decode cX2_order 97 = .ok (.lstore_n 0, 1) := by decide +kernel
theorem dX2_order_98 : decode cX2_order 98 = .ok (.lload_n 2, 1) := by decide +kernel
theorem dX2_order_99 : decode cX2_order 99 = .ok (.lstore 4, 2) := by decide +kernel
theorem dX2_order_101 : decode cX2_order 101 = .ok (.lload 15, 2) := by decide +kernel
theorem dX2_order_103 : decode cX2_order 103 = .ok (.lstore_n 2, 1) := by decide +kernel
theorem dX2_order_104 : decode cX2_order 104 = .ok (.lload 13, 2) := by decide +kernel
theorem dX2_order_106 : decode cX2_order 106 = .ok (.lstore 6, 2) := by decide +kernel
theorem dX2_order_108 : decode cX2_order 108 = .ok (.iinc 8 1, 3) := by decide +kernel
theorem dX2_order_111 : decode cX2_order 111 = .ok (.goto (-108), 3) := by decide +kernel
theorem dX2_order_114 : decode cX2_order 114 = .ok (.iconst 0, 1) := by decide +kernel
theorem dX2_order_115 : decode cX2_order 115 = .ok (.ireturn, 1) := by decide +kernel
theorem dX3_init_0 : decode cX3_init 0 = .ok (.aload_n 0, 1) := by decide +kernel
theorem dX3_init_1 : decode cX3_init 1 = .ok (.invokespecial 1, 3) := by decide +kernel
theorem dX3_init_4 : decode cX3_init 4 = .ok (.iconst 0, 1) := by decide +kernel
theorem dX3_init_5 : decode cX3_init 5 = .ok (.iload_n 1, 1) := by decide +kernel
theorem dX3_init_6 : decode cX3_init 6 = .ok (.invokestatic 7, 3) := by decide +kernel
theorem dX3_init_9 : decode cX3_init 9 = .ok (.istore_n 2, 1) := by decide +kernel
theorem dX3_init_10 : decode cX3_init 10 = .ok (.aload_n 0, 1) := by decide +kernel
theorem dX3_init_11 : decode cX3_init 11 = .ok (.iload_n 2, 1) := by decide +kernel
theorem dX3_init_12 : decode cX3_init 12 = .ok (.newarray .int, 2) := by decide +kernel
theorem dX3_init_14 : decode cX3_init 14 = .ok (.putfield 13, 3) := by decide +kernel
theorem dX3_init_17 : decode cX3_init 17 = .ok (.aload_n 0, 1) := by decide +kernel
theorem dX3_init_18 : decode cX3_init 18 = .ok (.iload_n 2, 1) := by decide +kernel
theorem dX3_init_19 : decode cX3_init 19 = .ok (.newarray .int, 2) := by decide +kernel
theorem dX3_init_21 : decode cX3_init 21 = .ok (.putfield 19, 3) := by decide +kernel
theorem dX3_init_24 : decode cX3_init 24 = .ok (.return_, 1) := by decide +kernel
theorem dX3_length_0 : decode cX3_length 0 = .ok (.aload_n 0, 1) := by decide +kernel
theorem dX3_length_1 : decode cX3_length 1 = .ok (.getfield 22, 3) := by decide +kernel
theorem dX3_length_4 : decode cX3_length 4 = .ok (.ireturn, 1) := by decide +kernel
theorem dX3_has_0 : decode cX3_has 0 = .ok (.iload_n 1, 1) := by decide +kernel
theorem dX3_has_1 : decode cX3_has 1 = .ok (.ifCond .lt 15, 3) := by decide +kernel
theorem dX3_has_4 : decode cX3_has 4 = .ok (.iload_n 1, 1) := by decide +kernel
theorem dX3_has_5 : decode cX3_has 5 = .ok (.aload_n 0, 1) := by decide +kernel
theorem dX3_has_6 : decode cX3_has 6 = .ok (.getfield 22, 3) := by decide +kernel
theorem dX3_has_9 : decode cX3_has 9 = .ok (.if_icmp .ge 7, 3) := by decide +kernel
theorem dX3_has_12 : decode cX3_has 12 = .ok (.iconst 1, 1) := by decide +kernel
theorem dX3_has_13 : decode cX3_has 13 = .ok (.goto 4, 3) := by decide +kernel
theorem dX3_has_16 : decode cX3_has 16 = .ok (.iconst 0, 1) := by decide +kernel
theorem dX3_has_17 : decode cX3_has 17 = .ok (.ireturn, 1) := by decide +kernel
theorem dX3_isFull_0 : decode cX3_isFull 0 = .ok (.aload_n 0, 1) := by decide +kernel
theorem dX3_isFull_1 : decode cX3_isFull 1 = .ok (.getfield 22, 3) := by decide +kernel
theorem dX3_isFull_4 : decode cX3_isFull 4 = .ok (.aload_n 0, 1) := by decide +kernel
theorem dX3_isFull_5 : decode cX3_isFull 5 = .ok (.getfield 13, 3) := by decide +kernel
theorem dX3_isFull_8 : decode cX3_isFull 8 = .ok (.arraylength, 1) := by decide +kernel
theorem dX3_isFull_9 : decode cX3_isFull 9 = .ok (.if_icmp .lt 7, 3) := by decide +kernel
theorem dX3_isFull_12 : decode cX3_isFull 12 = .ok (.iconst 1, 1) := by decide +kernel
theorem dX3_isFull_13 : decode cX3_isFull 13 = .ok (.goto 4, 3) := by decide +kernel
theorem dX3_isFull_16 : decode cX3_isFull 16 = .ok (.iconst 0, 1) := by decide +kernel
theorem dX3_isFull_17 : decode cX3_isFull 17 = .ok (.ireturn, 1) := by decide +kernel
theorem dX3_first_0 : decode cX3_first 0 = .ok (.aload_n 0, 1) := by decide +kernel
theorem dX3_first_1 : decode cX3_first 1 = .ok (.iload_n 1, 1) := by decide +kernel
theorem dX3_first_2 : decode cX3_first 2 = .ok (.invokevirtual 26, 3) := by decide +kernel
theorem dX3_first_5 : decode cX3_first 5 = .ok (.ifCond .eq 12, 3) := by decide +kernel
theorem dX3_first_8 : decode cX3_first 8 = .ok (.aload_n 0, 1) := by decide +kernel
theorem dX3_first_9 : decode cX3_first 9 = .ok (.getfield 13, 3) := by decide +kernel
theorem dX3_first_12 : decode cX3_first 12 = .ok (.iload_n 1, 1) := by decide +kernel
theorem dX3_first_13 : decode cX3_first 13 = .ok (.iaload, 1) := by decide +kernel
theorem dX3_first_14 : decode cX3_first 14 = .ok (.goto 4, 3) := by decide +kernel
theorem dX3_first_17 : decode cX3_first 17 = .ok (.iconst 0, 1) := by decide +kernel
theorem dX3_first_18 : decode cX3_first 18 = .ok (.ireturn, 1) := by decide +kernel
theorem dX3_second_0 : decode cX3_second 0 = .ok (.aload_n 0, 1) := by decide +kernel
theorem dX3_second_1 : decode cX3_second 1 = .ok (.iload_n 1, 1) := by decide +kernel
theorem dX3_second_2 : decode cX3_second 2 = .ok (.invokevirtual 26, 3) := by decide +kernel
theorem dX3_second_5 : decode cX3_second 5 = .ok (.ifCond .eq 12, 3) := by decide +kernel
theorem dX3_second_8 : decode cX3_second 8 = .ok (.aload_n 0, 1) := by decide +kernel
theorem dX3_second_9 : decode cX3_second 9 = .ok (.getfield 19, 3) := by decide +kernel
theorem dX3_second_12 : decode cX3_second 12 = .ok (.iload_n 1, 1) := by decide +kernel
theorem dX3_second_13 : decode cX3_second 13 = .ok (.iaload, 1) := by decide +kernel
theorem dX3_second_14 : decode cX3_second 14 = .ok (.goto 4, 3) := by decide +kernel
theorem dX3_second_17 : decode cX3_second 17 = .ok (.iconst 0, 1) := by decide +kernel
theorem dX3_second_18 : decode cX3_second 18 = .ok (.ireturn, 1) := by decide +kernel
theorem dX3_append_0 : decode cX3_append 0 = .ok (.aload_n 0, 1) := by decide +kernel
theorem dX3_append_1 : decode cX3_append 1 = .ok (.invokevirtual 30, 3) := by decide +kernel
theorem dX3_append_4 : decode cX3_append 4 = .ok (.ifCond .ne 33, 3) := by decide +kernel
theorem dX3_append_7 : decode cX3_append 7 = .ok (.aload_n 0, 1) := by decide +kernel
theorem dX3_append_8 : decode cX3_append 8 = .ok (.getfield 13, 3) := by decide +kernel
theorem dX3_append_11 : decode cX3_append 11 = .ok (.aload_n 0, 1) := by decide +kernel
theorem dX3_append_12 : decode cX3_append 12 = .ok (.getfield 22, 3) := by decide +kernel
theorem dX3_append_15 : decode cX3_append 15 = .ok (.iload_n 1, 1) := by decide +kernel
theorem dX3_append_16 : decode cX3_append 16 = .ok (.iastore, 1) := by decide +kernel
theorem dX3_append_17 : decode cX3_append 17 = .ok (.aload_n 0, 1) := by decide +kernel
theorem dX3_append_18 : decode cX3_append 18 = .ok (.getfield 19, 3) := by decide +kernel
theorem dX3_append_21 : decode cX3_append 21 = .ok (.aload_n 0, 1) := by decide +kernel
theorem dX3_append_22 : decode cX3_append 22 = .ok (.getfield 22, 3) := by decide +kernel
theorem dX3_append_25 : decode cX3_append 25 = .ok (.iload_n 2, 1) := by decide +kernel
theorem dX3_append_26 : decode cX3_append 26 = .ok (.iastore, 1) := by decide +kernel
theorem dX3_append_27 : decode cX3_append 27 = .ok (.aload_n 0, 1) := by decide +kernel
theorem dX3_append_28 : decode cX3_append 28 = .ok (.dup, 1) := by decide +kernel
theorem dX3_append_29 : decode cX3_append 29 = .ok (.getfield 22, 3) := by decide +kernel
theorem dX3_append_32 : decode cX3_append 32 = .ok (.iconst 1, 1) := by decide +kernel
