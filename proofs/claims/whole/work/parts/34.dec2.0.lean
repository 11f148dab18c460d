theorem d_Rs_init_0 : decode prog_1_method_1_code 0 = .ok (.aload_n 0, 1) := by decide +kernel
theorem d_Rs_init_1 : decode prog_1_method_1_code 1 = .ok (.invokespecial 1, 3) := by decide +kernel
theorem d_Rs_init_4 : decode prog_1_method_1_code 4 = .ok (.aload_n 0, 1) := by decide +kernel
theorem d_Rs_init_5 : decode prog_1_method_1_code 5 = .ok (.new 7, 3) := by decide +kernel
theorem d_Rs_init_8 : decode prog_1_method_1_code 8 = .ok (.dup, 1) := by decide +kernel
theorem d_Rs_init_9 : decode prog_1_method_1_code 9 = .ok (.invokespecial 9, 3) := by decide +kernel
theorem d_Rs_init_12 : decode prog_1_method_1_code 12 = .ok (.putfield 10, 3) := by decide +kernel
theorem d_Rs_init_15 : decode prog_1_method_1_code 15 = .ok (.aload_n 0, 1) := by decide +kernel
theorem d_Rs_init_16 : decode prog_1_method_1_code 16 = .ok (.bipush 6, 2) := by decide +kernel
theorem d_Rs_init_18 : decode prog_1_method_1_code 18 = .ok (.anewarray 16, 3) := by decide +kernel
theorem d_Rs_init_21 : decode prog_1_method_1_code 21 = .ok (.putfield 18, 3) := by decide +kernel
theorem d_Rs_init_24 : decode prog_1_method_1_code 24 = .ok (.aload_n 0, 1) := by decide +kernel
theorem d_Rs_init_25 : decode prog_1_method_1_code 25 = .ok (.new 22, 3) := by decide +kernel
theorem d_Rs_init_28 : decode prog_1_method_1_code 28 = .ok (.dup, 1) := by decide +kernel
theorem d_Rs_init_29 : decode prog_1_method_1_code 29 = .ok (.invokespecial 24, 3) := by decide +kernel
theorem d_Rs_init_32 : decode prog_1_method_1_code 32 = .ok (.putfield 25, 3) := by decide +kernel
theorem d_Rs_init_35 : decode prog_1_method_1_code 35 = .ok (.aload_n 0, 1) := by decide +kernel
theorem d_Rs_init_36 : decode prog_1_method_1_code 36 = .ok (.new 29, 3) := by decide +kernel
theorem d_Rs_init_39 : decode prog_1_method_1_code 39 = .ok (.dup, 1) := by decide +kernel
theorem d_Rs_init_40 : decode prog_1_method_1_code 40 = .ok (.invokespecial 31, 3) := by decide +kernel
theorem d_Rs_init_43 : decode prog_1_method_1_code 43 = .ok (.putfield 32, 3) := by decide +kernel
theorem d_Rs_init_46 : decode prog_1_method_1_code 46 = .ok (.aload_n 0, 1) := by decide +kernel
theorem d_Rs_init_47 : decode prog_1_method_1_code 47 = .ok (.new 36, 3) := by decide +kernel
theorem d_Rs_init_50 : decode prog_1_method_1_code 50 = .ok (.dup, 1) := by decide +kernel
theorem d_Rs_init_51 : decode prog_1_method_1_code 51 = .ok (.ldc 38, 2) := by decide +kernel
theorem d_Rs_init_53 : decode prog_1_method_1_code 53 = .ok (.invokespecial 40, 3) := by decide +kernel
theorem d_Rs_init_56 : decode prog_1_method_1_code 56 = .ok (.putfield 43, 3) := by decide +kernel
theorem d_Rs_init_59 : decode prog_1_method_1_code 59 = .ok (.aload_n 0, 1) := by decide +kernel
theorem d_Rs_init_60 : decode prog_1_method_1_code 60 = .ok (.iconst 0, 1) := by decide +kernel
theorem d_Rs_init_61 : decode prog_1_method_1_code 61 = .ok (.putfield 47, 3) := by decide +kernel
theorem d_Rs_init_64 : decode prog_1_method_1_code 64 = .ok (.aload_n 0, 1) := by decide +kernel
theorem d_Rs_init_65 : decode prog_1_method_1_code 65 = .ok (.bipush 6, 2) := by decide +kernel
theorem d_Rs_init_67 : decode prog_1_method_1_code 67 = .ok (.newarray .int, 2) := by decide +kernel
theorem d_Rs_init_69 : decode prog_1_method_1_code 69 = .ok (.putfield 51, 3) := by decide +kernel
theorem d_Rs_init_72 : decode prog_1_method_1_code 72 = .ok (.aload_n 0, 1) := by decide +kernel
theorem d_Rs_init_73 : decode prog_1_method_1_code 73 = .ok (.iconst 0, 1) := by decide +kernel
theorem d_Rs_init_74 : decode prog_1_method_1_code 74 = .ok (.putfield 55, 3) := by decide +kernel
theorem d_Rs_init_77 : decode prog_1_method_1_code 77 = .ok (.iconst 0, 1) := by decide +kernel
theorem d_Rs_init_78 : decode prog_1_method_1_code 78 = .ok (.istore_n 1, 1) := by decide +kernel
theorem d_Rs_init_79 : decode prog_1_method_1_code 79 = .ok (.iload_n 1, 1) := by decide +kernel
theorem d_Rs_init_80 : decode prog_1_method_1_code 80 = .ok (.bipush 6, 2) := by decide +kernel
theorem d_Rs_init_82 : decode prog_1_method_1_code 82 = .ok (.if_icmp .ge 22, 3) := by decide +kernel
theorem d_Rs_init_85 : decode prog_1_method_1_code 85 = .ok (.aload_n 0, 1) := by decide +kernel
theorem d_Rs_init_86 : decode prog_1_method_1_code 86 = .ok (.getfield 18, 3) := by decide +kernel
theorem d_Rs_init_89 : decode prog_1_method_1_code 89 = .ok (.iload_n 1, 1) := by decide +kernel
theorem d_Rs_init_90 : decode prog_1_method_1_code 90 = .ok (.new 16, 3) := by decide +kernel
theorem d_Rs_init_93 : decode prog_1_method_1_code 93 = .ok (.dup, 1) := by decide +kernel
theorem d_Rs_init_94 : decode prog_1_method_1_code 94 = .ok (.invokespecial 59, 3) := by decide +kernel
theorem d_Rs_init_97 : decode prog_1_method_1_code 97 = .ok (.aastore, 1) := by decide +kernel
theorem d_Rs_init_98 : decode prog_1_method_1_code 98 = .ok (.iinc 1 1, 3) := by decide +kernel
theorem d_Rs_init_101 : decode prog_1_method_1_code 101 = .ok (.goto (-22), 3) := by decide +kernel
theorem d_Rs_init_104 : decode prog_1_method_1_code 104 = .ok (.aload_n 0, 1) := by decide +kernel
theorem d_Rs_init_105 : decode prog_1_method_1_code 105 = .ok (.getfield 51, 3) := by decide +kernel
theorem d_Rs_init_108 : decode prog_1_method_1_code 108 = .ok (.bipush (-4), 2) := by decide +kernel
theorem d_Rs_init_110 : decode prog_1_method_1_code 110 = .ok (.invokestatic 60, 3) := by decide +kernel
theorem d_Rs_init_113 : decode prog_1_method_1_code 113 = .ok (.return_, 1) := by decide +kernel
theorem d_Rs_isSeparator_0 : decode prog_1_method_22_code 0 = .ok (.iload_n 0, 1) := by decide +kernel
theorem d_Rs_isSeparator_1 : decode prog_1_method_22_code 1 = .ok (.bipush 46, 2) := by decide +kernel
theorem d_Rs_isSeparator_3 : decode prog_1_method_22_code 3 = .ok (.if_icmp .eq 9, 3) := by decide +kernel
theorem d_Rs_isSeparator_6 : decode prog_1_method_22_code 6 = .ok (.iload_n 0, 1) := by decide +kernel
theorem d_Rs_isSeparator_7 : decode prog_1_method_22_code 7 = .ok (.bipush 45, 2) := by decide +kernel
theorem d_Rs_isSeparator_9 : decode prog_1_method_22_code 9 = .ok (.if_icmp .ne 7, 3) := by decide +kernel
theorem d_Rs_isSeparator_12 : decode prog_1_method_22_code 12 = .ok (.iconst 1, 1) := by decide +kernel
theorem d_Rs_isSeparator_13 : decode prog_1_method_22_code 13 = .ok (.goto 4, 3) := by decide +kernel
theorem d_Rs_isSeparator_16 : decode prog_1_method_22_code 16 = .ok (.iconst 0, 1) := by decide +kernel
theorem d_Rs_isSeparator_17 : decode prog_1_method_22_code 17 = .ok (.ireturn, 1) := by decide +kernel
theorem d_Rs_isDigit_0 : decode prog_1_method_21_code 0 = .ok (.iload_n 0, 1) := by decide +kernel
theorem d_Rs_isDigit_1 : decode prog_1_method_21_code 1 = .ok (.bipush 48, 2) := by decide +kernel
theorem d_Rs_isDigit_3 : decode prog_1_method_21_code 3 = .ok (.if_icmp .lt 13, 3) := by decide +kernel
theorem d_Rs_isDigit_6 : decode prog_1_method_21_code 6 = .ok (.iload_n 0, 1) := by decide +kernel
theorem d_Rs_isDigit_7 : decode prog_1_method_21_code 7 = .ok (.bipush 57, 2) := by decide +kernel
theorem d_Rs_isDigit_9 : decode prog_1_method_21_code 9 = .ok (.if_icmp .gt 7, 3) := by decide +kernel
theorem d_Rs_isDigit_12 : decode prog_1_method_21_code 12 = .ok (.iconst 1, 1) := by decide +kernel
theorem d_Rs_isDigit_13 : decode prog_1_method_21_code 13 = .ok (.goto 4, 3) := by decide +kernel
theorem d_Rs_isDigit_16 : decode prog_1_method_21_code 16 = .ok (.iconst 0, 1) := by decide +kernel
theorem d_Rs_isDigit_17 : decode prog_1_method_21_code 17 = .ok (.ireturn, 1) := by decide +kernel
theorem d_Rs_isLetter_0 : decode prog_1_method_20_code 0 = .ok (.iload_n 0, 1) := by decide +kernel
theorem d_Rs_isLetter_1 : decode prog_1_method_20_code 1 = .ok (.bipush 97, 2) := by decide +kernel
theorem d_Rs_isLetter_3 : decode prog_1_method_20_code 3 = .ok (.if_icmp .lt 13, 3) := by decide +kernel
theorem d_Rs_isLetter_6 : decode prog_1_method_20_code 6 = .ok (.iload_n 0, 1) := by decide +kernel
theorem d_Rs_isLetter_7 : decode prog_1_method_20_code 7 = .ok (.bipush 122, 2) := by decide +kernel
theorem d_Rs_isLetter_9 : decode prog_1_method_20_code 9 = .ok (.if_icmp .gt 7, 3) := by decide +kernel
theorem d_Rs_isLetter_12 : decode prog_1_method_20_code 12 = .ok (.iconst 1, 1) := by decide +kernel
theorem d_Rs_isLetter_13 : decode prog_1_method_20_code 13 = .ok (.goto 4, 3) := by decide +kernel
theorem d_Rs_isLetter_16 : decode prog_1_method_20_code 16 = .ok (.iconst 0, 1) := by decide +kernel
theorem d_Rs_isLetter_17 : decode prog_1_method_20_code 17 = .ok (.ireturn, 1) := by decide +kernel
theorem d_Rs_write_0 : decode prog_1_method_2_code 0 = .ok (.iload_n 1, 1) := by decide +kernel
theorem d_Rs_write_1 : decode prog_1_method_2_code 1 = .ok (.invokestatic 66, 3) := by decide +kernel
theorem d_Rs_write_4 : decode prog_1_method_2_code 4 = .ok (.ifCond .eq 25, 3) := by decide +kernel
theorem d_Rs_write_7 : decode prog_1_method_2_code 7 = .ok (.iload_n 2, 1) := by decide +kernel
theorem d_Rs_write_8 : decode prog_1_method_2_code 8 = .ok (.invokestatic 66, 3) := by decide +kernel
theorem d_Rs_write_11 : decode prog_1_method_2_code 11 = .ok (.ifCond .eq 18, 3) := by decide +kernel
theorem d_Rs_write_14 : decode prog_1_method_2_code 14 = .ok (.iload_n 3, 1) := by decide +kernel
theorem d_Rs_write_15 : decode prog_1_method_2_code 15 = .ok (.invokestatic 66, 3) := by decide +kernel
theorem d_Rs_write_18 : decode prog_1_method_2_code 18 = .ok (.ifCond .eq 11, 3) := by decide +kernel
theorem d_Rs_write_21 : decode prog_1_method_2_code 21 = .ok (.iload 4, 2) := by decide +kernel
theorem d_Rs_write_23 : decode prog_1_method_2_code 23 = .ok (.invokestatic 66, 3) := by decide +kernel
theorem d_Rs_write_26 : decode prog_1_method_2_code 26 = .ok (.ifCond .ne 5, 3) := by decide +kernel
theorem d_Rs_write_29 : decode prog_1_method_2_code 29 = .ok (.iconst (-1), 1) := by decide +kernel
theorem d_Rs_write_30 : decode prog_1_method_2_code 30 = .ok (.ireturn, 1) := by decide +kernel
theorem d_Rs_write_31 : decode prog_1_method_2_code 31 = .ok (.aload_n 0, 1) := by decide +kernel
theorem d_Rs_write_32 : decode prog_1_method_2_code 32 = .ok (.getfield 10, 3) := by decide +kernel
theorem d_Rs_write_35 : decode prog_1_method_2_code 35 = .ok (.invokevirtual 70, 3) := by decide +kernel
theorem d_Rs_write_38 : decode prog_1_method_2_code 38 = .ok (.iload_n 1, 1) := by decide +kernel
theorem d_Rs_write_39 : decode prog_1_method_2_code 39 = .ok (.invokestatic 74, 3) := by decide +kernel
theorem d_Rs_write_42 : decode prog_1_method_2_code 42 = .ok (.iadd, 1) := by decide +kernel
theorem d_Rs_write_43 : decode prog_1_method_2_code 43 = .ok (.iload_n 2, 1) := by decide +kernel
theorem d_Rs_write_44 : decode prog_1_method_2_code 44 = .ok (.invokestatic 74, 3) := by decide +kernel
theorem d_Rs_write_47 : decode prog_1_method_2_code 47 = .ok (.iadd, 1) := by decide +kernel
theorem d_Rs_write_48 : decode prog_1_method_2_code 48 = .ok (.iload_n 3, 1) := by decide +kernel
theorem d_Rs_write_49 : decode prog_1_method_2_code 49 = .ok (.invokestatic 74, 3) := by decide +kernel
theorem d_Rs_write_52 : decode prog_1_method_2_code 52 = .ok (.iadd, 1) := by decide +kernel
theorem d_Rs_write_53 : decode prog_1_method_2_code 53 = .ok (.iload 4, 2) := by decide +kernel
theorem d_Rs_write_55 : decode prog_1_method_2_code 55 = .ok (.invokestatic 74, 3) := by decide +kernel
theorem d_Rs_write_58 : decode prog_1_method_2_code 58 = .ok (.iadd, 1) := by decide +kernel
theorem d_Rs_write_59 : decode prog_1_method_2_code 59 = .ok (.bipush 24, 2) := by decide +kernel
theorem d_Rs_write_61 : decode prog_1_method_2_code 61 = .ok (.if_icmp .le 6, 3) := by decide +kernel
theorem d_Rs_write_64 : decode prog_1_method_2_code 64 = .ok (.bipush (-2), 2) := by decide +kernel
theorem d_Rs_write_66 : decode prog_1_method_2_code 66 = .ok (.ireturn, 1) := by decide +kernel
theorem d_Rs_write_67 : decode prog_1_method_2_code 67 = .ok (.aload_n 0, 1) := by decide +kernel
theorem d_Rs_write_68 : decode prog_1_method_2_code 68 = .ok (.iload_n 1, 1) := by decide +kernel
theorem d_Rs_write_69 : decode prog_1_method_2_code 69 = .ok (.invokevirtual 78, 3) := by decide +kernel
theorem d_Rs_write_72 : decode prog_1_method_2_code 72 = .ok (.aload_n 0, 1) := by decide +kernel
theorem d_Rs_write_73 : decode prog_1_method_2_code 73 = .ok (.iload_n 2, 1) := by decide +kernel
theorem d_Rs_write_74 : decode prog_1_method_2_code 74 = .ok (.invokevirtual 78, 3) := by decide +kernel
theorem d_Rs_write_77 : decode prog_1_method_2_code 77 = .ok (.aload_n 0, 1) := by decide +kernel
theorem d_Rs_write_78 : decode prog_1_method_2_code 78 = .ok (.iload_n 3, 1) := by decide +kernel
theorem d_Rs_write_79 : decode prog_1_method_2_code 79 = .ok (.invokevirtual 78, 3) := by decide +kernel
theorem d_Rs_write_82 : decode prog_1_method_2_code 82 = .ok (.aload_n 0, 1) := by decide +kernel
theorem d_Rs_write_83 : decode prog_1_method_2_code 83 = .ok (.iload 4, 2) := by decide +kernel
theorem d_Rs_write_85 : decode prog_1_method_2_code 85 = .ok (.invokevirtual 78, 3) := by decide +kernel
theorem d_Rs_write_88 : decode prog_1_method_2_code 88 = .ok (.aload_n 0, 1) := by decide +kernel
theorem d_Rs_write_89 : decode prog_1_method_2_code 89 = .ok (.getfield 10, 3) := by decide +kernel
theorem d_Rs_write_92 : decode prog_1_method_2_code 92 = .ok (.invokevirtual 70, 3) := by decide +kernel
theorem d_Rs_write_95 : decode prog_1_method_2_code 95 = .ok (.ireturn, 1) := by decide +kernel
theorem d_Rs_isWritable_0 : decode prog_1_method_19_code 0 = .ok (.iload_n 0, 1) := by decide +kernel
theorem d_Rs_isWritable_1 : decode prog_1_method_19_code 1 = .ok (.ifCond .eq 54, 3) := by decide +kernel
theorem d_Rs_isWritable_4 : decode prog_1_method_19_code 4 = .ok (.iload_n 0, 1) := by decide +kernel
theorem d_Rs_isWritable_5 : decode prog_1_method_19_code 5 = .ok (.invokestatic 200, 3) := by decide +kernel
theorem d_Rs_isWritable_8 : decode prog_1_method_19_code 8 = .ok (.ifCond .ne 47, 3) := by decide +kernel
theorem d_Rs_isWritable_11 : decode prog_1_method_19_code 11 = .ok (.iload_n 0, 1) := by decide +kernel
theorem d_Rs_isWritable_12 : decode prog_1_method_19_code 12 = .ok (.invokestatic 203, 3) := by decide +kernel
theorem d_Rs_isWritable_15 : decode prog_1_method_19_code 15 = .ok (.ifCond .ne 40, 3) := by decide +kernel
theorem d_Rs_isWritable_18 : decode prog_1_method_19_code 18 = .ok (.iload_n 0, 1) := by decide +kernel
theorem d_Rs_isWritable_19 : decode prog_1_method_19_code 19 = .ok (.invokestatic 206, 3) := by decide +kernel
theorem d_Rs_isWritable_22 : decode prog_1_method_19_code 22 = .ok (.ifCond .ne 33, 3) := by decide +kernel
theorem d_Rs_isWritable_25 : decode prog_1_method_19_code 25 = .ok (.iload_n 0, 1) := by decide +kernel
theorem d_Rs_isWritable_26 : decode prog_1_method_19_code 26 = .ok (.bipush 91, 2) := by decide +kernel
theorem d_Rs_isWritable_28 : decode prog_1_method_19_code 28 = .ok (.if_icmp .eq 27, 3) := by decide +kernel
theorem d_Rs_isWritable_31 : decode prog_1_method_19_code 31 = .ok (.iload_n 0, 1) := by decide +kernel
theorem d_Rs_isWritable_32 : decode prog_1_method_19_code 32 = .ok (.bipush 93, 2) := by decide +kernel
theorem d_Rs_isWritable_34 : decode prog_1_method_19_code 34 = .ok (.if_icmp .eq 21, 3) := by decide +kernel
theorem d_Rs_isWritable_37 : decode prog_1_method_19_code 37 = .ok (.iload_n 0, 1) := by decide +kernel
theorem d_Rs_isWritable_38 : decode prog_1_method_19_code 38 = .ok (.bipush 40, 2) := by decide +kernel
theorem d_Rs_isWritable_40 : decode prog_1_method_19_code 40 = .ok (.if_icmp .eq 15, 3) := by decide +kernel
theorem d_Rs_isWritable_43 : decode prog_1_method_19_code 43 = .ok (.iload_n 0, 1) := by decide +kernel
theorem d_Rs_isWritable_44 : decode prog_1_method_19_code 44 = .ok (.bipush 41, 2) := by decide +kernel
theorem d_Rs_isWritable_46 : decode prog_1_method_19_code 46 = .ok (.if_icmp .eq 9, 3) := by decide +kernel
theorem d_Rs_isWritable_49 : decode prog_1_method_19_code 49 = .ok (.iload_n 0, 1) := by decide +kernel
theorem d_Rs_isWritable_50 : decode prog_1_method_19_code 50 = .ok (.bipush 44, 2) := by decide +kernel
theorem d_Rs_isWritable_52 : decode prog_1_method_19_code 52 = .ok (.if_icmp .ne 7, 3) := by decide +kernel
theorem d_Rs_isWritable_55 : decode prog_1_method_19_code 55 = .ok (.iconst 1, 1) := by decide +kernel
theorem d_Rs_isWritable_56 : decode prog_1_method_19_code 56 = .ok (.goto 4, 3) := by decide +kernel
theorem d_Rs_isWritable_59 : decode prog_1_method_19_code 59 = .ok (.iconst 0, 1) := by decide +kernel
theorem d_Rs_isWritable_60 : decode prog_1_method_19_code 60 = .ok (.ireturn, 1) := by decide +kernel
theorem d_Rs_lengthOf_0 : decode prog_1_method_24_code 0 = .ok (.iload_n 0, 1) := by decide +kernel
theorem d_Rs_lengthOf_1 : decode prog_1_method_24_code 1 = .ok (.ifCond .ne 7, 3) := by decide +kernel
theorem d_Rs_lengthOf_4 : decode prog_1_method_24_code 4 = .ok (.iconst 0, 1) := by decide +kernel
theorem d_Rs_lengthOf_5 : decode prog_1_method_24_code 5 = .ok (.goto 4, 3) := by decide +kernel
theorem d_Rs_lengthOf_8 : decode prog_1_method_24_code 8 = .ok (.iconst 1, 1) := by decide +kernel
theorem d_Rs_lengthOf_9 : decode prog_1_method_24_code 9 = .ok (.ireturn, 1) := by decide +kernel
theorem d_Rs_append_0 : decode prog_1_method_25_code 0 = .ok (.iload_n 1, 1) := by decide +kernel
theorem d_Rs_append_1 : decode prog_1_method_25_code 1 = .ok (.ifCond .eq 13, 3) := by decide +kernel
theorem d_Rs_append_4 : decode prog_1_method_25_code 4 = .ok (.aload_n 0, 1) := by decide +kernel
theorem d_Rs_append_5 : decode prog_1_method_25_code 5 = .ok (.getfield 10, 3) := by decide +kernel
theorem d_Rs_append_8 : decode prog_1_method_25_code 8 = .ok (.iload_n 1, 1) := by decide +kernel
theorem d_Rs_append_9 : decode prog_1_method_25_code 9 = .ok (.i2c, 1) := by decide +kernel
theorem d_Rs_append_10 : decode prog_1_method_25_code 10 = .ok (.invokevirtual 209, 3) := by decide +kernel
theorem d_Rs_append_13 : decode prog_1_method_25_code 13 = .ok (.pop, 1) := by decide +kernel
theorem d_Rs_append_14 : decode prog_1_method_25_code 14 = .ok (.return_, 1) := by decide +kernel
theorem d_Rs_wipe_0 : decode prog_1_method_3_code 0 = .ok (.aload_n 0, 1) := by decide +kernel
theorem d_Rs_wipe_1 : decode prog_1_method_3_code 1 = .ok (.getfield 10, 3) := by decide +kernel
theorem d_Rs_wipe_4 : decode prog_1_method_3_code 4 = .ok (.invokevirtual 70, 3) := by decide +kernel
theorem d_Rs_wipe_7 : decode prog_1_method_3_code 7 = .ok (.istore_n 1, 1) := by decide +kernel
theorem d_Rs_wipe_8 : decode prog_1_method_3_code 8 = .ok (.aload_n 0, 1) := by decide +kernel
theorem d_Rs_wipe_9 : decode prog_1_method_3_code 9 = .ok (.getfield 10, 3) := by decide +kernel
theorem d_Rs_wipe_12 : decode prog_1_method_3_code 12 = .ok (.iconst 0, 1) := by decide +kernel
theorem d_Rs_wipe_13 : decode prog_1_method_3_code 13 = .ok (.invokevirtual 82, 3) := by decide +kernel
theorem d_Rs_wipe_16 : decode prog_1_method_3_code 16 = .ok (.iload_n 1, 1) := by decide +kernel
theorem d_Rs_wipe_17 : decode prog_1_method_3_code 17 = .ok (.ireturn, 1) := by decide +kernel
theorem d_Rs_release_0 : decode prog_1_method_4_code 0 = .ok (.iload_n 1, 1) := by decide +kernel
theorem d_Rs_release_1 : decode prog_1_method_4_code 1 = .ok (.invokestatic 85, 3) := by decide +kernel
theorem d_Rs_release_4 : decode prog_1_method_4_code 4 = .ok (.ifCond .ne 5, 3) := by decide +kernel
theorem d_Rs_release_7 : decode prog_1_method_4_code 7 = .ok (.iconst (-1), 1) := by decide +kernel
theorem d_Rs_release_8 : decode prog_1_method_4_code 8 = .ok (.ireturn, 1) := by decide +kernel
theorem d_Rs_release_9 : decode prog_1_method_4_code 9 = .ok (.aload_n 0, 1) := by decide +kernel
theorem d_Rs_release_10 : decode prog_1_method_4_code 10 = .ok (.invokevirtual 88, 3) := by decide +kernel
theorem d_Rs_release_13 : decode prog_1_method_4_code 13 = .ok (.invokestatic 92, 3) := by decide +kernel
theorem d_Rs_release_16 : decode prog_1_method_4_code 16 = .ok (.astore_n 2, 1) := by decide +kernel
theorem d_Rs_release_17 : decode prog_1_method_4_code 17 = .ok (.aload_n 2, 1) := by decide +kernel
theorem d_Rs_release_18 : decode prog_1_method_4_code 18 = .ok (.ifnonnull 6, 3) := by decide +kernel
theorem d_Rs_release_21 : decode prog_1_method_4_code 21 = .ok (.bipush (-3), 2) := by decide +kernel
theorem d_Rs_release_23 : decode prog_1_method_4_code 23 = .ok (.ireturn, 1) := by decide +kernel
theorem d_Rs_release_24 : decode prog_1_method_4_code 24 = .ok (.aload_n 0, 1) := by decide +kernel
theorem d_Rs_release_25 : decode prog_1_method_4_code 25 = .ok (.getfield 18, 3) := by decide +kernel
theorem d_Rs_release_28 : decode prog_1_method_4_code 28 = .ok (.iload_n 1, 1) := by decide +kernel
theorem d_Rs_release_29 : decode prog_1_method_4_code 29 = .ok (.aaload, 1) := by decide +kernel
theorem d_Rs_release_30 : decode prog_1_method_4_code 30 = .ok (.aload_n 2, 1) := by decide +kernel
theorem d_Rs_release_31 : decode prog_1_method_4_code 31 = .ok (.invokevirtual 96, 3) := by decide +kernel
theorem d_Rs_release_34 : decode prog_1_method_4_code 34 = .ok (.ifCond .eq 6, 3) := by decide +kernel
theorem d_Rs_release_37 : decode prog_1_method_4_code 37 = .ok (.bipush (-5), 2) := by decide +kernel
theorem d_Rs_release_39 : decode prog_1_method_4_code 39 = .ok (.ireturn, 1) := by decide +kernel
theorem d_Rs_release_40 : decode prog_1_method_4_code 40 = .ok (.aload_n 0, 1) := by decide +kernel
theorem d_Rs_release_41 : decode prog_1_method_4_code 41 = .ok (.getfield 18, 3) := by decide +kernel
theorem d_Rs_release_44 : decode prog_1_method_4_code 44 = .ok (.iload_n 1, 1) := by decide +kernel
theorem d_Rs_release_45 : decode prog_1_method_4_code 45 = .ok (.aaload, 1) := by decide +kernel
theorem d_Rs_release_46 : decode prog_1_method_4_code 46 = .ok (.new 100, 3) := by decide +kernel
theorem d_Rs_release_49 : decode prog_1_method_4_code 49 = .ok (.dup, 1) := by decide +kernel
theorem d_Rs_release_50 : decode prog_1_method_4_code 50 = .ok (.aload_n 2, 1) := by decide +kernel
theorem d_Rs_release_51 : decode prog_1_method_4_code 51 = .ok (.invokespecial 102, 3) := by decide +kernel
theorem d_Rs_release_54 : decode prog_1_method_4_code 54 = .ok (.invokevirtual 105, 3) := by decide +kernel
theorem d_Rs_release_57 : decode prog_1_method_4_code 57 = .ok (.ireturn, 1) := by decide +kernel
theorem d_Rs_isPlugin_0 : decode prog_1_method_27_code 0 = .ok (.iload_n 0, 1) := by decide +kernel
theorem d_Rs_isPlugin_1 : decode prog_1_method_27_code 1 = .ok (.ifCond .lt 13, 3) := by decide +kernel
theorem d_Rs_isPlugin_4 : decode prog_1_method_27_code 4 = .ok (.iload_n 0, 1) := by decide +kernel
theorem d_Rs_isPlugin_5 : decode prog_1_method_27_code 5 = .ok (.bipush 6, 2) := by decide +kernel
theorem d_Rs_isPlugin_7 : decode prog_1_method_27_code 7 = .ok (.if_icmp .ge 7, 3) := by decide +kernel
theorem d_Rs_isPlugin_10 : decode prog_1_method_27_code 10 = .ok (.iconst 1, 1) := by decide +kernel
theorem d_Rs_isPlugin_11 : decode prog_1_method_27_code 11 = .ok (.goto 4, 3) := by decide +kernel
theorem d_Rs_isPlugin_14 : decode prog_1_method_27_code 14 = .ok (.iconst 0, 1) := by decide +kernel
theorem d_Rs_isPlugin_15 : decode prog_1_method_27_code 15 = .ok (.ireturn, 1) := by decide +kernel
theorem d_Rs_takeText_0 : decode prog_1_method_26_code 0 = .ok (.aload_n 0, 1) := by decide +kernel
theorem d_Rs_takeText_1 : decode prog_1_method_26_code 1 = .ok (.getfield 10, 3) := by decide +kernel
theorem d_Rs_takeText_4 : decode prog_1_method_26_code 4 = .ok (.invokevirtual 212, 3) := by decide +kernel
theorem d_Rs_takeText_7 : decode prog_1_method_26_code 7 = .ok (.astore_n 1, 1) := by decide +kernel
theorem d_Rs_takeText_8 : decode prog_1_method_26_code 8 = .ok (.aload_n 0, 1) := by decide +kernel
theorem d_Rs_takeText_9 : decode prog_1_method_26_code 9 = .ok (.getfield 10, 3) := by decide +kernel
theorem d_Rs_takeText_12 : decode prog_1_method_26_code 12 = .ok (.iconst 0, 1) := by decide +kernel
theorem d_Rs_takeText_13 : decode prog_1_method_26_code 13 = .ok (.invokevirtual 82, 3) := by decide +kernel
theorem d_Rs_takeText_16 : decode prog_1_method_26_code 16 = .ok (.aload_n 1, 1) := by decide +kernel
theorem d_Rs_takeText_17 : decode prog_1_method_26_code 17 = .ok (.areturn, 1) := by decide +kernel
theorem d_Rs_need_0 : decode prog_1_method_5_code 0 = .ok (.aload_n 0, 1) := by decide +kernel
theorem d_Rs_need_1 : decode prog_1_method_5_code 1 = .ok (.iload_n 1, 1) := by decide +kernel
theorem d_Rs_need_2 : decode prog_1_method_5_code 2 = .ok (.iload_n 2, 1) := by decide +kernel
theorem d_Rs_need_3 : decode prog_1_method_5_code 3 = .ok (.invokevirtual 109, 3) := by decide +kernel
theorem d_Rs_need_6 : decode prog_1_method_5_code 6 = .ok (.astore 5, 2) := by decide +kernel
theorem d_Rs_need_8 : decode prog_1_method_5_code 8 = .ok (.aload 5, 2) := by decide +kernel
theorem d_Rs_need_10 : decode prog_1_method_5_code 10 = .ok (.ifnull 10, 3) := by decide +kernel
theorem d_Rs_need_13 : decode prog_1_method_5_code 13 = .ok (.iload_n 3, 1) := by decide +kernel
theorem d_Rs_need_14 : decode prog_1_method_5_code 14 = .ok (.invokestatic 85, 3) := by decide +kernel
theorem d_Rs_need_17 : decode prog_1_method_5_code 17 = .ok (.ifCond .ne 5, 3) := by decide +kernel
theorem d_Rs_need_20 : decode prog_1_method_5_code 20 = .ok (.iconst (-1), 1) := by decide +kernel
theorem d_Rs_need_21 : decode prog_1_method_5_code 21 = .ok (.ireturn, 1) := by decide +kernel
theorem d_Rs_need_22 : decode prog_1_method_5_code 22 = .ok (.aload_n 0, 1) := by decide +kernel
theorem d_Rs_need_23 : decode prog_1_method_5_code 23 = .ok (.invokevirtual 88, 3) := by decide +kernel
theorem d_Rs_need_26 : decode prog_1_method_5_code 26 = .ok (.invokestatic 113, 3) := by decide +kernel
theorem d_Rs_need_29 : decode prog_1_method_5_code 29 = .ok (.astore 6, 2) := by decide +kernel
theorem d_Rs_need_31 : decode prog_1_method_5_code 31 = .ok (.aload 6, 2) := by decide +kernel
theorem d_Rs_need_33 : decode prog_1_method_5_code 33 = .ok (.ifnonnull 6, 3) := by decide +kernel
theorem d_Rs_need_36 : decode prog_1_method_5_code 36 = .ok (.bipush (-3), 2) := by decide +kernel
theorem d_Rs_need_38 : decode prog_1_method_5_code 38 = .ok (.ireturn, 1) := by decide +kernel
theorem d_Rs_need_39 : decode prog_1_method_5_code 39 = .ok (.aload 5, 2) := by decide +kernel
theorem d_Rs_need_41 : decode prog_1_method_5_code 41 = .ok (.getfield 118, 3) := by decide +kernel
theorem d_Rs_need_44 : decode prog_1_method_5_code 44 = .ok (.invokevirtual 121, 3) := by decide +kernel
theorem d_Rs_need_47 : decode prog_1_method_5_code 47 = .ok (.iconst 3, 1) := by decide +kernel
theorem d_Rs_need_48 : decode prog_1_method_5_code 48 = .ok (.if_icmp .lt 6, 3) := by decide +kernel
theorem d_Rs_need_51 : decode prog_1_method_5_code 51 = .ok (.bipush (-2), 2) := by decide +kernel
theorem d_Rs_need_53 : decode prog_1_method_5_code 53 = .ok (.ireturn, 1) := by decide +kernel
theorem d_Rs_need_54 : decode prog_1_method_5_code 54 = .ok (.aload 5, 2) := by decide +kernel
theorem d_Rs_need_56 : decode prog_1_method_5_code 56 = .ok (.getfield 118, 3) := by decide +kernel
theorem d_Rs_need_59 : decode prog_1_method_5_code 59 = .ok (.new 124, 3) := by decide +kernel
theorem d_Rs_need_62 : decode prog_1_method_5_code 62 = .ok (.dup, 1) := by decide +kernel
theorem d_Rs_need_63 : decode prog_1_method_5_code 63 = .ok (.iload_n 3, 1) := by decide +kernel
theorem d_Rs_need_64 : decode prog_1_method_5_code 64 = .ok (.aload 6, 2) := by decide +kernel
theorem d_Rs_need_66 : decode prog_1_method_5_code 66 = .ok (.iload 4, 2) := by decide +kernel
theorem d_Rs_need_68 : decode prog_1_method_5_code 68 = .ok (.invokespecial 126, 3) := by decide +kernel
theorem d_Rs_need_71 : decode prog_1_method_5_code 71 = .ok (.invokevirtual 129, 3) := by decide +kernel
theorem d_Rs_need_74 : decode prog_1_method_5_code 74 = .ok (.pop, 1) := by decide +kernel
theorem d_Rs_need_75 : decode prog_1_method_5_code 75 = .ok (.aload 5, 2) := by decide +kernel
theorem d_Rs_need_77 : decode prog_1_method_5_code 77 = .ok (.getfield 118, 3) := by decide +kernel
theorem d_Rs_need_80 : decode prog_1_method_5_code 80 = .ok (.invokevirtual 121, 3) := by decide +kernel
theorem d_Rs_need_83 : decode prog_1_method_5_code 83 = .ok (.ireturn, 1) := by decide +kernel
theorem d_Rs_releaseAt_0 : decode prog_1_method_28_code 0 = .ok (.iload_n 1, 1) := by decide +kernel
theorem d_Rs_releaseAt_1 : decode prog_1_method_28_code 1 = .ok (.invokestatic 85, 3) := by decide +kernel
theorem d_Rs_releaseAt_4 : decode prog_1_method_28_code 4 = .ok (.ifCond .eq 16, 3) := by decide +kernel
theorem d_Rs_releaseAt_7 : decode prog_1_method_28_code 7 = .ok (.aload_n 0, 1) := by decide +kernel
theorem d_Rs_releaseAt_8 : decode prog_1_method_28_code 8 = .ok (.getfield 18, 3) := by decide +kernel
theorem d_Rs_releaseAt_11 : decode prog_1_method_28_code 11 = .ok (.iload_n 1, 1) := by decide +kernel
theorem d_Rs_releaseAt_12 : decode prog_1_method_28_code 12 = .ok (.aaload, 1) := by decide +kernel
theorem d_Rs_releaseAt_13 : decode prog_1_method_28_code 13 = .ok (.iload_n 2, 1) := by decide +kernel
theorem d_Rs_releaseAt_14 : decode prog_1_method_28_code 14 = .ok (.invokevirtual 215, 3) := by decide +kernel
theorem d_Rs_releaseAt_17 : decode prog_1_method_28_code 17 = .ok (.goto 4, 3) := by decide +kernel
theorem d_Rs_releaseAt_20 : decode prog_1_method_28_code 20 = .ok (.aconst_null, 1) := by decide +kernel
theorem d_Rs_releaseAt_21 : decode prog_1_method_28_code 21 = .ok (.areturn, 1) := by decide +kernel
theorem d_Rs_needHost_0 : decode prog_1_method_6_code 0 = .ok (.aload_n 0, 1) := by decide +kernel
theorem d_Rs_needHost_1 : decode prog_1_method_6_code 1 = .ok (.iload_n 1, 1) := by decide +kernel
theorem d_Rs_needHost_2 : decode prog_1_method_6_code 2 = .ok (.iload_n 2, 1) := by decide +kernel
theorem d_Rs_needHost_3 : decode prog_1_method_6_code 3 = .ok (.invokevirtual 109, 3) := by decide +kernel
theorem d_Rs_needHost_6 : decode prog_1_method_6_code 6 = .ok (.astore_n 3, 1) := by decide +kernel
theorem d_Rs_needHost_7 : decode prog_1_method_6_code 7 = .ok (.aload_n 3, 1) := by decide +kernel
theorem d_Rs_needHost_8 : decode prog_1_method_6_code 8 = .ok (.ifnonnull 5, 3) := by decide +kernel
theorem d_Rs_needHost_11 : decode prog_1_method_6_code 11 = .ok (.iconst (-1), 1) := by decide +kernel
theorem d_Rs_needHost_12 : decode prog_1_method_6_code 12 = .ok (.ireturn, 1) := by decide +kernel
theorem d_Rs_needHost_13 : decode prog_1_method_6_code 13 = .ok (.aload_n 0, 1) := by decide +kernel
theorem d_Rs_needHost_14 : decode prog_1_method_6_code 14 = .ok (.invokevirtual 88, 3) := by decide +kernel
theorem d_Rs_needHost_17 : decode prog_1_method_6_code 17 = .ok (.astore 4, 2) := by decide +kernel
theorem d_Rs_needHost_19 : decode prog_1_method_6_code 19 = .ok (.aload 4, 2) := by decide +kernel
theorem d_Rs_needHost_21 : decode prog_1_method_6_code 21 = .ok (.invokestatic 113, 3) := by decide +kernel
theorem d_Rs_needHost_24 : decode prog_1_method_6_code 24 = .ok (.astore 5, 2) := by decide +kernel
theorem d_Rs_needHost_26 : decode prog_1_method_6_code 26 = .ok (.aload 5, 2) := by decide +kernel
theorem d_Rs_needHost_28 : decode prog_1_method_6_code 28 = .ok (.ifnonnull 14, 3) := by decide +kernel
theorem d_Rs_needHost_31 : decode prog_1_method_6_code 31 = .ok (.aload 4, 2) := by decide +kernel
theorem d_Rs_needHost_33 : decode prog_1_method_6_code 33 = .ok (.invokevirtual 132, 3) := by decide +kernel
theorem d_Rs_needHost_36 : decode prog_1_method_6_code 36 = .ok (.ifCond .ne 6, 3) := by decide +kernel
theorem d_Rs_needHost_39 : decode prog_1_method_6_code 39 = .ok (.bipush (-3), 2) := by decide +kernel
theorem d_Rs_needHost_41 : decode prog_1_method_6_code 41 = .ok (.ireturn, 1) := by decide +kernel
theorem d_Rs_needHost_42 : decode prog_1_method_6_code 42 = .ok (.aload_n 3, 1) := by decide +kernel
theorem d_Rs_needHost_43 : decode prog_1_method_6_code 43 = .ok (.aload 5, 2) := by decide +kernel
theorem d_Rs_needHost_45 : decode prog_1_method_6_code 45 = .ok (.putfield 138, 3) := by decide +kernel
theorem d_Rs_needHost_48 : decode prog_1_method_6_code 48 = .ok (.iconst 0, 1) := by decide +kernel
theorem d_Rs_needHost_49 : decode prog_1_method_6_code 49 = .ok (.ireturn, 1) := by decide +kernel
theorem d_Rs_withdraw_0 : decode prog_1_method_7_code 0 = .ok (.aload_n 0, 1) := by decide +kernel
theorem d_Rs_withdraw_1 : decode prog_1_method_7_code 1 = .ok (.iload_n 1, 1) := by decide +kernel
theorem d_Rs_withdraw_2 : decode prog_1_method_7_code 2 = .ok (.iload_n 2, 1) := by decide +kernel
theorem d_Rs_withdraw_3 : decode prog_1_method_7_code 3 = .ok (.invokevirtual 109, 3) := by decide +kernel
theorem d_Rs_withdraw_6 : decode prog_1_method_7_code 6 = .ok (.astore 4, 2) := by decide +kernel
theorem d_Rs_withdraw_8 : decode prog_1_method_7_code 8 = .ok (.aload 4, 2) := by decide +kernel
theorem d_Rs_withdraw_10 : decode prog_1_method_7_code 10 = .ok (.ifnonnull 5, 3) := by decide +kernel
theorem d_Rs_withdraw_13 : decode prog_1_method_7_code 13 = .ok (.iconst (-1), 1) := by decide +kernel
theorem d_Rs_withdraw_14 : decode prog_1_method_7_code 14 = .ok (.ireturn, 1) := by decide +kernel
theorem d_Rs_withdraw_15 : decode prog_1_method_7_code 15 = .ok (.aload 4, 2) := by decide +kernel
theorem d_Rs_withdraw_17 : decode prog_1_method_7_code 17 = .ok (.iload_n 3, 1) := by decide +kernel
theorem d_Rs_withdraw_18 : decode prog_1_method_7_code 18 = .ok (.putfield 142, 3) := by decide +kernel
theorem d_Rs_withdraw_21 : decode prog_1_method_7_code 21 = .ok (.iconst 0, 1) := by decide +kernel
theorem d_Rs_withdraw_22 : decode prog_1_method_7_code 22 = .ok (.ireturn, 1) := by decide +kernel
theorem d_Rs_host_0 : decode prog_1_method_8_code 0 = .ok (.aload_n 0, 1) := by decide +kernel
theorem d_Rs_host_1 : decode prog_1_method_8_code 1 = .ok (.invokevirtual 88, 3) := by decide +kernel
theorem d_Rs_host_4 : decode prog_1_method_8_code 4 = .ok (.invokestatic 92, 3) := by decide +kernel
theorem d_Rs_host_7 : decode prog_1_method_8_code 7 = .ok (.astore_n 1, 1) := by decide +kernel
theorem d_Rs_host_8 : decode prog_1_method_8_code 8 = .ok (.aload_n 1, 1) := by decide +kernel
theorem d_Rs_host_9 : decode prog_1_method_8_code 9 = .ok (.ifnonnull 6, 3) := by decide +kernel
theorem d_Rs_host_12 : decode prog_1_method_8_code 12 = .ok (.bipush (-3), 2) := by decide +kernel
theorem d_Rs_host_14 : decode prog_1_method_8_code 14 = .ok (.ireturn, 1) := by decide +kernel
theorem d_Rs_host_15 : decode prog_1_method_8_code 15 = .ok (.aload_n 0, 1) := by decide +kernel
theorem d_Rs_host_16 : decode prog_1_method_8_code 16 = .ok (.aload_n 1, 1) := by decide +kernel
theorem d_Rs_host_17 : decode prog_1_method_8_code 17 = .ok (.putfield 43, 3) := by decide +kernel
theorem d_Rs_host_20 : decode prog_1_method_8_code 20 = .ok (.iconst 0, 1) := by decide +kernel
theorem d_Rs_host_21 : decode prog_1_method_8_code 21 = .ok (.ireturn, 1) := by decide +kernel
theorem d_Rs_ask_0 : decode prog_1_method_9_code 0 = .ok (.iload_n 1, 1) := by decide +kernel
theorem d_Rs_ask_1 : decode prog_1_method_9_code 1 = .ok (.invokestatic 85, 3) := by decide +kernel
theorem d_Rs_ask_4 : decode prog_1_method_9_code 4 = .ok (.ifCond .ne 5, 3) := by decide +kernel
theorem d_Rs_ask_7 : decode prog_1_method_9_code 7 = .ok (.iconst (-1), 1) := by decide +kernel
theorem d_Rs_ask_8 : decode prog_1_method_9_code 8 = .ok (.ireturn, 1) := by decide +kernel
theorem d_Rs_ask_9 : decode prog_1_method_9_code 9 = .ok (.aload_n 0, 1) := by decide +kernel
theorem d_Rs_ask_10 : decode prog_1_method_9_code 10 = .ok (.invokevirtual 88, 3) := by decide +kernel
theorem d_Rs_ask_13 : decode prog_1_method_9_code 13 = .ok (.invokestatic 113, 3) := by decide +kernel
theorem d_Rs_ask_16 : decode prog_1_method_9_code 16 = .ok (.astore_n 2, 1) := by decide +kernel
theorem d_Rs_ask_17 : decode prog_1_method_9_code 17 = .ok (.aload_n 2, 1) := by decide +kernel
theorem d_Rs_ask_18 : decode prog_1_method_9_code 18 = .ok (.ifnonnull 6, 3) := by decide +kernel
theorem d_Rs_ask_21 : decode prog_1_method_9_code 21 = .ok (.bipush (-3), 2) := by decide +kernel
theorem d_Rs_ask_23 : decode prog_1_method_9_code 23 = .ok (.ireturn, 1) := by decide +kernel
theorem d_Rs_ask_24 : decode prog_1_method_9_code 24 = .ok (.aload_n 0, 1) := by decide +kernel
theorem d_Rs_ask_25 : decode prog_1_method_9_code 25 = .ok (.getfield 25, 3) := by decide +kernel
theorem d_Rs_ask_28 : decode prog_1_method_9_code 28 = .ok (.invokevirtual 121, 3) := by decide +kernel
theorem d_Rs_ask_31 : decode prog_1_method_9_code 31 = .ok (.iconst 4, 1) := by decide +kernel
theorem d_Rs_ask_32 : decode prog_1_method_9_code 32 = .ok (.if_icmp .lt 6, 3) := by decide +kernel
theorem d_Rs_ask_35 : decode prog_1_method_9_code 35 = .ok (.bipush (-2), 2) := by decide +kernel
theorem d_Rs_ask_37 : decode prog_1_method_9_code 37 = .ok (.ireturn, 1) := by decide +kernel
theorem d_Rs_ask_38 : decode prog_1_method_9_code 38 = .ok (.aload_n 0, 1) := by decide +kernel
theorem d_Rs_ask_39 : decode prog_1_method_9_code 39 = .ok (.getfield 25, 3) := by decide +kernel
theorem d_Rs_ask_42 : decode prog_1_method_9_code 42 = .ok (.new 145, 3) := by decide +kernel
theorem d_Rs_ask_45 : decode prog_1_method_9_code 45 = .ok (.dup, 1) := by decide +kernel
theorem d_Rs_ask_46 : decode prog_1_method_9_code 46 = .ok (.iload_n 1, 1) := by decide +kernel
theorem d_Rs_ask_47 : decode prog_1_method_9_code 47 = .ok (.aload_n 2, 1) := by decide +kernel
theorem d_Rs_ask_48 : decode prog_1_method_9_code 48 = .ok (.invokespecial 147, 3) := by decide +kernel
theorem d_Rs_ask_51 : decode prog_1_method_9_code 51 = .ok (.invokevirtual 129, 3) := by decide +kernel
theorem d_Rs_ask_54 : decode prog_1_method_9_code 54 = .ok (.pop, 1) := by decide +kernel
theorem d_Rs_ask_55 : decode prog_1_method_9_code 55 = .ok (.aload_n 0, 1) := by decide +kernel
theorem d_Rs_ask_56 : decode prog_1_method_9_code 56 = .ok (.getfield 25, 3) := by decide +kernel
theorem d_Rs_ask_59 : decode prog_1_method_9_code 59 = .ok (.invokevirtual 121, 3) := by decide +kernel
theorem d_Rs_ask_62 : decode prog_1_method_9_code 62 = .ok (.iconst 1, 1) := by decide +kernel
theorem d_Rs_ask_63 : decode prog_1_method_9_code 63 = .ok (.isub, 1) := by decide +kernel
theorem d_Rs_ask_64 : decode prog_1_method_9_code 64 = .ok (.ireturn, 1) := by decide +kernel
theorem d_Rs_unask_0 : decode prog_1_method_10_code 0 = .ok (.iload_n 1, 1) := by decide +kernel
theorem d_Rs_unask_1 : decode prog_1_method_10_code 1 = .ok (.ifCond .lt 14, 3) := by decide +kernel
theorem d_Rs_unask_4 : decode prog_1_method_10_code 4 = .ok (.iload_n 1, 1) := by decide +kernel
theorem d_Rs_unask_5 : decode prog_1_method_10_code 5 = .ok (.aload_n 0, 1) := by decide +kernel
theorem d_Rs_unask_6 : decode prog_1_method_10_code 6 = .ok (.getfield 25, 3) := by decide +kernel
theorem d_Rs_unask_9 : decode prog_1_method_10_code 9 = .ok (.invokevirtual 121, 3) := by decide +kernel
theorem d_Rs_unask_12 : decode prog_1_method_10_code 12 = .ok (.if_icmp .lt 5, 3) := by decide +kernel
theorem d_Rs_unask_15 : decode prog_1_method_10_code 15 = .ok (.iconst (-1), 1) := by decide +kernel
theorem d_Rs_unask_16 : decode prog_1_method_10_code 16 = .ok (.ireturn, 1) := by decide +kernel
theorem d_Rs_unask_17 : decode prog_1_method_10_code 17 = .ok (.aload_n 0, 1) := by decide +kernel
theorem d_Rs_unask_18 : decode prog_1_method_10_code 18 = .ok (.getfield 25, 3) := by decide +kernel
theorem d_Rs_unask_21 : decode prog_1_method_10_code 21 = .ok (.iload_n 1, 1) := by decide +kernel
theorem d_Rs_unask_22 : decode prog_1_method_10_code 22 = .ok (.invokevirtual 150, 3) := by decide +kernel
theorem d_Rs_unask_25 : decode prog_1_method_10_code 25 = .ok (.pop, 1) := by decide +kernel
theorem d_Rs_unask_26 : decode prog_1_method_10_code 26 = .ok (.aload_n 0, 1) := by decide +kernel
theorem d_Rs_unask_27 : decode prog_1_method_10_code 27 = .ok (.getfield 25, 3) := by decide +kernel
theorem d_Rs_unask_30 : decode prog_1_method_10_code 30 = .ok (.invokevirtual 121, 3) := by decide +kernel
theorem d_Rs_unask_33 : decode prog_1_method_10_code 33 = .ok (.ireturn, 1) := by decide +kernel
theorem d_Rs_compare_0 : decode prog_1_method_11_code 0 = .ok (.aload_n 0, 1) := by decide +kernel
theorem d_Rs_compare_1 : decode prog_1_method_11_code 1 = .ok (.iload_n 1, 1) := by decide +kernel
theorem d_Rs_compare_2 : decode prog_1_method_11_code 2 = .ok (.iload_n 2, 1) := by decide +kernel
theorem d_Rs_compare_3 : decode prog_1_method_11_code 3 = .ok (.invokevirtual 109, 3) := by decide +kernel
theorem d_Rs_compare_6 : decode prog_1_method_11_code 6 = .ok (.astore 5, 2) := by decide +kernel
theorem d_Rs_compare_8 : decode prog_1_method_11_code 8 = .ok (.aload_n 0, 1) := by decide +kernel
theorem d_Rs_compare_9 : decode prog_1_method_11_code 9 = .ok (.iload_n 3, 1) := by decide +kernel
theorem d_Rs_compare_10 : decode prog_1_method_11_code 10 = .ok (.iload 4, 2) := by decide +kernel
theorem d_Rs_compare_12 : decode prog_1_method_11_code 12 = .ok (.invokevirtual 109, 3) := by decide +kernel
theorem d_Rs_compare_15 : decode prog_1_method_11_code 15 = .ok (.astore 6, 2) := by decide +kernel
theorem d_Rs_compare_17 : decode prog_1_method_11_code 17 = .ok (.aload 5, 2) := by decide +kernel
theorem d_Rs_compare_19 : decode prog_1_method_11_code 19 = .ok (.ifnull 8, 3) := by decide +kernel
theorem d_Rs_compare_22 : decode prog_1_method_11_code 22 = .ok (.aload 6, 2) := by decide +kernel
theorem d_Rs_compare_24 : decode prog_1_method_11_code 24 = .ok (.ifnonnull 6, 3) := by decide +kernel
theorem d_Rs_compare_27 : decode prog_1_method_11_code 27 = .ok (.bipush (-9), 2) := by decide +kernel
theorem d_Rs_compare_29 : decode prog_1_method_11_code 29 = .ok (.ireturn, 1) := by decide +kernel
theorem d_Rs_compare_30 : decode prog_1_method_11_code 30 = .ok (.aload 5, 2) := by decide +kernel
theorem d_Rs_compare_32 : decode prog_1_method_11_code 32 = .ok (.getfield 154, 3) := by decide +kernel
theorem d_Rs_compare_35 : decode prog_1_method_11_code 35 = .ok (.aload 6, 2) := by decide +kernel
theorem d_Rs_compare_37 : decode prog_1_method_11_code 37 = .ok (.getfield 154, 3) := by decide +kernel
theorem d_Rs_compare_40 : decode prog_1_method_11_code 40 = .ok (.invokevirtual 157, 3) := by decide +kernel
theorem d_Rs_compare_43 : decode prog_1_method_11_code 43 = .ok (.ireturn, 1) := by decide +kernel
theorem d_Rs_rank_0 : decode prog_1_method_12_code 0 = .ok (.aload_n 0, 1) := by decide +kernel
theorem d_Rs_rank_1 : decode prog_1_method_12_code 1 = .ok (.invokevirtual 88, 3) := by decide +kernel
theorem d_Rs_rank_4 : decode prog_1_method_12_code 4 = .ok (.invokestatic 92, 3) := by decide +kernel
theorem d_Rs_rank_7 : decode prog_1_method_12_code 7 = .ok (.astore_n 2, 1) := by decide +kernel
theorem d_Rs_rank_8 : decode prog_1_method_12_code 8 = .ok (.aload_n 2, 1) := by decide +kernel
theorem d_Rs_rank_9 : decode prog_1_method_12_code 9 = .ok (.ifnonnull 8, 3) := by decide +kernel
theorem d_Rs_rank_12 : decode prog_1_method_12_code 12 = .ok (.bipush (-3), 2) := by decide +kernel
theorem d_Rs_rank_14 : decode prog_1_method_12_code 14 = .ok (.goto 8, 3) := by decide +kernel
theorem d_Rs_rank_17 : decode prog_1_method_12_code 17 = .ok (.aload_n 2, 1) := by decide +kernel
theorem d_Rs_rank_18 : decode prog_1_method_12_code 18 = .ok (.iload_n 1, 1) := by decide +kernel
theorem d_Rs_rank_19 : decode prog_1_method_12_code 19 = .ok (.invokevirtual 161, 3) := by decide +kernel
theorem d_Rs_rank_22 : decode prog_1_method_12_code 22 = .ok (.ireturn, 1) := by decide +kernel
theorem d_Rs_within_0 : decode prog_1_method_13_code 0 = .ok (.aload_n 0, 1) := by decide +kernel
theorem d_Rs_within_1 : decode prog_1_method_13_code 1 = .ok (.iload_n 1, 1) := by decide +kernel
theorem d_Rs_within_2 : decode prog_1_method_13_code 2 = .ok (.iload_n 2, 1) := by decide +kernel
theorem d_Rs_within_3 : decode prog_1_method_13_code 3 = .ok (.invokevirtual 109, 3) := by decide +kernel
theorem d_Rs_within_6 : decode prog_1_method_13_code 6 = .ok (.astore_n 3, 1) := by decide +kernel
theorem d_Rs_within_7 : decode prog_1_method_13_code 7 = .ok (.aload_n 3, 1) := by decide +kernel
theorem d_Rs_within_8 : decode prog_1_method_13_code 8 = .ok (.ifnonnull 5, 3) := by decide +kernel
theorem d_Rs_within_11 : decode prog_1_method_13_code 11 = .ok (.iconst (-1), 1) := by decide +kernel
theorem d_Rs_within_12 : decode prog_1_method_13_code 12 = .ok (.ireturn, 1) := by decide +kernel
theorem d_Rs_within_13 : decode prog_1_method_13_code 13 = .ok (.aload_n 0, 1) := by decide +kernel
theorem d_Rs_within_14 : decode prog_1_method_13_code 14 = .ok (.invokevirtual 88, 3) := by decide +kernel
theorem d_Rs_within_17 : decode prog_1_method_13_code 17 = .ok (.invokestatic 113, 3) := by decide +kernel
theorem d_Rs_within_20 : decode prog_1_method_13_code 20 = .ok (.astore 4, 2) := by decide +kernel
theorem d_Rs_within_22 : decode prog_1_method_13_code 22 = .ok (.aload 4, 2) := by decide +kernel
theorem d_Rs_within_24 : decode prog_1_method_13_code 24 = .ok (.ifnonnull 6, 3) := by decide +kernel
theorem d_Rs_within_27 : decode prog_1_method_13_code 27 = .ok (.bipush (-3), 2) := by decide +kernel
theorem d_Rs_within_29 : decode prog_1_method_13_code 29 = .ok (.ireturn, 1) := by decide +kernel
theorem d_Rs_within_30 : decode prog_1_method_13_code 30 = .ok (.aload 4, 2) := by decide +kernel
theorem d_Rs_within_32 : decode prog_1_method_13_code 32 = .ok (.aload_n 3, 1) := by decide +kernel
theorem d_Rs_within_33 : decode prog_1_method_13_code 33 = .ok (.getfield 154, 3) := by decide +kernel
theorem d_Rs_within_36 : decode prog_1_method_13_code 36 = .ok (.invokevirtual 164, 3) := by decide +kernel
theorem d_Rs_within_39 : decode prog_1_method_13_code 39 = .ok (.ifCond .eq 7, 3) := by decide +kernel
theorem d_Rs_within_42 : decode prog_1_method_13_code 42 = .ok (.iconst 1, 1) := by decide +kernel
theorem d_Rs_within_43 : decode prog_1_method_13_code 43 = .ok (.goto 4, 3) := by decide +kernel
theorem d_Rs_within_46 : decode prog_1_method_13_code 46 = .ok (.iconst 0, 1) := by decide +kernel
theorem d_Rs_within_47 : decode prog_1_method_13_code 47 = .ok (.ireturn, 1) := by decide +kernel
theorem d_Rs_solve_0 : decode prog_1_method_14_code 0 = .ok (.aload_n 0, 1) := by decide +kernel
theorem d_Rs_solve_1 : decode prog_1_method_14_code 1 = .ok (.getfield 32, 3) := by decide +kernel
theorem d_Rs_solve_4 : decode prog_1_method_14_code 4 = .ok (.aload_n 0, 1) := by decide +kernel
theorem d_Rs_solve_5 : decode prog_1_method_14_code 5 = .ok (.getfield 18, 3) := by decide +kernel
theorem d_Rs_solve_8 : decode prog_1_method_14_code 8 = .ok (.aload_n 0, 1) := by decide +kernel
theorem d_Rs_solve_9 : decode prog_1_method_14_code 9 = .ok (.getfield 43, 3) := by decide +kernel
theorem d_Rs_solve_12 : decode prog_1_method_14_code 12 = .ok (.aload_n 0, 1) := by decide +kernel
theorem d_Rs_solve_13 : decode prog_1_method_14_code 13 = .ok (.getfield 25, 3) := by decide +kernel
theorem d_Rs_solve_16 : decode prog_1_method_14_code 16 = .ok (.invokevirtual 167, 3) := by decide +kernel
theorem d_Rs_solve_19 : decode prog_1_method_14_code 19 = .ok (.iconst 1, 1) := by decide +kernel
theorem d_Rs_solve_20 : decode prog_1_method_14_code 20 = .ok (.aload_n 0, 1) := by decide +kernel
theorem d_Rs_solve_21 : decode prog_1_method_14_code 21 = .ok (.getfield 25, 3) := by decide +kernel
theorem d_Rs_solve_24 : decode prog_1_method_14_code 24 = .ok (.invokevirtual 121, 3) := by decide +kernel
theorem d_Rs_solve_27 : decode prog_1_method_14_code 27 = .ok (.ishl, 1) := by decide +kernel
theorem d_Rs_solve_28 : decode prog_1_method_14_code 28 = .ok (.iconst 1, 1) := by decide +kernel
theorem d_Rs_solve_29 : decode prog_1_method_14_code 29 = .ok (.isub, 1) := by decide +kernel
theorem d_Rs_solve_30 : decode prog_1_method_14_code 30 = .ok (.istore_n 1, 1) := by decide +kernel
theorem d_Rs_solve_31 : decode prog_1_method_14_code 31 = .ok (.aload_n 0, 1) := by decide +kernel
theorem d_Rs_solve_32 : decode prog_1_method_14_code 32 = .ok (.aload_n 0, 1) := by decide +kernel
theorem d_Rs_solve_33 : decode prog_1_method_14_code 33 = .ok (.getfield 32, 3) := by decide +kernel
theorem d_Rs_solve_36 : decode prog_1_method_14_code 36 = .ok (.iload_n 1, 1) := by decide +kernel
theorem d_Rs_solve_37 : decode prog_1_method_14_code 37 = .ok (.invokevirtual 171, 3) := by decide +kernel
theorem d_Rs_solve_40 : decode prog_1_method_14_code 40 = .ok (.putfield 47, 3) := by decide +kernel
theorem d_Rs_solve_43 : decode prog_1_method_14_code 43 = .ok (.aload_n 0, 1) := by decide +kernel
theorem d_Rs_solve_44 : decode prog_1_method_14_code 44 = .ok (.getfield 47, 3) := by decide +kernel
theorem d_Rs_solve_47 : decode prog_1_method_14_code 47 = .ok (.ifCond .eq 13, 3) := by decide +kernel
theorem d_Rs_solve_50 : decode prog_1_method_14_code 50 = .ok (.aload_n 0, 1) := by decide +kernel
theorem d_Rs_solve_51 : decode prog_1_method_14_code 51 = .ok (.iconst 0, 1) := by decide +kernel
theorem d_Rs_solve_52 : decode prog_1_method_14_code 52 = .ok (.putfield 55, 3) := by decide +kernel
theorem d_Rs_solve_55 : decode prog_1_method_14_code 55 = .ok (.aload_n 0, 1) := by decide +kernel
theorem d_Rs_solve_56 : decode prog_1_method_14_code 56 = .ok (.invokevirtual 174, 3) := by decide +kernel
theorem d_Rs_solve_59 : decode prog_1_method_14_code 59 = .ok (.ireturn, 1) := by decide +kernel
theorem d_Rs_solve_60 : decode prog_1_method_14_code 60 = .ok (.aload_n 0, 1) := by decide +kernel
theorem d_Rs_solve_61 : decode prog_1_method_14_code 61 = .ok (.getfield 51, 3) := by decide +kernel
theorem d_Rs_solve_64 : decode prog_1_method_14_code 64 = .ok (.bipush (-4), 2) := by decide +kernel
theorem d_Rs_solve_66 : decode prog_1_method_14_code 66 = .ok (.invokestatic 60, 3) := by decide +kernel
theorem d_Rs_solve_69 : decode prog_1_method_14_code 69 = .ok (.aload_n 0, 1) := by decide +kernel
theorem d_Rs_solve_70 : decode prog_1_method_14_code 70 = .ok (.aload_n 0, 1) := by decide +kernel
theorem d_Rs_solve_71 : decode prog_1_method_14_code 71 = .ok (.iload_n 1, 1) := by decide +kernel
theorem d_Rs_solve_72 : decode prog_1_method_14_code 72 = .ok (.invokevirtual 177, 3) := by decide +kernel
theorem d_Rs_solve_75 : decode prog_1_method_14_code 75 = .ok (.putfield 55, 3) := by decide +kernel
theorem d_Rs_solve_78 : decode prog_1_method_14_code 78 = .ok (.bipush (-4), 2) := by decide +kernel
theorem d_Rs_solve_80 : decode prog_1_method_14_code 80 = .ok (.ireturn, 1) := by decide +kernel
theorem d_Rs_hasBit_0 : decode prog_1_method_23_code 0 = .ok (.iload_n 0, 1) := by decide +kernel
theorem d_Rs_hasBit_1 : decode prog_1_method_23_code 1 = .ok (.iload_n 1, 1) := by decide +kernel
theorem d_Rs_hasBit_2 : decode prog_1_method_23_code 2 = .ok (.ishr, 1) := by decide +kernel
theorem d_Rs_hasBit_3 : decode prog_1_method_23_code 3 = .ok (.iconst 1, 1) := by decide +kernel
theorem d_Rs_hasBit_4 : decode prog_1_method_23_code 4 = .ok (.iand, 1) := by decide +kernel
theorem d_Rs_hasBit_5 : decode prog_1_method_23_code 5 = .ok (.ifCond .eq 7, 3) := by decide +kernel
theorem d_Rs_hasBit_8 : decode prog_1_method_23_code 8 = .ok (.iconst 1, 1) := by decide +kernel
theorem d_Rs_hasBit_9 : decode prog_1_method_23_code 9 = .ok (.goto 4, 3) := by decide +kernel
theorem d_Rs_hasBit_12 : decode prog_1_method_23_code 12 = .ok (.iconst 0, 1) := by decide +kernel
theorem d_Rs_hasBit_13 : decode prog_1_method_23_code 13 = .ok (.ireturn, 1) := by decide +kernel
theorem d_Rs_keepSelection_0 : decode prog_1_method_29_code 0 = .ok (.iconst 0, 1) := by decide +kernel
theorem d_Rs_keepSelection_1 : decode prog_1_method_29_code 1 = .ok (.istore_n 1, 1) := by decide +kernel
theorem d_Rs_keepSelection_2 : decode prog_1_method_29_code 2 = .ok (.iconst 0, 1) := by decide +kernel
theorem d_Rs_keepSelection_3 : decode prog_1_method_29_code 3 = .ok (.istore_n 2, 1) := by decide +kernel
theorem d_Rs_keepSelection_4 : decode prog_1_method_29_code 4 = .ok (.iload_n 2, 1) := by decide +kernel
theorem d_Rs_keepSelection_5 : decode prog_1_method_29_code 5 = .ok (.bipush 6, 2) := by decide +kernel
theorem d_Rs_keepSelection_7 : decode prog_1_method_29_code 7 = .ok (.if_icmp .ge 37, 3) := by decide +kernel
theorem d_Rs_keepSelection_10 : decode prog_1_method_29_code 10 = .ok (.aload_n 0, 1) := by decide +kernel
theorem d_Rs_keepSelection_11 : decode prog_1_method_29_code 11 = .ok (.getfield 51, 3) := by decide +kernel
theorem d_Rs_keepSelection_14 : decode prog_1_method_29_code 14 = .ok (.iload_n 2, 1) := by decide +kernel
theorem d_Rs_keepSelection_15 : decode prog_1_method_29_code 15 = .ok (.aload_n 0, 1) := by decide +kernel
theorem d_Rs_keepSelection_16 : decode prog_1_method_29_code 16 = .ok (.getfield 32, 3) := by decide +kernel
theorem d_Rs_keepSelection_19 : decode prog_1_method_29_code 19 = .ok (.iload_n 2, 1) := by decide +kernel
theorem d_Rs_keepSelection_20 : decode prog_1_method_29_code 20 = .ok (.invokevirtual 219, 3) := by decide +kernel
theorem d_Rs_keepSelection_23 : decode prog_1_method_29_code 23 = .ok (.iastore, 1) := by decide +kernel
theorem d_Rs_keepSelection_24 : decode prog_1_method_29_code 24 = .ok (.aload_n 0, 1) := by decide +kernel
theorem d_Rs_keepSelection_25 : decode prog_1_method_29_code 25 = .ok (.getfield 51, 3) := by decide +kernel
theorem d_Rs_keepSelection_28 : decode prog_1_method_29_code 28 = .ok (.iload_n 2, 1) := by decide +kernel
theorem d_Rs_keepSelection_29 : decode prog_1_method_29_code 29 = .ok (.iaload, 1) := by decide +kernel
theorem d_Rs_keepSelection_30 : decode prog_1_method_29_code 30 = .ok (.bipush (-4), 2) := by decide +kernel
theorem d_Rs_keepSelection_32 : decode prog_1_method_29_code 32 = .ok (.if_icmp .eq 6, 3) := by decide +kernel
theorem d_Rs_keepSelection_35 : decode prog_1_method_29_code 35 = .ok (.iinc 1 1, 3) := by decide +kernel
theorem d_Rs_keepSelection_38 : decode prog_1_method_29_code 38 = .ok (.iinc 2 1, 3) := by decide +kernel
theorem d_Rs_keepSelection_41 : decode prog_1_method_29_code 41 = .ok (.goto (-37), 3) := by decide +kernel
theorem d_Rs_keepSelection_44 : decode prog_1_method_29_code 44 = .ok (.iload_n 1, 1) := by decide +kernel
theorem d_Rs_keepSelection_45 : decode prog_1_method_29_code 45 = .ok (.ireturn, 1) := by decide +kernel
theorem d_Rs_blameAmong_0 : decode prog_1_method_30_code 0 = .ok (.iload_n 1, 1) := by decide +kernel
theorem d_Rs_blameAmong_1 : decode prog_1_method_30_code 1 = .ok (.istore_n 2, 1) := by decide +kernel
theorem d_Rs_blameAmong_2 : decode prog_1_method_30_code 2 = .ok (.iconst 0, 1) := by decide +kernel
theorem d_Rs_blameAmong_3 : decode prog_1_method_30_code 3 = .ok (.istore_n 3, 1) := by decide +kernel
theorem d_Rs_blameAmong_4 : decode prog_1_method_30_code 4 = .ok (.iload_n 3, 1) := by decide +kernel
theorem d_Rs_blameAmong_5 : decode prog_1_method_30_code 5 = .ok (.aload_n 0, 1) := by decide +kernel
theorem d_Rs_blameAmong_6 : decode prog_1_method_30_code 6 = .ok (.getfield 25, 3) := by decide +kernel
theorem d_Rs_blameAmong_9 : decode prog_1_method_30_code 9 = .ok (.invokevirtual 121, 3) := by decide +kernel
theorem d_Rs_blameAmong_12 : decode prog_1_method_30_code 12 = .ok (.if_icmp .ge 33, 3) := by decide +kernel
theorem d_Rs_blameAmong_15 : decode prog_1_method_30_code 15 = .ok (.iload_n 2, 1) := by decide +kernel
theorem d_Rs_blameAmong_16 : decode prog_1_method_30_code 16 = .ok (.iconst 1, 1) := by decide +kernel
theorem d_Rs_blameAmong_17 : decode prog_1_method_30_code 17 = .ok (.iload_n 3, 1) := by decide +kernel
theorem d_Rs_blameAmong_18 : decode prog_1_method_30_code 18 = .ok (.ishl, 1) := by decide +kernel
theorem d_Rs_blameAmong_19 : decode prog_1_method_30_code 19 = .ok (.iconst (-1), 1) := by decide +kernel
theorem d_Rs_blameAmong_20 : decode prog_1_method_30_code 20 = .ok (.ixor, 1) := by decide +kernel
theorem d_Rs_blameAmong_21 : decode prog_1_method_30_code 21 = .ok (.iand, 1) := by decide +kernel
theorem d_Rs_blameAmong_22 : decode prog_1_method_30_code 22 = .ok (.istore 4, 2) := by decide +kernel
theorem d_Rs_blameAmong_24 : decode prog_1_method_30_code 24 = .ok (.aload_n 0, 1) := by decide +kernel
theorem d_Rs_blameAmong_25 : decode prog_1_method_30_code 25 = .ok (.getfield 32, 3) := by decide +kernel
theorem d_Rs_blameAmong_28 : decode prog_1_method_30_code 28 = .ok (.iload 4, 2) := by decide +kernel
theorem d_Rs_blameAmong_30 : decode prog_1_method_30_code 30 = .ok (.invokevirtual 171, 3) := by decide +kernel
theorem d_Rs_blameAmong_33 : decode prog_1_method_30_code 33 = .ok (.ifCond .ne 6, 3) := by decide +kernel
theorem d_Rs_blameAmong_36 : decode prog_1_method_30_code 36 = .ok (.iload 4, 2) := by decide +kernel
theorem d_Rs_blameAmong_38 : decode prog_1_method_30_code 38 = .ok (.istore_n 2, 1) := by decide +kernel
theorem d_Rs_blameAmong_39 : decode prog_1_method_30_code 39 = .ok (.iinc 3 1, 3) := by decide +kernel
theorem d_Rs_blameAmong_42 : decode prog_1_method_30_code 42 = .ok (.goto (-38), 3) := by decide +kernel
theorem d_Rs_blameAmong_45 : decode prog_1_method_30_code 45 = .ok (.iload_n 2, 1) := by decide +kernel
theorem d_Rs_blameAmong_46 : decode prog_1_method_30_code 46 = .ok (.ireturn, 1) := by decide +kernel
theorem d_Rs_chosen_0 : decode prog_1_method_15_code 0 = .ok (.iload_n 1, 1) := by decide +kernel
theorem d_Rs_chosen_1 : decode prog_1_method_15_code 1 = .ok (.invokestatic 85, 3) := by decide +kernel
theorem d_Rs_chosen_4 : decode prog_1_method_15_code 4 = .ok (.ifCond .eq 12, 3) := by decide +kernel
theorem d_Rs_chosen_7 : decode prog_1_method_15_code 7 = .ok (.aload_n 0, 1) := by decide +kernel
theorem d_Rs_chosen_8 : decode prog_1_method_15_code 8 = .ok (.getfield 51, 3) := by decide +kernel
theorem d_Rs_chosen_11 : decode prog_1_method_15_code 11 = .ok (.iload_n 1, 1) := by decide +kernel
theorem d_Rs_chosen_12 : decode prog_1_method_15_code 12 = .ok (.iaload, 1) := by decide +kernel
theorem d_Rs_chosen_13 : decode prog_1_method_15_code 13 = .ok (.goto 4, 3) := by decide +kernel
theorem d_Rs_chosen_16 : decode prog_1_method_15_code 16 = .ok (.iconst (-1), 1) := by decide +kernel
theorem d_Rs_chosen_17 : decode prog_1_method_15_code 17 = .ok (.ireturn, 1) := by decide +kernel
theorem d_Rs_blamed_0 : decode prog_1_method_16_code 0 = .ok (.iload_n 1, 1) := by decide +kernel
theorem d_Rs_blamed_1 : decode prog_1_method_16_code 1 = .ok (.ifCond .lt 23, 3) := by decide +kernel
theorem d_Rs_blamed_4 : decode prog_1_method_16_code 4 = .ok (.iload_n 1, 1) := by decide +kernel
theorem d_Rs_blamed_5 : decode prog_1_method_16_code 5 = .ok (.iconst 4, 1) := by decide +kernel
theorem d_Rs_blamed_6 : decode prog_1_method_16_code 6 = .ok (.if_icmp .ge 18, 3) := by decide +kernel
theorem d_Rs_blamed_9 : decode prog_1_method_16_code 9 = .ok (.aload_n 0, 1) := by decide +kernel
theorem d_Rs_blamed_10 : decode prog_1_method_16_code 10 = .ok (.getfield 55, 3) := by decide +kernel
theorem d_Rs_blamed_13 : decode prog_1_method_16_code 13 = .ok (.iload_n 1, 1) := by decide +kernel
theorem d_Rs_blamed_14 : decode prog_1_method_16_code 14 = .ok (.invokestatic 180, 3) := by decide +kernel
theorem d_Rs_blamed_17 : decode prog_1_method_16_code 17 = .ok (.ifCond .eq 7, 3) := by decide +kernel
theorem d_Rs_blamed_20 : decode prog_1_method_16_code 20 = .ok (.iconst 1, 1) := by decide +kernel
theorem d_Rs_blamed_21 : decode prog_1_method_16_code 21 = .ok (.goto 4, 3) := by decide +kernel
theorem d_Rs_blamed_24 : decode prog_1_method_16_code 24 = .ok (.iconst 0, 1) := by decide +kernel
theorem d_Rs_blamed_25 : decode prog_1_method_16_code 25 = .ok (.ireturn, 1) := by decide +kernel
theorem d_Rs_unmet_0 : decode prog_1_method_17_code 0 = .ok (.aload_n 0, 1) := by decide +kernel
theorem d_Rs_unmet_1 : decode prog_1_method_17_code 1 = .ok (.getfield 47, 3) := by decide +kernel
theorem d_Rs_unmet_4 : decode prog_1_method_17_code 4 = .ok (.ifCond .ne 6, 3) := by decide +kernel
theorem d_Rs_unmet_7 : decode prog_1_method_17_code 7 = .ok (.bipush (-4), 2) := by decide +kernel
theorem d_Rs_unmet_9 : decode prog_1_method_17_code 9 = .ok (.ireturn, 1) := by decide +kernel
theorem d_Rs_unmet_10 : decode prog_1_method_17_code 10 = .ok (.iconst 0, 1) := by decide +kernel
theorem d_Rs_unmet_11 : decode prog_1_method_17_code 11 = .ok (.istore_n 1, 1) := by decide +kernel
theorem d_Rs_unmet_12 : decode prog_1_method_17_code 12 = .ok (.iconst 0, 1) := by decide +kernel
theorem d_Rs_unmet_13 : decode prog_1_method_17_code 13 = .ok (.istore_n 2, 1) := by decide +kernel
theorem d_Rs_unmet_14 : decode prog_1_method_17_code 14 = .ok (.iload_n 2, 1) := by decide +kernel
theorem d_Rs_unmet_15 : decode prog_1_method_17_code 15 = .ok (.aload_n 0, 1) := by decide +kernel
theorem d_Rs_unmet_16 : decode prog_1_method_17_code 16 = .ok (.getfield 25, 3) := by decide +kernel
theorem d_Rs_unmet_19 : decode prog_1_method_17_code 19 = .ok (.invokevirtual 121, 3) := by decide +kernel
theorem d_Rs_unmet_22 : decode prog_1_method_17_code 22 = .ok (.if_icmp .ge 30, 3) := by decide +kernel
theorem d_Rs_unmet_25 : decode prog_1_method_17_code 25 = .ok (.aload_n 0, 1) := by decide +kernel
theorem d_Rs_unmet_26 : decode prog_1_method_17_code 26 = .ok (.aload_n 0, 1) := by decide +kernel
theorem d_Rs_unmet_27 : decode prog_1_method_17_code 27 = .ok (.getfield 25, 3) := by decide +kernel
theorem d_Rs_unmet_30 : decode prog_1_method_17_code 30 = .ok (.iload_n 2, 1) := by decide +kernel
theorem d_Rs_unmet_31 : decode prog_1_method_17_code 31 = .ok (.invokevirtual 184, 3) := by decide +kernel
theorem d_Rs_unmet_34 : decode prog_1_method_17_code 34 = .ok (.checkcast 145, 3) := by decide +kernel
theorem d_Rs_unmet_37 : decode prog_1_method_17_code 37 = .ok (.invokevirtual 187, 3) := by decide +kernel
theorem d_Rs_unmet_40 : decode prog_1_method_17_code 40 = .ok (.ifCond .ne 6, 3) := by decide +kernel
theorem d_Rs_unmet_43 : decode prog_1_method_17_code 43 = .ok (.iinc 1 1, 3) := by decide +kernel
theorem d_Rs_unmet_46 : decode prog_1_method_17_code 46 = .ok (.iinc 2 1, 3) := by decide +kernel
theorem d_Rs_unmet_49 : decode prog_1_method_17_code 49 = .ok (.goto (-35), 3) := by decide +kernel
theorem d_Rs_unmet_52 : decode prog_1_method_17_code 52 = .ok (.iload_n 1, 1) := by decide +kernel
theorem d_Rs_unmet_53 : decode prog_1_method_17_code 53 = .ok (.ireturn, 1) := by decide +kernel
theorem d_Rs_isMet_0 : decode prog_1_method_31_code 0 = .ok (.aload_n 0, 1) := by decide +kernel
theorem d_Rs_isMet_1 : decode prog_1_method_31_code 1 = .ok (.aload_n 1, 1) := by decide +kernel
theorem d_Rs_isMet_2 : decode prog_1_method_31_code 2 = .ok (.getfield 222, 3) := by decide +kernel
theorem d_Rs_isMet_5 : decode prog_1_method_31_code 5 = .ok (.aload_n 0, 1) := by decide +kernel
theorem d_Rs_isMet_6 : decode prog_1_method_31_code 6 = .ok (.getfield 51, 3) := by decide +kernel
theorem d_Rs_isMet_9 : decode prog_1_method_31_code 9 = .ok (.aload_n 1, 1) := by decide +kernel
theorem d_Rs_isMet_10 : decode prog_1_method_31_code 10 = .ok (.getfield 222, 3) := by decide +kernel
theorem d_Rs_isMet_13 : decode prog_1_method_31_code 13 = .ok (.iaload, 1) := by decide +kernel
theorem d_Rs_isMet_14 : decode prog_1_method_31_code 14 = .ok (.invokevirtual 109, 3) := by decide +kernel
theorem d_Rs_isMet_17 : decode prog_1_method_31_code 17 = .ok (.astore_n 2, 1) := by decide +kernel
theorem d_Rs_isMet_18 : decode prog_1_method_31_code 18 = .ok (.aload_n 2, 1) := by decide +kernel
theorem d_Rs_isMet_19 : decode prog_1_method_31_code 19 = .ok (.ifnull 21, 3) := by decide +kernel
theorem d_Rs_isMet_22 : decode prog_1_method_31_code 22 = .ok (.aload_n 1, 1) := by decide +kernel
theorem d_Rs_isMet_23 : decode prog_1_method_31_code 23 = .ok (.getfield 225, 3) := by decide +kernel
theorem d_Rs_isMet_26 : decode prog_1_method_31_code 26 = .ok (.aload_n 2, 1) := by decide +kernel
theorem d_Rs_isMet_27 : decode prog_1_method_31_code 27 = .ok (.getfield 154, 3) := by decide +kernel
theorem d_Rs_isMet_30 : decode prog_1_method_31_code 30 = .ok (.invokevirtual 164, 3) := by decide +kernel
theorem d_Rs_isMet_33 : decode prog_1_method_31_code 33 = .ok (.ifCond .eq 7, 3) := by decide +kernel
theorem d_Rs_isMet_36 : decode prog_1_method_31_code 36 = .ok (.iconst 1, 1) := by decide +kernel
theorem d_Rs_isMet_37 : decode prog_1_method_31_code 37 = .ok (.goto 4, 3) := by decide +kernel
theorem d_Rs_isMet_40 : decode prog_1_method_31_code 40 = .ok (.iconst 0, 1) := by decide +kernel
theorem d_Rs_isMet_41 : decode prog_1_method_31_code 41 = .ok (.ireturn, 1) := by decide +kernel
theorem d_Rs_count_0 : decode prog_1_method_18_code 0 = .ok (.iload_n 1, 1) := by decide +kernel
theorem d_Rs_count_1 : decode prog_1_method_18_code 1 = .ok (.tableswitch 66 0 4 #[35, 43, 51, 56, 61], 35) := by decide +kernel
theorem d_Rs_count_36 : decode prog_1_method_18_code 36 = .ok (.aload_n 0, 1) := by decide +kernel
theorem d_Rs_count_37 : decode prog_1_method_18_code 37 = .ok (.getfield 10, 3) := by decide +kernel
theorem d_Rs_count_40 : decode prog_1_method_18_code 40 = .ok (.invokevirtual 70, 3) := by decide +kernel
theorem d_Rs_count_43 : decode prog_1_method_18_code 43 = .ok (.ireturn, 1) := by decide +kernel
theorem d_Rs_count_44 : decode prog_1_method_18_code 44 = .ok (.aload_n 0, 1) := by decide +kernel
theorem d_Rs_count_45 : decode prog_1_method_18_code 45 = .ok (.getfield 25, 3) := by decide +kernel
theorem d_Rs_count_48 : decode prog_1_method_18_code 48 = .ok (.invokevirtual 121, 3) := by decide +kernel
theorem d_Rs_count_51 : decode prog_1_method_18_code 51 = .ok (.ireturn, 1) := by decide +kernel
theorem d_Rs_count_52 : decode prog_1_method_18_code 52 = .ok (.aload_n 0, 1) := by decide +kernel
theorem d_Rs_count_53 : decode prog_1_method_18_code 53 = .ok (.invokevirtual 191, 3) := by decide +kernel
theorem d_Rs_count_56 : decode prog_1_method_18_code 56 = .ok (.ireturn, 1) := by decide +kernel
theorem d_Rs_count_57 : decode prog_1_method_18_code 57 = .ok (.aload_n 0, 1) := by decide +kernel
theorem d_Rs_count_58 : decode prog_1_method_18_code 58 = .ok (.invokevirtual 194, 3) := by decide +kernel
theorem d_Rs_count_61 : decode prog_1_method_18_code 61 = .ok (.ireturn, 1) := by decide +kernel
theorem d_Rs_count_62 : decode prog_1_method_18_code 62 = .ok (.aload_n 0, 1) := by decide +kernel
theorem d_Rs_count_63 : decode prog_1_method_18_code 63 = .ok (.invokevirtual 197, 3) := by decide +kernel
theorem d_Rs_count_66 : decode prog_1_method_18_code 66 = .ok (.ireturn, 1) := by decide +kernel
theorem d_Rs_count_67 : decode prog_1_method_18_code 67 = .ok (.iconst (-1), 1) := by decide +kernel
theorem d_Rs_count_68 : decode prog_1_method_18_code 68 = .ok (.ireturn, 1) := by decide +kernel
theorem d_Rs_countReleases_0 : decode prog_1_method_32_code 0 = .ok (.iconst 0, 1) := by decide +kernel
theorem d_Rs_countReleases_1 : decode prog_1_method_32_code 1 = .ok (.istore_n 1, 1) := by decide +kernel
theorem d_Rs_countReleases_2 : decode prog_1_method_32_code 2 = .ok (.aload_n 0, 1) := by decide +kernel
theorem d_Rs_countReleases_3 : decode prog_1_method_32_code 3 = .ok (.getfield 18, 3) := by decide +kernel
theorem d_Rs_countReleases_6 : decode prog_1_method_32_code 6 = .ok (.astore_n 2, 1) := by decide +kernel
theorem d_Rs_countReleases_7 : decode prog_1_method_32_code 7 = .ok (.aload_n 2, 1) := by decide +kernel
theorem d_Rs_countReleases_8 : decode prog_1_method_32_code 8 = .ok (.arraylength, 1) := by decide +kernel
theorem d_Rs_countReleases_9 : decode prog_1_method_32_code 9 = .ok (.istore_n 3, 1) := by decide +kernel
theorem d_Rs_countReleases_10 : decode prog_1_method_32_code 10 = .ok (.iconst 0, 1) := by decide +kernel
theorem d_Rs_countReleases_11 : decode prog_1_method_32_code 11 = .ok (.istore 4, 2) := by decide +kernel
theorem d_Rs_countReleases_13 : decode prog_1_method_32_code 13 = .ok (.iload 4, 2) := by decide +kernel
theorem d_Rs_countReleases_15 : decode prog_1_method_32_code 15 = .ok (.iload_n 3, 1) := by decide +kernel
theorem d_Rs_countReleases_16 : decode prog_1_method_32_code 16 = .ok (.if_icmp .ge 23, 3) := by decide +kernel
theorem d_Rs_countReleases_19 : decode prog_1_method_32_code 19 = .ok (.aload_n 2, 1) := by decide +kernel
theorem d_Rs_countReleases_20 : decode prog_1_method_32_code 20 = .ok (.iload 4, 2) := by decide +kernel
theorem d_Rs_countReleases_22 : decode prog_1_method_32_code 22 = .ok (.aaload, 1) := by decide +kernel
theorem d_Rs_countReleases_23 : decode prog_1_method_32_code 23 = .ok (.astore 5, 2) := by decide +kernel
theorem d_Rs_countReleases_25 : decode prog_1_method_32_code 25 = .ok (.iload_n 1, 1) := by decide +kernel
theorem d_Rs_countReleases_26 : decode prog_1_method_32_code 26 = .ok (.aload 5, 2) := by decide +kernel
theorem d_Rs_countReleases_28 : decode prog_1_method_32_code 28 = .ok (.invokevirtual 228, 3) := by decide +kernel
theorem d_Rs_countReleases_31 : decode prog_1_method_32_code 31 = .ok (.iadd, 1) := by decide +kernel
theorem d_Rs_countReleases_32 : decode prog_1_method_32_code 32 = .ok (.istore_n 1, 1) := by decide +kernel
theorem d_Rs_countReleases_33 : decode prog_1_method_32_code 33 = .ok (.iinc 4 1, 3) := by decide +kernel
theorem d_Rs_countReleases_36 : decode prog_1_method_32_code 36 = .ok (.goto (-23), 3) := by decide +kernel
theorem d_Rs_countReleases_39 : decode prog_1_method_32_code 39 = .ok (.iload_n 1, 1) := by decide +kernel
theorem d_Rs_countReleases_40 : decode prog_1_method_32_code 40 = .ok (.ireturn, 1) := by decide +kernel
theorem d_Rs_countWithdrawn_0 : decode prog_1_method_33_code 0 = .ok (.iconst 0, 1) := by decide +kernel
theorem d_Rs_countWithdrawn_1 : decode prog_1_method_33_code 1 = .ok (.istore_n 1, 1) := by decide +kernel
theorem d_Rs_countWithdrawn_2 : decode prog_1_method_33_code 2 = .ok (.aload_n 0, 1) := by decide +kernel
theorem d_Rs_countWithdrawn_3 : decode prog_1_method_33_code 3 = .ok (.getfield 18, 3) := by decide +kernel
theorem d_Rs_countWithdrawn_6 : decode prog_1_method_33_code 6 = .ok (.astore_n 2, 1) := by decide +kernel
theorem d_Rs_countWithdrawn_7 : decode prog_1_method_33_code 7 = .ok (.aload_n 2, 1) := by decide +kernel
theorem d_Rs_countWithdrawn_8 : decode prog_1_method_33_code 8 = .ok (.arraylength, 1) := by decide +kernel
theorem d_Rs_countWithdrawn_9 : decode prog_1_method_33_code 9 = .ok (.istore_n 3, 1) := by decide +kernel
theorem d_Rs_countWithdrawn_10 : decode prog_1_method_33_code 10 = .ok (.iconst 0, 1) := by decide +kernel
theorem d_Rs_countWithdrawn_11 : decode prog_1_method_33_code 11 = .ok (.istore 4, 2) := by decide +kernel
theorem d_Rs_countWithdrawn_13 : decode prog_1_method_33_code 13 = .ok (.iload 4, 2) := by decide +kernel
theorem d_Rs_countWithdrawn_15 : decode prog_1_method_33_code 15 = .ok (.iload_n 3, 1) := by decide +kernel
