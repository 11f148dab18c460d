theorem d_Al_add_13 : decode prog_24_method_25_code 13 = .ok (.getfield 9, 3) := by decide +kernel
theorem d_Al_add_16 : decode prog_24_method_25_code 16 = .ok (.aload_n 0, 1) := by decide +kernel
theorem d_Al_add_17 : decode prog_24_method_25_code 17 = .ok (.getfield 48, 3) := by decide +kernel
theorem d_Al_add_20 : decode prog_24_method_25_code 20 = .ok (.invokevirtual 131, 3) := by decide +kernel
theorem d_Al_add_23 : decode prog_24_method_25_code 23 = .ok (.iconst 1, 1) := by decide +kernel
theorem d_Al_add_24 : decode prog_24_method_25_code 24 = .ok (.ireturn, 1) := by decide +kernel
theorem d_Al_add2_0 : decode prog_24_method_24_code 0 = .ok (.iload_n 3, 1) := by decide +kernel
theorem d_Al_add2_1 : decode prog_24_method_24_code 1 = .ok (.aload_n 2, 1) := by decide +kernel
theorem d_Al_add2_2 : decode prog_24_method_24_code 2 = .ok (.arraylength, 1) := by decide +kernel
theorem d_Al_add2_3 : decode prog_24_method_24_code 3 = .ok (.if_icmp .ne 8, 3) := by decide +kernel
theorem d_Al_add2_6 : decode prog_24_method_24_code 6 = .ok (.aload_n 0, 1) := by decide +kernel
theorem d_Al_add2_7 : decode prog_24_method_24_code 7 = .ok (.invokevirtual 129, 3) := by decide +kernel
theorem d_Al_add2_10 : decode prog_24_method_24_code 10 = .ok (.astore_n 2, 1) := by decide +kernel
theorem d_Al_add2_11 : decode prog_24_method_24_code 11 = .ok (.aload_n 2, 1) := by decide +kernel
theorem d_Al_add2_12 : decode prog_24_method_24_code 12 = .ok (.iload_n 3, 1) := by decide +kernel
theorem d_Al_add2_13 : decode prog_24_method_24_code 13 = .ok (.aload_n 1, 1) := by decide +kernel
theorem d_Al_add2_14 : decode prog_24_method_24_code 14 = .ok (.aastore, 1) := by decide +kernel
theorem d_Al_add2_15 : decode prog_24_method_24_code 15 = .ok (.aload_n 0, 1) := by decide +kernel
theorem d_Al_add2_16 : decode prog_24_method_24_code 16 = .ok (.iload_n 3, 1) := by decide +kernel
theorem d_Al_add2_17 : decode prog_24_method_24_code 17 = .ok (.iconst 1, 1) := by decide +kernel
theorem d_Al_add2_18 : decode prog_24_method_24_code 18 = .ok (.iadd, 1) := by decide +kernel
theorem d_Al_add2_19 : decode prog_24_method_24_code 19 = .ok (.putfield 48, 3) := by decide +kernel
theorem d_Al_add2_22 : decode prog_24_method_24_code 22 = .ok (.return_, 1) := by decide +kernel
theorem d_Al_grow_0 : decode prog_24_method_7_code 0 = .ok (.aload_n 0, 1) := by decide +kernel
theorem d_Al_grow_1 : decode prog_24_method_7_code 1 = .ok (.aload_n 0, 1) := by decide +kernel
theorem d_Al_grow_2 : decode prog_24_method_7_code 2 = .ok (.getfield 48, 3) := by decide +kernel
theorem d_Al_grow_5 : decode prog_24_method_7_code 5 = .ok (.iconst 1, 1) := by decide +kernel
theorem d_Al_grow_6 : decode prog_24_method_7_code 6 = .ok (.iadd, 1) := by decide +kernel
theorem d_Al_grow_7 : decode prog_24_method_7_code 7 = .ok (.invokevirtual 69, 3) := by decide +kernel
theorem d_Al_grow_10 : decode prog_24_method_7_code 10 = .ok (.areturn, 1) := by decide +kernel
theorem d_Al_grow2_0 : decode prog_24_method_6_code 0 = .ok (.aload_n 0, 1) := by decide +kernel
theorem d_Al_grow2_1 : decode prog_24_method_6_code 1 = .ok (.getfield 9, 3) := by decide +kernel
theorem d_Al_grow2_4 : decode prog_24_method_6_code 4 = .ok (.arraylength, 1) := by decide +kernel
theorem d_Al_grow2_5 : decode prog_24_method_6_code 5 = .ok (.istore_n 2, 1) := by decide +kernel
theorem d_Al_grow2_6 : decode prog_24_method_6_code 6 = .ok (.iload_n 2, 1) := by decide +kernel
theorem d_Al_grow2_7 : decode prog_24_method_6_code 7 = .ok (.ifCond .gt 13, 3) := by decide +kernel
theorem d_Al_grow2_10 : decode prog_24_method_6_code 10 = .ok (.aload_n 0, 1) := by decide +kernel
theorem d_Al_grow2_11 : decode prog_24_method_6_code 11 = .ok (.getfield 9, 3) := by decide +kernel
theorem d_Al_grow2_14 : decode prog_24_method_6_code 14 = .ok (.getstatic 39, 3) := by decide +kernel
theorem d_Al_grow2_17 : decode prog_24_method_6_code 17 = .ok (.if_acmp .eq 28, 3) := by decide +kernel
theorem d_Al_grow2_20 : decode prog_24_method_6_code 20 = .ok (.iload_n 2, 1) := by decide +kernel
theorem d_Al_grow2_21 : decode prog_24_method_6_code 21 = .ok (.iload_n 1, 1) := by decide +kernel
theorem d_Al_grow2_22 : decode prog_24_method_6_code 22 = .ok (.iload_n 2, 1) := by decide +kernel
theorem d_Al_grow2_23 : decode prog_24_method_6_code 23 = .ok (.isub, 1) := by decide +kernel
theorem d_Al_grow2_24 : decode prog_24_method_6_code 24 = .ok (.iload_n 2, 1) := by decide +kernel
theorem d_Al_grow2_25 : decode prog_24_method_6_code 25 = .ok (.iconst 1, 1) := by decide +kernel
theorem d_Al_grow2_26 : decode prog_24_method_6_code 26 = .ok (.ishr, 1) := by decide +kernel
theorem d_Al_grow2_27 : decode prog_24_method_6_code 27 = .ok (.invokestatic 73, 3) := by decide +kernel
theorem d_Al_grow2_30 : decode prog_24_method_6_code 30 = .ok (.istore_n 3, 1) := by decide +kernel
theorem d_Al_grow2_31 : decode prog_24_method_6_code 31 = .ok (.aload_n 0, 1) := by decide +kernel
theorem d_Al_grow2_32 : decode prog_24_method_6_code 32 = .ok (.aload_n 0, 1) := by decide +kernel
theorem d_Al_grow2_33 : decode prog_24_method_6_code 33 = .ok (.getfield 9, 3) := by decide +kernel
theorem d_Al_grow2_36 : decode prog_24_method_6_code 36 = .ok (.iload_n 3, 1) := by decide +kernel
theorem d_Al_grow2_37 : decode prog_24_method_6_code 37 = .ok (.invokestatic 66, 3) := by decide +kernel
theorem d_Al_grow2_40 : decode prog_24_method_6_code 40 = .ok (.dup_x1, 1) := by decide +kernel
theorem d_Al_grow2_41 : decode prog_24_method_6_code 41 = .ok (.putfield 9, 3) := by decide +kernel
theorem d_Al_grow2_44 : decode prog_24_method_6_code 44 = .ok (.areturn, 1) := by decide +kernel
theorem d_Al_grow2_45 : decode prog_24_method_6_code 45 = .ok (.aload_n 0, 1) := by decide +kernel
theorem d_Al_grow2_46 : decode prog_24_method_6_code 46 = .ok (.bipush 10, 2) := by decide +kernel
theorem d_Al_grow2_48 : decode prog_24_method_6_code 48 = .ok (.iload_n 1, 1) := by decide +kernel
theorem d_Al_grow2_49 : decode prog_24_method_6_code 49 = .ok (.invokestatic 79, 3) := by decide +kernel
theorem d_Al_grow2_52 : decode prog_24_method_6_code 52 = .ok (.anewarray 7, 3) := by decide +kernel
theorem d_Al_grow2_55 : decode prog_24_method_6_code 55 = .ok (.dup_x1, 1) := by decide +kernel
theorem d_Al_grow2_56 : decode prog_24_method_6_code 56 = .ok (.putfield 9, 3) := by decide +kernel
theorem d_Al_grow2_59 : decode prog_24_method_6_code 59 = .ok (.areturn, 1) := by decide +kernel
theorem d_Al_remove_0 : decode prog_24_method_29_code 0 = .ok (.iload_n 1, 1) := by decide +kernel
theorem d_Al_remove_1 : decode prog_24_method_29_code 1 = .ok (.aload_n 0, 1) := by decide +kernel
theorem d_Al_remove_2 : decode prog_24_method_29_code 2 = .ok (.getfield 48, 3) := by decide +kernel
theorem d_Al_remove_5 : decode prog_24_method_29_code 5 = .ok (.invokestatic 118, 3) := by decide +kernel
theorem d_Al_remove_8 : decode prog_24_method_29_code 8 = .ok (.pop, 1) := by decide +kernel
theorem d_Al_remove_9 : decode prog_24_method_29_code 9 = .ok (.aload_n 0, 1) := by decide +kernel
theorem d_Al_remove_10 : decode prog_24_method_29_code 10 = .ok (.getfield 9, 3) := by decide +kernel
theorem d_Al_remove_13 : decode prog_24_method_29_code 13 = .ok (.astore_n 2, 1) := by decide +kernel
theorem d_Al_remove_14 : decode prog_24_method_29_code 14 = .ok (.aload_n 2, 1) := by decide +kernel
theorem d_Al_remove_15 : decode prog_24_method_29_code 15 = .ok (.iload_n 1, 1) := by decide +kernel
theorem d_Al_remove_16 : decode prog_24_method_29_code 16 = .ok (.aaload, 1) := by decide +kernel
theorem d_Al_remove_17 : decode prog_24_method_29_code 17 = .ok (.astore_n 3, 1) := by decide +kernel
theorem d_Al_remove_18 : decode prog_24_method_29_code 18 = .ok (.aload_n 0, 1) := by decide +kernel
theorem d_Al_remove_19 : decode prog_24_method_29_code 19 = .ok (.aload_n 2, 1) := by decide +kernel
theorem d_Al_remove_20 : decode prog_24_method_29_code 20 = .ok (.iload_n 1, 1) := by decide +kernel
theorem d_Al_remove_21 : decode prog_24_method_29_code 21 = .ok (.invokevirtual 144, 3) := by decide +kernel
theorem d_Al_remove_24 : decode prog_24_method_29_code 24 = .ok (.aload_n 3, 1) := by decide +kernel
theorem d_Al_remove_25 : decode prog_24_method_29_code 25 = .ok (.areturn, 1) := by decide +kernel
theorem d_Al_fastRemove_0 : decode prog_24_method_39_code 0 = .ok (.aload_n 0, 1) := by decide +kernel
theorem d_Al_fastRemove_1 : decode prog_24_method_39_code 1 = .ok (.dup, 1) := by decide +kernel
theorem d_Al_fastRemove_2 : decode prog_24_method_39_code 2 = .ok (.getfield 63, 3) := by decide +kernel
theorem d_Al_fastRemove_5 : decode prog_24_method_39_code 5 = .ok (.iconst 1, 1) := by decide +kernel
theorem d_Al_fastRemove_6 : decode prog_24_method_39_code 6 = .ok (.iadd, 1) := by decide +kernel
theorem d_Al_fastRemove_7 : decode prog_24_method_39_code 7 = .ok (.putfield 63, 3) := by decide +kernel
theorem d_Al_fastRemove_10 : decode prog_24_method_39_code 10 = .ok (.aload_n 0, 1) := by decide +kernel
theorem d_Al_fastRemove_11 : decode prog_24_method_39_code 11 = .ok (.getfield 48, 3) := by decide +kernel
theorem d_Al_fastRemove_14 : decode prog_24_method_39_code 14 = .ok (.iconst 1, 1) := by decide +kernel
theorem d_Al_fastRemove_15 : decode prog_24_method_39_code 15 = .ok (.isub, 1) := by decide +kernel
theorem d_Al_fastRemove_16 : decode prog_24_method_39_code 16 = .ok (.dup, 1) := by decide +kernel
theorem d_Al_fastRemove_17 : decode prog_24_method_39_code 17 = .ok (.istore_n 3, 1) := by decide +kernel
theorem d_Al_fastRemove_18 : decode prog_24_method_39_code 18 = .ok (.iload_n 2, 1) := by decide +kernel
theorem d_Al_fastRemove_19 : decode prog_24_method_39_code 19 = .ok (.if_icmp .le 15, 3) := by decide +kernel
theorem d_Al_fastRemove_22 : decode prog_24_method_39_code 22 = .ok (.aload_n 1, 1) := by decide +kernel
theorem d_Al_fastRemove_23 : decode prog_24_method_39_code 23 = .ok (.iload_n 2, 1) := by decide +kernel
theorem d_Al_fastRemove_24 : decode prog_24_method_39_code 24 = .ok (.iconst 1, 1) := by decide +kernel
theorem d_Al_fastRemove_25 : decode prog_24_method_39_code 25 = .ok (.iadd, 1) := by decide +kernel
theorem d_Al_fastRemove_26 : decode prog_24_method_39_code 26 = .ok (.aload_n 1, 1) := by decide +kernel
theorem d_Al_fastRemove_27 : decode prog_24_method_39_code 27 = .ok (.iload_n 2, 1) := by decide +kernel
theorem d_Al_fastRemove_28 : decode prog_24_method_39_code 28 = .ok (.iload_n 3, 1) := by decide +kernel
theorem d_Al_fastRemove_29 : decode prog_24_method_39_code 29 = .ok (.iload_n 2, 1) := by decide +kernel
theorem d_Al_fastRemove_30 : decode prog_24_method_39_code 30 = .ok (.isub, 1) := by decide +kernel
theorem d_Al_fastRemove_31 : decode prog_24_method_39_code 31 = .ok (.invokestatic 112, 3) := by decide +kernel
theorem d_Al_fastRemove_34 : decode prog_24_method_39_code 34 = .ok (.aload_n 1, 1) := by decide +kernel
theorem d_Al_fastRemove_35 : decode prog_24_method_39_code 35 = .ok (.aload_n 0, 1) := by decide +kernel
theorem d_Al_fastRemove_36 : decode prog_24_method_39_code 36 = .ok (.iload_n 3, 1) := by decide +kernel
theorem d_Al_fastRemove_37 : decode prog_24_method_39_code 37 = .ok (.dup_x1, 1) := by decide +kernel
theorem d_Al_fastRemove_38 : decode prog_24_method_39_code 38 = .ok (.putfield 48, 3) := by decide +kernel
theorem d_Al_fastRemove_41 : decode prog_24_method_39_code 41 = .ok (.aconst_null, 1) := by decide +kernel
theorem d_Al_fastRemove_42 : decode prog_24_method_39_code 42 = .ok (.aastore, 1) := by decide +kernel
theorem d_Al_fastRemove_43 : decode prog_24_method_39_code 43 = .ok (.return_, 1) := by decide +kernel
theorem d_Ar_fill_0 : decode prog_25_method_103_code 0 = .ok (.iconst 0, 1) := by decide +kernel
theorem d_Ar_fill_1 : decode prog_25_method_103_code 1 = .ok (.istore_n 2, 1) := by decide +kernel
theorem d_Ar_fill_2 : decode prog_25_method_103_code 2 = .ok (.aload_n 0, 1) := by decide +kernel
theorem d_Ar_fill_3 : decode prog_25_method_103_code 3 = .ok (.arraylength, 1) := by decide +kernel
theorem d_Ar_fill_4 : decode prog_25_method_103_code 4 = .ok (.istore_n 3, 1) := by decide +kernel
theorem d_Ar_fill_5 : decode prog_25_method_103_code 5 = .ok (.iload_n 2, 1) := by decide +kernel
theorem d_Ar_fill_6 : decode prog_25_method_103_code 6 = .ok (.iload_n 3, 1) := by decide +kernel
theorem d_Ar_fill_7 : decode prog_25_method_103_code 7 = .ok (.if_icmp .ge 13, 3) := by decide +kernel
theorem d_Ar_fill_10 : decode prog_25_method_103_code 10 = .ok (.aload_n 0, 1) := by decide +kernel
theorem d_Ar_fill_11 : decode prog_25_method_103_code 11 = .ok (.iload_n 2, 1) := by decide +kernel
theorem d_Ar_fill_12 : decode prog_25_method_103_code 12 = .ok (.iload_n 1, 1) := by decide +kernel
theorem d_Ar_fill_13 : decode prog_25_method_103_code 13 = .ok (.iastore, 1) := by decide +kernel
theorem d_Ar_fill_14 : decode prog_25_method_103_code 14 = .ok (.iinc 2 1, 3) := by decide +kernel
theorem d_Ar_fill_17 : decode prog_25_method_103_code 17 = .ok (.goto (-12), 3) := by decide +kernel
theorem d_Ar_fill_20 : decode prog_25_method_103_code 20 = .ok (.return_, 1) := by decide +kernel
theorem d_Ar_copyOfRange_0 : decode prog_25_method_132_code 0 = .ok (.iload_n 1, 1) := by decide +kernel
theorem d_Ar_copyOfRange_1 : decode prog_25_method_132_code 1 = .ok (.ifCond .ne 9, 3) := by decide +kernel
theorem d_Ar_copyOfRange_4 : decode prog_25_method_132_code 4 = .ok (.iload_n 2, 1) := by decide +kernel
theorem d_Ar_copyOfRange_5 : decode prog_25_method_132_code 5 = .ok (.aload_n 0, 1) := by decide +kernel
theorem d_Ar_copyOfRange_6 : decode prog_25_method_132_code 6 = .ok (.arraylength, 1) := by decide +kernel
theorem d_Ar_copyOfRange_7 : decode prog_25_method_132_code 7 = .ok (.if_icmp .eq 10, 3) := by decide +kernel
theorem d_Ar_copyOfRange_10 : decode prog_25_method_132_code 10 = .ok (.aload_n 0, 1) := by decide +kernel
theorem d_Ar_copyOfRange_11 : decode prog_25_method_132_code 11 = .ok (.iload_n 1, 1) := by decide +kernel
theorem d_Ar_copyOfRange_12 : decode prog_25_method_132_code 12 = .ok (.iload_n 2, 1) := by decide +kernel
theorem d_Ar_copyOfRange_13 : decode prog_25_method_132_code 13 = .ok (.invokestatic 339, 3) := by decide +kernel
theorem d_Ar_copyOfRange_16 : decode prog_25_method_132_code 16 = .ok (.areturn, 1) := by decide +kernel
theorem d_Ar_copyOfRange_17 : decode prog_25_method_132_code 17 = .ok (.aload_n 0, 1) := by decide +kernel
theorem d_Ar_copyOfRange_18 : decode prog_25_method_132_code 18 = .ok (.invokevirtual 310, 3) := by decide +kernel
theorem d_Ar_copyOfRange_21 : decode prog_25_method_132_code 21 = .ok (.checkcast 311, 3) := by decide +kernel
theorem d_Ar_copyOfRange_24 : decode prog_25_method_132_code 24 = .ok (.areturn, 1) := by decide +kernel
theorem d_Ar_copyOfRangeByte_0 : decode prog_25_method_133_code 0 = .ok (.iload_n 1, 1) := by decide +kernel
theorem d_Ar_copyOfRangeByte_1 : decode prog_25_method_133_code 1 = .ok (.iload_n 2, 1) := by decide +kernel
theorem d_Ar_copyOfRangeByte_2 : decode prog_25_method_133_code 2 = .ok (.invokestatic 343, 3) := by decide +kernel
theorem d_Ar_copyOfRangeByte_5 : decode prog_25_method_133_code 5 = .ok (.iload_n 2, 1) := by decide +kernel
theorem d_Ar_copyOfRangeByte_6 : decode prog_25_method_133_code 6 = .ok (.iload_n 1, 1) := by decide +kernel
theorem d_Ar_copyOfRangeByte_7 : decode prog_25_method_133_code 7 = .ok (.isub, 1) := by decide +kernel
theorem d_Ar_copyOfRangeByte_8 : decode prog_25_method_133_code 8 = .ok (.istore_n 3, 1) := by decide +kernel
theorem d_Ar_copyOfRangeByte_9 : decode prog_25_method_133_code 9 = .ok (.iload_n 3, 1) := by decide +kernel
theorem d_Ar_copyOfRangeByte_10 : decode prog_25_method_133_code 10 = .ok (.newarray .byte, 2) := by decide +kernel
theorem d_Ar_copyOfRangeByte_12 : decode prog_25_method_133_code 12 = .ok (.astore 4, 2) := by decide +kernel
theorem d_Ar_copyOfRangeByte_14 : decode prog_25_method_133_code 14 = .ok (.aload_n 0, 1) := by decide +kernel
theorem d_Ar_copyOfRangeByte_15 : decode prog_25_method_133_code 15 = .ok (.iload_n 1, 1) := by decide +kernel
theorem d_Ar_copyOfRangeByte_16 : decode prog_25_method_133_code 16 = .ok (.aload 4, 2) := by decide +kernel
theorem d_Ar_copyOfRangeByte_18 : decode prog_25_method_133_code 18 = .ok (.iconst 0, 1) := by decide +kernel
theorem d_Ar_copyOfRangeByte_19 : decode prog_25_method_133_code 19 = .ok (.aload_n 0, 1) := by decide +kernel
theorem d_Ar_copyOfRangeByte_20 : decode prog_25_method_133_code 20 = .ok (.arraylength, 1) := by decide +kernel
theorem d_Ar_copyOfRangeByte_21 : decode prog_25_method_133_code 21 = .ok (.iload_n 1, 1) := by decide +kernel
theorem d_Ar_copyOfRangeByte_22 : decode prog_25_method_133_code 22 = .ok (.isub, 1) := by decide +kernel
theorem d_Ar_copyOfRangeByte_23 : decode prog_25_method_133_code 23 = .ok (.iload_n 3, 1) := by decide +kernel
theorem d_Ar_copyOfRangeByte_24 : decode prog_25_method_133_code 24 = .ok (.invokestatic 304, 3) := by decide +kernel
theorem d_Ar_copyOfRangeByte_27 : decode prog_25_method_133_code 27 = .ok (.invokestatic 150, 3) := by decide +kernel
theorem d_Ar_copyOfRangeByte_30 : decode prog_25_method_133_code 30 = .ok (.aload 4, 2) := by decide +kernel
theorem d_Ar_copyOfRangeByte_32 : decode prog_25_method_133_code 32 = .ok (.areturn, 1) := by decide +kernel
theorem d_Ar_checkLength_0 : decode prog_25_method_131_code 0 = .ok (.iload_n 1, 1) := by decide +kernel
theorem d_Ar_checkLength_1 : decode prog_25_method_131_code 1 = .ok (.iload_n 0, 1) := by decide +kernel
theorem d_Ar_checkLength_2 : decode prog_25_method_131_code 2 = .ok (.if_icmp .ge 35, 3) := by decide +kernel
theorem d_Ar_checkLength_5 : decode prog_25_method_131_code 5 = .ok (.new 43, 3) := by decide +kernel
theorem d_Ar_checkLength_8 : decode prog_25_method_131_code 8 = .ok (.dup, 1) := by decide +kernel
theorem d_Ar_checkLength_9 : decode prog_25_method_131_code 9 = .ok (.new 45, 3) := by decide +kernel
theorem d_Ar_checkLength_12 : decode prog_25_method_131_code 12 = .ok (.dup, 1) := by decide +kernel
theorem d_Ar_checkLength_13 : decode prog_25_method_131_code 13 = .ok (.invokespecial 47, 3) := by decide +kernel
theorem d_Ar_checkLength_16 : decode prog_25_method_131_code 16 = .ok (.iload_n 0, 1) := by decide +kernel
theorem d_Ar_checkLength_17 : decode prog_25_method_131_code 17 = .ok (.invokevirtual 54, 3) := by decide +kernel
theorem d_Ar_checkLength_20 : decode prog_25_method_131_code 20 = .ok (.ldc_w 337, 3) := by decide +kernel
theorem d_Ar_checkLength_23 : decode prog_25_method_131_code 23 = .ok (.invokevirtual 50, 3) := by decide +kernel
theorem d_Ar_checkLength_26 : decode prog_25_method_131_code 26 = .ok (.iload_n 1, 1) := by decide +kernel
theorem d_Ar_checkLength_27 : decode prog_25_method_131_code 27 = .ok (.invokevirtual 54, 3) := by decide +kernel
theorem d_Ar_checkLength_30 : decode prog_25_method_131_code 30 = .ok (.invokevirtual 61, 3) := by decide +kernel
theorem d_Ar_checkLength_33 : decode prog_25_method_131_code 33 = .ok (.invokespecial 65, 3) := by decide +kernel
theorem d_Ar_checkLength_36 : decode prog_25_method_131_code 36 = .ok (.athrow, 1) := by decide +kernel
theorem d_Ar_checkLength_37 : decode prog_25_method_131_code 37 = .ok (.return_, 1) := by decide +kernel
theorem d_Ar_copyOf_0 : decode prog_25_method_121_code 0 = .ok (.iload_n 1, 1) := by decide +kernel
theorem d_Ar_copyOf_1 : decode prog_25_method_121_code 1 = .ok (.aload_n 0, 1) := by decide +kernel
theorem d_Ar_copyOf_2 : decode prog_25_method_121_code 2 = .ok (.arraylength, 1) := by decide +kernel
theorem d_Ar_copyOf_3 : decode prog_25_method_121_code 3 = .ok (.if_icmp .ne 11, 3) := by decide +kernel
theorem d_Ar_copyOf_6 : decode prog_25_method_121_code 6 = .ok (.aload_n 0, 1) := by decide +kernel
theorem d_Ar_copyOf_7 : decode prog_25_method_121_code 7 = .ok (.invokevirtual 310, 3) := by decide +kernel
theorem d_Ar_copyOf_10 : decode prog_25_method_121_code 10 = .ok (.checkcast 311, 3) := by decide +kernel
theorem d_Ar_copyOf_13 : decode prog_25_method_121_code 13 = .ok (.areturn, 1) := by decide +kernel
theorem d_Ar_copyOf_14 : decode prog_25_method_121_code 14 = .ok (.iload_n 1, 1) := by decide +kernel
theorem d_Ar_copyOf_15 : decode prog_25_method_121_code 15 = .ok (.newarray .byte, 2) := by decide +kernel
theorem d_Ar_copyOf_17 : decode prog_25_method_121_code 17 = .ok (.astore_n 2, 1) := by decide +kernel
theorem d_Ar_copyOf_18 : decode prog_25_method_121_code 18 = .ok (.aload_n 0, 1) := by decide +kernel
theorem d_Ar_copyOf_19 : decode prog_25_method_121_code 19 = .ok (.iconst 0, 1) := by decide +kernel
theorem d_Ar_copyOf_20 : decode prog_25_method_121_code 20 = .ok (.aload_n 2, 1) := by decide +kernel
theorem d_Ar_copyOf_21 : decode prog_25_method_121_code 21 = .ok (.iconst 0, 1) := by decide +kernel
theorem d_Ar_copyOf_22 : decode prog_25_method_121_code 22 = .ok (.aload_n 0, 1) := by decide +kernel
theorem d_Ar_copyOf_23 : decode prog_25_method_121_code 23 = .ok (.arraylength, 1) := by decide +kernel
theorem d_Ar_copyOf_24 : decode prog_25_method_121_code 24 = .ok (.iload_n 1, 1) := by decide +kernel
theorem d_Ar_copyOf_25 : decode prog_25_method_121_code 25 = .ok (.invokestatic 304, 3) := by decide +kernel
theorem d_Ar_copyOf_28 : decode prog_25_method_121_code 28 = .ok (.invokestatic 150, 3) := by decide +kernel
theorem d_Ar_copyOf_31 : decode prog_25_method_121_code 31 = .ok (.aload_n 2, 1) := by decide +kernel
theorem d_Ar_copyOf_32 : decode prog_25_method_121_code 32 = .ok (.areturn, 1) := by decide +kernel
theorem d_Ar_fill2_0 : decode prog_25_method_110_code 0 = .ok (.aload_n 0, 1) := by decide +kernel
theorem d_Ar_fill2_1 : decode prog_25_method_110_code 1 = .ok (.arraylength, 1) := by decide +kernel
theorem d_Ar_fill2_2 : decode prog_25_method_110_code 2 = .ok (.iload_n 1, 1) := by decide +kernel
theorem d_Ar_fill2_3 : decode prog_25_method_110_code 3 = .ok (.iload_n 2, 1) := by decide +kernel
theorem d_Ar_fill2_4 : decode prog_25_method_110_code 4 = .ok (.invokestatic 13, 3) := by decide +kernel
theorem d_Ar_fill2_7 : decode prog_25_method_110_code 7 = .ok (.iload_n 1, 1) := by decide +kernel
theorem d_Ar_fill2_8 : decode prog_25_method_110_code 8 = .ok (.istore 4, 2) := by decide +kernel
theorem d_Ar_fill2_10 : decode prog_25_method_110_code 10 = .ok (.iload 4, 2) := by decide +kernel
theorem d_Ar_fill2_12 : decode prog_25_method_110_code 12 = .ok (.iload_n 2, 1) := by decide +kernel
theorem d_Ar_fill2_13 : decode prog_25_method_110_code 13 = .ok (.if_icmp .ge 14, 3) := by decide +kernel
theorem d_Ar_fill2_16 : decode prog_25_method_110_code 16 = .ok (.aload_n 0, 1) := by decide +kernel
theorem d_Ar_fill2_17 : decode prog_25_method_110_code 17 = .ok (.iload 4, 2) := by decide +kernel
theorem d_Ar_fill2_19 : decode prog_25_method_110_code 19 = .ok (.iload_n 3, 1) := by decide +kernel
theorem d_Ar_fill2_20 : decode prog_25_method_110_code 20 = .ok (.bastore, 1) := by decide +kernel
theorem d_Ar_fill2_21 : decode prog_25_method_110_code 21 = .ok (.iinc 4 1, 3) := by decide +kernel
theorem d_Ar_fill2_24 : decode prog_25_method_110_code 24 = .ok (.goto (-14), 3) := by decide +kernel
theorem d_Ar_fill2_27 : decode prog_25_method_110_code 27 = .ok (.return_, 1) := by decide +kernel
theorem d_Ar_rangeCheck_0 : decode prog_25_method_30_code 0 = .ok (.iload_n 1, 1) := by decide +kernel
theorem d_Ar_rangeCheck_1 : decode prog_25_method_30_code 1 = .ok (.iload_n 2, 1) := by decide +kernel
theorem d_Ar_rangeCheck_2 : decode prog_25_method_30_code 2 = .ok (.if_icmp .le 44, 3) := by decide +kernel
theorem d_Ar_rangeCheck_5 : decode prog_25_method_30_code 5 = .ok (.new 43, 3) := by decide +kernel
theorem d_Ar_rangeCheck_8 : decode prog_25_method_30_code 8 = .ok (.dup, 1) := by decide +kernel
theorem d_Ar_rangeCheck_9 : decode prog_25_method_30_code 9 = .ok (.new 45, 3) := by decide +kernel
theorem d_Ar_rangeCheck_12 : decode prog_25_method_30_code 12 = .ok (.dup, 1) := by decide +kernel
theorem d_Ar_rangeCheck_13 : decode prog_25_method_30_code 13 = .ok (.invokespecial 47, 3) := by decide +kernel
theorem d_Ar_rangeCheck_16 : decode prog_25_method_30_code 16 = .ok (.ldc 48, 2) := by decide +kernel
theorem d_Ar_rangeCheck_18 : decode prog_25_method_30_code 18 = .ok (.invokevirtual 50, 3) := by decide +kernel
theorem d_Ar_rangeCheck_21 : decode prog_25_method_30_code 21 = .ok (.iload_n 1, 1) := by decide +kernel
theorem d_Ar_rangeCheck_22 : decode prog_25_method_30_code 22 = .ok (.invokevirtual 54, 3) := by decide +kernel
theorem d_Ar_rangeCheck_25 : decode prog_25_method_30_code 25 = .ok (.ldc 57, 2) := by decide +kernel
theorem d_Ar_rangeCheck_27 : decode prog_25_method_30_code 27 = .ok (.invokevirtual 50, 3) := by decide +kernel
theorem d_Ar_rangeCheck_30 : decode prog_25_method_30_code 30 = .ok (.iload_n 2, 1) := by decide +kernel
theorem d_Ar_rangeCheck_31 : decode prog_25_method_30_code 31 = .ok (.invokevirtual 54, 3) := by decide +kernel
theorem d_Ar_rangeCheck_34 : decode prog_25_method_30_code 34 = .ok (.ldc 59, 2) := by decide +kernel
theorem d_Ar_rangeCheck_36 : decode prog_25_method_30_code 36 = .ok (.invokevirtual 50, 3) := by decide +kernel
theorem d_Ar_rangeCheck_39 : decode prog_25_method_30_code 39 = .ok (.invokevirtual 61, 3) := by decide +kernel
theorem d_Ar_rangeCheck_42 : decode prog_25_method_30_code 42 = .ok (.invokespecial 65, 3) := by decide +kernel
theorem d_Ar_rangeCheck_45 : decode prog_25_method_30_code 45 = .ok (.athrow, 1) := by decide +kernel
theorem d_Ar_rangeCheck_46 : decode prog_25_method_30_code 46 = .ok (.iload_n 1, 1) := by decide +kernel
theorem d_Ar_rangeCheck_47 : decode prog_25_method_30_code 47 = .ok (.ifCond .ge 12, 3) := by decide +kernel
theorem d_Ar_rangeCheck_50 : decode prog_25_method_30_code 50 = .ok (.new 68, 3) := by decide +kernel
theorem d_Ar_rangeCheck_53 : decode prog_25_method_30_code 53 = .ok (.dup, 1) := by decide +kernel
theorem d_Ar_rangeCheck_54 : decode prog_25_method_30_code 54 = .ok (.iload_n 1, 1) := by decide +kernel
theorem d_Ar_rangeCheck_55 : decode prog_25_method_30_code 55 = .ok (.invokespecial 70, 3) := by decide +kernel
theorem d_Ar_rangeCheck_58 : decode prog_25_method_30_code 58 = .ok (.athrow, 1) := by decide +kernel
theorem d_Ar_rangeCheck_59 : decode prog_25_method_30_code 59 = .ok (.iload_n 2, 1) := by decide +kernel
theorem d_Ar_rangeCheck_60 : decode prog_25_method_30_code 60 = .ok (.iload_n 0, 1) := by decide +kernel
theorem d_Ar_rangeCheck_61 : decode prog_25_method_30_code 61 = .ok (.if_icmp .le 12, 3) := by decide +kernel
theorem d_Ar_rangeCheck_64 : decode prog_25_method_30_code 64 = .ok (.new 68, 3) := by decide +kernel
theorem d_Ar_rangeCheck_67 : decode prog_25_method_30_code 67 = .ok (.dup, 1) := by decide +kernel
theorem d_Ar_rangeCheck_68 : decode prog_25_method_30_code 68 = .ok (.iload_n 2, 1) := by decide +kernel
theorem d_Ar_rangeCheck_69 : decode prog_25_method_30_code 69 = .ok (.invokespecial 70, 3) := by decide +kernel
theorem d_Ar_rangeCheck_72 : decode prog_25_method_30_code 72 = .ok (.athrow, 1) := by decide +kernel
theorem d_Ar_rangeCheck_73 : decode prog_25_method_30_code 73 = .ok (.return_, 1) := by decide +kernel
theorem d_Ar_copyOf2_0 : decode prog_25_method_119_code 0 = .ok (.aload_n 0, 1) := by decide +kernel
theorem d_Ar_copyOf2_1 : decode prog_25_method_119_code 1 = .ok (.iload_n 1, 1) := by decide +kernel
theorem d_Ar_copyOf2_2 : decode prog_25_method_119_code 2 = .ok (.aload_n 0, 1) := by decide +kernel
theorem d_Ar_copyOf2_3 : decode prog_25_method_119_code 3 = .ok (.invokevirtual 86, 3) := by decide +kernel
theorem d_Ar_copyOf2_6 : decode prog_25_method_119_code 6 = .ok (.invokestatic 300, 3) := by decide +kernel
theorem d_Ar_copyOf2_9 : decode prog_25_method_119_code 9 = .ok (.areturn, 1) := by decide +kernel
theorem d_Ar_copyOf3_0 : decode prog_25_method_120_code 0 = .ok (.aload_n 2, 1) := by decide +kernel
theorem d_Ar_copyOf3_1 : decode prog_25_method_120_code 1 = .ok (.ldc 110, 2) := by decide +kernel
theorem d_Ar_copyOf3_3 : decode prog_25_method_120_code 3 = .ok (.if_acmp .ne 10, 3) := by decide +kernel
theorem d_Ar_copyOf3_6 : decode prog_25_method_120_code 6 = .ok (.iload_n 1, 1) := by decide +kernel
theorem d_Ar_copyOf3_7 : decode prog_25_method_120_code 7 = .ok (.anewarray 2, 3) := by decide +kernel
theorem d_Ar_copyOf3_10 : decode prog_25_method_120_code 10 = .ok (.goto 14, 3) := by decide +kernel
theorem d_Ar_copyOf3_13 : decode prog_25_method_120_code 13 = .ok (.aload_n 2, 1) := by decide +kernel
theorem d_Ar_copyOf3_14 : decode prog_25_method_120_code 14 = .ok (.invokevirtual 90, 3) := by decide +kernel
theorem d_Ar_copyOf3_17 : decode prog_25_method_120_code 17 = .ok (.iload_n 1, 1) := by decide +kernel
theorem d_Ar_copyOf3_18 : decode prog_25_method_120_code 18 = .ok (.invokestatic 95, 3) := by decide +kernel
theorem d_Ar_copyOf3_21 : decode prog_25_method_120_code 21 = .ok (.checkcast 110, 3) := by decide +kernel
theorem d_Ar_copyOf3_24 : decode prog_25_method_120_code 24 = .ok (.astore_n 3, 1) := by decide +kernel
theorem d_Ar_copyOf3_25 : decode prog_25_method_120_code 25 = .ok (.aload_n 0, 1) := by decide +kernel
theorem d_Ar_copyOf3_26 : decode prog_25_method_120_code 26 = .ok (.iconst 0, 1) := by decide +kernel
theorem d_Ar_copyOf3_27 : decode prog_25_method_120_code 27 = .ok (.aload_n 3, 1) := by decide +kernel
theorem d_Ar_copyOf3_28 : decode prog_25_method_120_code 28 = .ok (.iconst 0, 1) := by decide +kernel
theorem d_Ar_copyOf3_29 : decode prog_25_method_120_code 29 = .ok (.aload_n 0, 1) := by decide +kernel
theorem d_Ar_copyOf3_30 : decode prog_25_method_120_code 30 = .ok (.arraylength, 1) := by decide +kernel
theorem d_Ar_copyOf3_31 : decode prog_25_method_120_code 31 = .ok (.iload_n 1, 1) := by decide +kernel
theorem d_Ar_copyOf3_32 : decode prog_25_method_120_code 32 = .ok (.invokestatic 304, 3) := by decide +kernel
theorem d_Ar_copyOf3_35 : decode prog_25_method_120_code 35 = .ok (.invokestatic 150, 3) := by decide +kernel
theorem d_Ar_copyOf3_38 : decode prog_25_method_120_code 38 = .ok (.aload_n 3, 1) := by decide +kernel
theorem d_Ar_copyOf3_39 : decode prog_25_method_120_code 39 = .ok (.areturn, 1) := by decide +kernel
theorem d_Ax_init_0 : decode prog_23_method_1_code 0 = .ok (.aload_n 0, 1) := by decide +kernel
theorem d_Ax_init_1 : decode prog_23_method_1_code 1 = .ok (.invokespecial 1, 3) := by decide +kernel
theorem d_Ax_init_4 : decode prog_23_method_1_code 4 = .ok (.aload_n 0, 1) := by decide +kernel
theorem d_Ax_init_5 : decode prog_23_method_1_code 5 = .ok (.iconst 0, 1) := by decide +kernel
theorem d_Ax_init_6 : decode prog_23_method_1_code 6 = .ok (.putfield 7, 3) := by decide +kernel
theorem d_Ax_init_9 : decode prog_23_method_1_code 9 = .ok (.return_, 1) := by decide +kernel
theorem d_Ac_init_0 : decode prog_22_method_1_code 0 = .ok (.aload_n 0, 1) := by decide +kernel
theorem d_Ac_init_1 : decode prog_22_method_1_code 1 = .ok (.invokespecial 1, 3) := by decide +kernel
theorem d_Ac_init_4 : decode prog_22_method_1_code 4 = .ok (.return_, 1) := by decide +kernel
theorem d_Pr_checkIndex_0 : decode prog_32_method_11_code 0 = .ok (.iload_n 0, 1) := by decide +kernel
theorem d_Pr_checkIndex_1 : decode prog_32_method_11_code 1 = .ok (.ifCond .lt 8, 3) := by decide +kernel
theorem d_Pr_checkIndex_4 : decode prog_32_method_11_code 4 = .ok (.iload_n 0, 1) := by decide +kernel
theorem d_Pr_checkIndex_5 : decode prog_32_method_11_code 5 = .ok (.iload_n 1, 1) := by decide +kernel
theorem d_Pr_checkIndex_6 : decode prog_32_method_11_code 6 = .ok (.if_icmp .lt 10, 3) := by decide +kernel
theorem d_Pr_checkIndex_9 : decode prog_32_method_11_code 9 = .ok (.aload_n 2, 1) := by decide +kernel
theorem d_Pr_checkIndex_10 : decode prog_32_method_11_code 10 = .ok (.iload_n 0, 1) := by decide +kernel
theorem d_Pr_checkIndex_11 : decode prog_32_method_11_code 11 = .ok (.iload_n 1, 1) := by decide +kernel
theorem d_Pr_checkIndex_12 : decode prog_32_method_11_code 12 = .ok (.invokestatic 95, 3) := by decide +kernel
theorem d_Pr_checkIndex_15 : decode prog_32_method_11_code 15 = .ok (.athrow, 1) := by decide +kernel
theorem d_Pr_checkIndex_16 : decode prog_32_method_11_code 16 = .ok (.iload_n 0, 1) := by decide +kernel
theorem d_Pr_checkIndex_17 : decode prog_32_method_11_code 17 = .ok (.ireturn, 1) := by decide +kernel
theorem d_Pr_checkFromToIndex_0 : decode prog_32_method_12_code 0 = .ok (.iload_n 0, 1) := by decide +kernel
theorem d_Pr_checkFromToIndex_1 : decode prog_32_method_12_code 1 = .ok (.ifCond .lt 13, 3) := by decide +kernel
theorem d_Pr_checkFromToIndex_4 : decode prog_32_method_12_code 4 = .ok (.iload_n 0, 1) := by decide +kernel
theorem d_Pr_checkFromToIndex_5 : decode prog_32_method_12_code 5 = .ok (.iload_n 1, 1) := by decide +kernel
theorem d_Pr_checkFromToIndex_6 : decode prog_32_method_12_code 6 = .ok (.if_icmp .gt 8, 3) := by decide +kernel
theorem d_Pr_checkFromToIndex_9 : decode prog_32_method_12_code 9 = .ok (.iload_n 1, 1) := by decide +kernel
theorem d_Pr_checkFromToIndex_10 : decode prog_32_method_12_code 10 = .ok (.iload_n 2, 1) := by decide +kernel
theorem d_Pr_checkFromToIndex_11 : decode prog_32_method_12_code 11 = .ok (.if_icmp .le 11, 3) := by decide +kernel
theorem d_Pr_checkFromToIndex_14 : decode prog_32_method_12_code 14 = .ok (.aload_n 3, 1) := by decide +kernel
theorem d_Pr_checkFromToIndex_15 : decode prog_32_method_12_code 15 = .ok (.iload_n 0, 1) := by decide +kernel
theorem d_Pr_checkFromToIndex_16 : decode prog_32_method_12_code 16 = .ok (.iload_n 1, 1) := by decide +kernel
theorem d_Pr_checkFromToIndex_17 : decode prog_32_method_12_code 17 = .ok (.iload_n 2, 1) := by decide +kernel
theorem d_Pr_checkFromToIndex_18 : decode prog_32_method_12_code 18 = .ok (.invokestatic 99, 3) := by decide +kernel
theorem d_Pr_checkFromToIndex_21 : decode prog_32_method_12_code 21 = .ok (.athrow, 1) := by decide +kernel
theorem d_Pr_checkFromToIndex_22 : decode prog_32_method_12_code 22 = .ok (.iload_n 0, 1) := by decide +kernel
theorem d_Pr_checkFromToIndex_23 : decode prog_32_method_12_code 23 = .ok (.ireturn, 1) := by decide +kernel
theorem d_Pr_checkFromIndexSize_0 : decode prog_32_method_13_code 0 = .ok (.iload_n 2, 1) := by decide +kernel
theorem d_Pr_checkFromIndexSize_1 : decode prog_32_method_13_code 1 = .ok (.iload_n 0, 1) := by decide +kernel
theorem d_Pr_checkFromIndexSize_2 : decode prog_32_method_13_code 2 = .ok (.ior, 1) := by decide +kernel
theorem d_Pr_checkFromIndexSize_3 : decode prog_32_method_13_code 3 = .ok (.iload_n 1, 1) := by decide +kernel
theorem d_Pr_checkFromIndexSize_4 : decode prog_32_method_13_code 4 = .ok (.ior, 1) := by decide +kernel
theorem d_Pr_checkFromIndexSize_5 : decode prog_32_method_13_code 5 = .ok (.ifCond .lt 10, 3) := by decide +kernel
theorem d_Pr_checkFromIndexSize_8 : decode prog_32_method_13_code 8 = .ok (.iload_n 1, 1) := by decide +kernel
theorem d_Pr_checkFromIndexSize_9 : decode prog_32_method_13_code 9 = .ok (.iload_n 2, 1) := by decide +kernel
theorem d_Pr_checkFromIndexSize_10 : decode prog_32_method_13_code 10 = .ok (.iload_n 0, 1) := by decide +kernel
theorem d_Pr_checkFromIndexSize_11 : decode prog_32_method_13_code 11 = .ok (.isub, 1) := by decide +kernel
theorem d_Pr_checkFromIndexSize_12 : decode prog_32_method_13_code 12 = .ok (.if_icmp .le 11, 3) := by decide +kernel
theorem d_Pr_checkFromIndexSize_15 : decode prog_32_method_13_code 15 = .ok (.aload_n 3, 1) := by decide +kernel
theorem d_Pr_checkFromIndexSize_16 : decode prog_32_method_13_code 16 = .ok (.iload_n 0, 1) := by decide +kernel
theorem d_Pr_checkFromIndexSize_17 : decode prog_32_method_13_code 17 = .ok (.iload_n 1, 1) := by decide +kernel
theorem d_Pr_checkFromIndexSize_18 : decode prog_32_method_13_code 18 = .ok (.iload_n 2, 1) := by decide +kernel
theorem d_Pr_checkFromIndexSize_19 : decode prog_32_method_13_code 19 = .ok (.invokestatic 103, 3) := by decide +kernel
theorem d_Pr_checkFromIndexSize_22 : decode prog_32_method_13_code 22 = .ok (.athrow, 1) := by decide +kernel
theorem d_Pr_checkFromIndexSize_23 : decode prog_32_method_13_code 23 = .ok (.iload_n 0, 1) := by decide +kernel
theorem d_Pr_checkFromIndexSize_24 : decode prog_32_method_13_code 24 = .ok (.ireturn, 1) := by decide +kernel
theorem d_As_newLength_0 : decode prog_31_method_27_code 0 = .ok (.iload_n 0, 1) := by decide +kernel
theorem d_As_newLength_1 : decode prog_31_method_27_code 1 = .ok (.iload_n 1, 1) := by decide +kernel
theorem d_As_newLength_2 : decode prog_31_method_27_code 2 = .ok (.iload_n 2, 1) := by decide +kernel
theorem d_As_newLength_3 : decode prog_31_method_27_code 3 = .ok (.invokestatic 194, 3) := by decide +kernel
theorem d_As_newLength_6 : decode prog_31_method_27_code 6 = .ok (.iadd, 1) := by decide +kernel
theorem d_As_newLength_7 : decode prog_31_method_27_code 7 = .ok (.istore_n 3, 1) := by decide +kernel
theorem d_As_newLength_8 : decode prog_31_method_27_code 8 = .ok (.iconst 0, 1) := by decide +kernel
theorem d_As_newLength_9 : decode prog_31_method_27_code 9 = .ok (.iload_n 3, 1) := by decide +kernel
theorem d_As_newLength_10 : decode prog_31_method_27_code 10 = .ok (.if_icmp .ge 11, 3) := by decide +kernel
theorem d_As_newLength_13 : decode prog_31_method_27_code 13 = .ok (.iload_n 3, 1) := by decide +kernel
theorem d_As_newLength_14 : decode prog_31_method_27_code 14 = .ok (.ldc 200, 2) := by decide +kernel
theorem d_As_newLength_16 : decode prog_31_method_27_code 16 = .ok (.if_icmp .gt 5, 3) := by decide +kernel
theorem d_As_newLength_19 : decode prog_31_method_27_code 19 = .ok (.iload_n 3, 1) := by decide +kernel
theorem d_As_newLength_20 : decode prog_31_method_27_code 20 = .ok (.ireturn, 1) := by decide +kernel
theorem d_As_newLength_21 : decode prog_31_method_27_code 21 = .ok (.iload_n 0, 1) := by decide +kernel
theorem d_As_newLength_22 : decode prog_31_method_27_code 22 = .ok (.iload_n 1, 1) := by decide +kernel
theorem d_As_newLength_23 : decode prog_31_method_27_code 23 = .ok (.invokestatic 201, 3) := by decide +kernel
theorem d_As_newLength_26 : decode prog_31_method_27_code 26 = .ok (.ireturn, 1) := by decide +kernel
theorem d_As_hugeLength_0 : decode prog_31_method_28_code 0 = .ok (.iload_n 0, 1) := by decide +kernel
theorem d_As_hugeLength_1 : decode prog_31_method_28_code 1 = .ok (.iload_n 1, 1) := by decide +kernel
theorem d_As_hugeLength_2 : decode prog_31_method_28_code 2 = .ok (.iadd, 1) := by decide +kernel
theorem d_As_hugeLength_3 : decode prog_31_method_28_code 3 = .ok (.istore_n 2, 1) := by decide +kernel
theorem d_As_hugeLength_4 : decode prog_31_method_28_code 4 = .ok (.iload_n 2, 1) := by decide +kernel
theorem d_As_hugeLength_5 : decode prog_31_method_28_code 5 = .ok (.ifCond .ge 44, 3) := by decide +kernel
theorem d_As_hugeLength_8 : decode prog_31_method_28_code 8 = .ok (.new 204, 3) := by decide +kernel
theorem d_As_hugeLength_11 : decode prog_31_method_28_code 11 = .ok (.dup, 1) := by decide +kernel
theorem d_As_hugeLength_12 : decode prog_31_method_28_code 12 = .ok (.new 89, 3) := by decide +kernel
theorem d_As_hugeLength_15 : decode prog_31_method_28_code 15 = .ok (.dup, 1) := by decide +kernel
theorem d_As_hugeLength_16 : decode prog_31_method_28_code 16 = .ok (.invokespecial 91, 3) := by decide +kernel
theorem d_As_hugeLength_19 : decode prog_31_method_28_code 19 = .ok (.ldc 206, 2) := by decide +kernel
theorem d_As_hugeLength_21 : decode prog_31_method_28_code 21 = .ok (.invokevirtual 94, 3) := by decide +kernel
theorem d_As_hugeLength_24 : decode prog_31_method_28_code 24 = .ok (.iload_n 0, 1) := by decide +kernel
theorem d_As_hugeLength_25 : decode prog_31_method_28_code 25 = .ok (.invokevirtual 98, 3) := by decide +kernel
theorem d_As_hugeLength_28 : decode prog_31_method_28_code 28 = .ok (.ldc 208, 2) := by decide +kernel
theorem d_As_hugeLength_30 : decode prog_31_method_28_code 30 = .ok (.invokevirtual 94, 3) := by decide +kernel
theorem d_As_hugeLength_33 : decode prog_31_method_28_code 33 = .ok (.iload_n 1, 1) := by decide +kernel
theorem d_As_hugeLength_34 : decode prog_31_method_28_code 34 = .ok (.invokevirtual 98, 3) := by decide +kernel
theorem d_As_hugeLength_37 : decode prog_31_method_28_code 37 = .ok (.ldc 210, 2) := by decide +kernel
theorem d_As_hugeLength_39 : decode prog_31_method_28_code 39 = .ok (.invokevirtual 94, 3) := by decide +kernel
theorem d_As_hugeLength_42 : decode prog_31_method_28_code 42 = .ok (.invokevirtual 101, 3) := by decide +kernel
theorem d_As_hugeLength_45 : decode prog_31_method_28_code 45 = .ok (.invokespecial 212, 3) := by decide +kernel
theorem d_As_hugeLength_48 : decode prog_31_method_28_code 48 = .ok (.athrow, 1) := by decide +kernel
theorem d_As_hugeLength_49 : decode prog_31_method_28_code 49 = .ok (.iload_n 2, 1) := by decide +kernel
theorem d_As_hugeLength_50 : decode prog_31_method_28_code 50 = .ok (.ldc 200, 2) := by decide +kernel
theorem d_As_hugeLength_52 : decode prog_31_method_28_code 52 = .ok (.if_icmp .gt 6, 3) := by decide +kernel
theorem d_As_hugeLength_55 : decode prog_31_method_28_code 55 = .ok (.ldc 200, 2) := by decide +kernel
theorem d_As_hugeLength_57 : decode prog_31_method_28_code 57 = .ok (.ireturn, 1) := by decide +kernel
theorem d_As_hugeLength_58 : decode prog_31_method_28_code 58 = .ok (.iload_n 2, 1) := by decide +kernel
theorem d_As_hugeLength_59 : decode prog_31_method_28_code 59 = .ok (.ireturn, 1) := by decide +kernel
theorem d_Ob_checkIndex_0 : decode prog_28_method_17_code 0 = .ok (.iload_n 0, 1) := by decide +kernel
theorem d_Ob_checkIndex_1 : decode prog_28_method_17_code 1 = .ok (.iload_n 1, 1) := by decide +kernel
theorem d_Ob_checkIndex_2 : decode prog_28_method_17_code 2 = .ok (.aconst_null, 1) := by decide +kernel
theorem d_Ob_checkIndex_3 : decode prog_28_method_17_code 3 = .ok (.invokestatic 105, 3) := by decide +kernel
theorem d_Ob_checkIndex_6 : decode prog_28_method_17_code 6 = .ok (.ireturn, 1) := by decide +kernel
theorem d_Mt_min_0 : decode prog_16_method_69_code 0 = .ok (.iload_n 0, 1) := by decide +kernel
theorem d_Mt_min_1 : decode prog_16_method_69_code 1 = .ok (.iload_n 1, 1) := by decide +kernel
theorem d_Mt_min_2 : decode prog_16_method_69_code 2 = .ok (.if_icmp .gt 7, 3) := by decide +kernel
theorem d_Mt_min_5 : decode prog_16_method_69_code 5 = .ok (.iload_n 0, 1) := by decide +kernel
theorem d_Mt_min_6 : decode prog_16_method_69_code 6 = .ok (.goto 4, 3) := by decide +kernel
theorem d_Mt_min_9 : decode prog_16_method_69_code 9 = .ok (.iload_n 1, 1) := by decide +kernel
theorem d_Mt_min_10 : decode prog_16_method_69_code 10 = .ok (.ireturn, 1) := by decide +kernel
theorem d_Mt_max_0 : decode prog_16_method_65_code 0 = .ok (.iload_n 0, 1) := by decide +kernel
theorem d_Mt_max_1 : decode prog_16_method_65_code 1 = .ok (.iload_n 1, 1) := by decide +kernel
theorem d_Mt_max_2 : decode prog_16_method_65_code 2 = .ok (.if_icmp .lt 7, 3) := by decide +kernel
theorem d_Mt_max_5 : decode prog_16_method_65_code 5 = .ok (.iload_n 0, 1) := by decide +kernel
theorem d_Mt_max_6 : decode prog_16_method_65_code 6 = .ok (.goto 4, 3) := by decide +kernel
theorem d_Mt_max_9 : decode prog_16_method_65_code 9 = .ok (.iload_n 1, 1) := by decide +kernel
theorem d_Mt_max_10 : decode prog_16_method_65_code 10 = .ok (.ireturn, 1) := by decide +kernel
